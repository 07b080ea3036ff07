section
theorem vyb_cJ5_init_d00df_0 {i : Nat} {b : UInt8} (h : ([0x2a, 0xb7, 0x00, 0x03, 0xb2, 0x00, 0x12, 0x99, 0x00, 0x12] : List UInt8)[i]? = some b) : vy_8 cJ5_init_d00df (0 + i) b := vy_in (n := 10) (by decide +kernel) h
theorem vyb_cJ5_init_d00df_1 {i : Nat} {b : UInt8} (h : ([0x2a, 0x1b, 0xbc, 0x08, 0xb5, 0x00, 0x0f, 0x2a, 0x03, 0xb5] : List UInt8)[i]? = some b) : vy_8 cJ5_init_d00df (10 + i) b := vy_in (n := 10) (by decide +kernel) h
theorem vyb_cJ5_init_d00df_2 {i : Nat} {b : UInt8} (h : ([0x00, 0x16, 0xa7, 0x00, 0x10, 0x2a, 0x1b, 0xb8, 0x00, 0x1a] : List UInt8)[i]? = some b) : vy_8 cJ5_init_d00df (20 + i) b := vy_in (n := 10) (by decide +kernel) h
theorem vyb_cJ5_init_d00df_3 {i : Nat} {b : UInt8} (h : ([0xb5, 0x00, 0x0f, 0x2a, 0x04, 0xb5, 0x00, 0x16, 0xb1] : List UInt8)[i]? = some b) : vy_8 cJ5_init_d00df (30 + i) b := vy_in (n := 9) (by decide +kernel) h
theorem dJ5_init_d00df_0 : decode cJ5_init_d00df 0 = Except.ok (Instr.aload_n 0, 1) := vyd_42 (vyb_cJ5_init_d00df_0 (i := 0) rfl)
theorem dJ5_init_d00df_1 : decode cJ5_init_d00df 1 = Except.ok (Instr.invokespecial 3, 3) := vyd_183 (vyb_cJ5_init_d00df_0 (i := 1) rfl) (vyb_cJ5_init_d00df_0 (i := 2) rfl) (vyb_cJ5_init_d00df_0 (i := 3) rfl) rfl
theorem dJ5_init_d00df_4 : decode cJ5_init_d00df 4 = Except.ok (Instr.getstatic 18, 3) := vyd_178 (vyb_cJ5_init_d00df_0 (i := 4) rfl) (vyb_cJ5_init_d00df_0 (i := 5) rfl) (vyb_cJ5_init_d00df_0 (i := 6) rfl) rfl
theorem dJ5_init_d00df_7 : decode cJ5_init_d00df 7 = Except.ok (Instr.ifCond .eq 18, 3) := vyd_153 (vyb_cJ5_init_d00df_0 (i := 7) rfl) (vyb_cJ5_init_d00df_0 (i := 8) rfl) (vyb_cJ5_init_d00df_0 (i := 9) rfl) (by decide +kernel)
theorem dJ5_init_d00df_10 : decode cJ5_init_d00df 10 = Except.ok (Instr.aload_n 0, 1) := vyd_42 (vyb_cJ5_init_d00df_1 (i := 0) rfl)
theorem dJ5_init_d00df_11 : decode cJ5_init_d00df 11 = Except.ok (Instr.iload_n 1, 1) := vyd_27 (vyb_cJ5_init_d00df_1 (i := 1) rfl)
theorem dJ5_init_d00df_12 : decode cJ5_init_d00df 12 = .ok (.newarray .byte, 2) := by decide +kernel
theorem dJ5_init_d00df_14 : decode cJ5_init_d00df 14 = Except.ok (Instr.putfield 15, 3) := vyd_181 (vyb_cJ5_init_d00df_1 (i := 4) rfl) (vyb_cJ5_init_d00df_1 (i := 5) rfl) (vyb_cJ5_init_d00df_1 (i := 6) rfl) rfl
theorem dJ5_init_d00df_17 : decode cJ5_init_d00df 17 = Except.ok (Instr.aload_n 0, 1) := vyd_42 (vyb_cJ5_init_d00df_1 (i := 7) rfl)
theorem dJ5_init_d00df_18 : decode cJ5_init_d00df 18 = Except.ok (Instr.iconst 0, 1) := vyd_3 (vyb_cJ5_init_d00df_1 (i := 8) rfl)
theorem dJ5_init_d00df_19 : decode cJ5_init_d00df 19 = Except.ok (Instr.putfield 22, 3) := vyd_181 (vyb_cJ5_init_d00df_1 (i := 9) rfl) (vyb_cJ5_init_d00df_2 (i := 0) rfl) (vyb_cJ5_init_d00df_2 (i := 1) rfl) rfl
theorem dJ5_init_d00df_22 : decode cJ5_init_d00df 22 = Except.ok (Instr.goto 16, 3) := vyd_167 (vyb_cJ5_init_d00df_2 (i := 2) rfl) (vyb_cJ5_init_d00df_2 (i := 3) rfl) (vyb_cJ5_init_d00df_2 (i := 4) rfl) (by decide +kernel)
theorem dJ5_init_d00df_38 : decode cJ5_init_d00df 38 = Except.ok (Instr.return_, 1) := vyd_177 (vyb_cJ5_init_d00df_3 (i := 8) rfl)
theorem vyb_cJ5_length_8abf5_0 {i : Nat} {b : UInt8} (h : ([0x2a, 0xb4, 0x00, 0x4f, 0xac] : List UInt8)[i]? = some b) : vy_8 cJ5_length_8abf5 (0 + i) b := vy_in (n := 5) (by decide +kernel) h
theorem dJ5_length_8abf5_0 : decode cJ5_length_8abf5 0 = Except.ok (Instr.aload_n 0, 1) := vyd_42 (vyb_cJ5_length_8abf5_0 (i := 0) rfl)
theorem dJ5_length_8abf5_1 : decode cJ5_length_8abf5 1 = Except.ok (Instr.getfield 79, 3) := vyd_180 (vyb_cJ5_length_8abf5_0 (i := 1) rfl) (vyb_cJ5_length_8abf5_0 (i := 2) rfl) (vyb_cJ5_length_8abf5_0 (i := 3) rfl) rfl
theorem dJ5_length_8abf5_4 : decode cJ5_length_8abf5 4 = Except.ok (Instr.ireturn, 1) := vyd_172 (vyb_cJ5_length_8abf5_0 (i := 4) rfl)
theorem vyb_cJ5_ensureCapacityInternal_d00df_0 {i : Nat} {b : UInt8} (h : ([0x2a, 0xb4, 0x00, 0x0f, 0xbe, 0x2a, 0xb4, 0x00, 0x16, 0x7a] : List UInt8)[i]? = some b) : vy_8 cJ5_ensureCapacityInternal_d00df (0 + i) b := vy_in (n := 10) (by decide +kernel) h
theorem vyb_cJ5_ensureCapacityInternal_d00df_1 {i : Nat} {b : UInt8} (h : ([0x3d, 0x1b, 0x1c, 0x64, 0x9e, 0x00, 0x18, 0x2a, 0x2a, 0xb4] : List UInt8)[i]? = some b) : vy_8 cJ5_ensureCapacityInternal_d00df (10 + i) b := vy_in (n := 10) (by decide +kernel) h
theorem vyb_cJ5_ensureCapacityInternal_d00df_2 {i : Nat} {b : UInt8} (h : ([0x00, 0x0f, 0x2a, 0x1b, 0xb6, 0x00, 0x68, 0x2a, 0xb4, 0x00] : List UInt8)[i]? = some b) : vy_8 cJ5_ensureCapacityInternal_d00df (20 + i) b := vy_in (n := 10) (by decide +kernel) h
theorem vyb_cJ5_ensureCapacityInternal_d00df_3 {i : Nat} {b : UInt8} (h : ([0x16, 0x78, 0xb8, 0x00, 0x6c, 0xb5, 0x00, 0x0f, 0xb1] : List UInt8)[i]? = some b) : vy_8 cJ5_ensureCapacityInternal_d00df (30 + i) b := vy_in (n := 9) (by decide +kernel) h
theorem dJ5_ensureCapacityInternal_d00df_0 : decode cJ5_ensureCapacityInternal_d00df 0 = Except.ok (Instr.aload_n 0, 1) := vyd_42 (vyb_cJ5_ensureCapacityInternal_d00df_0 (i := 0) rfl)
theorem dJ5_ensureCapacityInternal_d00df_1 : decode cJ5_ensureCapacityInternal_d00df 1 = Except.ok (Instr.getfield 15, 3) := vyd_180 (vyb_cJ5_ensureCapacityInternal_d00df_0 (i := 1) rfl) (vyb_cJ5_ensureCapacityInternal_d00df_0 (i := 2) rfl) (vyb_cJ5_ensureCapacityInternal_d00df_0 (i := 3) rfl) rfl
theorem dJ5_ensureCapacityInternal_d00df_4 : decode cJ5_ensureCapacityInternal_d00df 4 = Except.ok (Instr.arraylength, 1) := vyd_190 (vyb_cJ5_ensureCapacityInternal_d00df_0 (i := 4) rfl)
theorem dJ5_ensureCapacityInternal_d00df_5 : decode cJ5_ensureCapacityInternal_d00df 5 = Except.ok (Instr.aload_n 0, 1) := vyd_42 (vyb_cJ5_ensureCapacityInternal_d00df_0 (i := 5) rfl)
theorem dJ5_ensureCapacityInternal_d00df_6 : decode cJ5_ensureCapacityInternal_d00df 6 = Except.ok (Instr.getfield 22, 3) := vyd_180 (vyb_cJ5_ensureCapacityInternal_d00df_0 (i := 6) rfl) (vyb_cJ5_ensureCapacityInternal_d00df_0 (i := 7) rfl) (vyb_cJ5_ensureCapacityInternal_d00df_0 (i := 8) rfl) rfl
theorem dJ5_ensureCapacityInternal_d00df_9 : decode cJ5_ensureCapacityInternal_d00df 9 = Except.ok (Instr.ishr, 1) := vyd_122 (vyb_cJ5_ensureCapacityInternal_d00df_0 (i := 9) rfl)
theorem dJ5_ensureCapacityInternal_d00df_10 : decode cJ5_ensureCapacityInternal_d00df 10 = Except.ok (Instr.istore_n 2, 1) := vyd_61 (vyb_cJ5_ensureCapacityInternal_d00df_1 (i := 0) rfl)
theorem dJ5_ensureCapacityInternal_d00df_11 : decode cJ5_ensureCapacityInternal_d00df 11 = Except.ok (Instr.iload_n 1, 1) := vyd_27 (vyb_cJ5_ensureCapacityInternal_d00df_1 (i := 1) rfl)
theorem dJ5_ensureCapacityInternal_d00df_12 : decode cJ5_ensureCapacityInternal_d00df 12 = Except.ok (Instr.iload_n 2, 1) := vyd_28 (vyb_cJ5_ensureCapacityInternal_d00df_1 (i := 2) rfl)
theorem dJ5_ensureCapacityInternal_d00df_13 : decode cJ5_ensureCapacityInternal_d00df 13 = Except.ok (Instr.isub, 1) := vyd_100 (vyb_cJ5_ensureCapacityInternal_d00df_1 (i := 3) rfl)
theorem dJ5_ensureCapacityInternal_d00df_14 : decode cJ5_ensureCapacityInternal_d00df 14 = Except.ok (Instr.ifCond .le 24, 3) := vyd_158 (vyb_cJ5_ensureCapacityInternal_d00df_1 (i := 4) rfl) (vyb_cJ5_ensureCapacityInternal_d00df_1 (i := 5) rfl) (vyb_cJ5_ensureCapacityInternal_d00df_1 (i := 6) rfl) (by decide +kernel)
theorem dJ5_ensureCapacityInternal_d00df_17 : decode cJ5_ensureCapacityInternal_d00df 17 = Except.ok (Instr.aload_n 0, 1) := vyd_42 (vyb_cJ5_ensureCapacityInternal_d00df_1 (i := 7) rfl)
theorem dJ5_ensureCapacityInternal_d00df_18 : decode cJ5_ensureCapacityInternal_d00df 18 = Except.ok (Instr.aload_n 0, 1) := vyd_42 (vyb_cJ5_ensureCapacityInternal_d00df_1 (i := 8) rfl)
theorem dJ5_ensureCapacityInternal_d00df_19 : decode cJ5_ensureCapacityInternal_d00df 19 = Except.ok (Instr.getfield 15, 3) := vyd_180 (vyb_cJ5_ensureCapacityInternal_d00df_1 (i := 9) rfl) (vyb_cJ5_ensureCapacityInternal_d00df_2 (i := 0) rfl) (vyb_cJ5_ensureCapacityInternal_d00df_2 (i := 1) rfl) rfl
theorem dJ5_ensureCapacityInternal_d00df_22 : decode cJ5_ensureCapacityInternal_d00df 22 = Except.ok (Instr.aload_n 0, 1) := vyd_42 (vyb_cJ5_ensureCapacityInternal_d00df_2 (i := 2) rfl)
theorem dJ5_ensureCapacityInternal_d00df_23 : decode cJ5_ensureCapacityInternal_d00df 23 = Except.ok (Instr.iload_n 1, 1) := vyd_27 (vyb_cJ5_ensureCapacityInternal_d00df_2 (i := 3) rfl)
theorem dJ5_ensureCapacityInternal_d00df_24 : decode cJ5_ensureCapacityInternal_d00df 24 = Except.ok (Instr.invokevirtual 104, 3) := vyd_182 (vyb_cJ5_ensureCapacityInternal_d00df_2 (i := 4) rfl) (vyb_cJ5_ensureCapacityInternal_d00df_2 (i := 5) rfl) (vyb_cJ5_ensureCapacityInternal_d00df_2 (i := 6) rfl) rfl
theorem dJ5_ensureCapacityInternal_d00df_27 : decode cJ5_ensureCapacityInternal_d00df 27 = Except.ok (Instr.aload_n 0, 1) := vyd_42 (vyb_cJ5_ensureCapacityInternal_d00df_2 (i := 7) rfl)
theorem dJ5_ensureCapacityInternal_d00df_28 : decode cJ5_ensureCapacityInternal_d00df 28 = Except.ok (Instr.getfield 22, 3) := vyd_180 (vyb_cJ5_ensureCapacityInternal_d00df_2 (i := 8) rfl) (vyb_cJ5_ensureCapacityInternal_d00df_2 (i := 9) rfl) (vyb_cJ5_ensureCapacityInternal_d00df_3 (i := 0) rfl) rfl
theorem dJ5_ensureCapacityInternal_d00df_31 : decode cJ5_ensureCapacityInternal_d00df 31 = Except.ok (Instr.ishl, 1) := vyd_120 (vyb_cJ5_ensureCapacityInternal_d00df_3 (i := 1) rfl)
theorem dJ5_ensureCapacityInternal_d00df_32 : decode cJ5_ensureCapacityInternal_d00df 32 = Except.ok (Instr.invokestatic 108, 3) := vyd_184 (vyb_cJ5_ensureCapacityInternal_d00df_3 (i := 2) rfl) (vyb_cJ5_ensureCapacityInternal_d00df_3 (i := 3) rfl) (vyb_cJ5_ensureCapacityInternal_d00df_3 (i := 4) rfl) rfl
theorem dJ5_ensureCapacityInternal_d00df_35 : decode cJ5_ensureCapacityInternal_d00df 35 = Except.ok (Instr.putfield 15, 3) := vyd_181 (vyb_cJ5_ensureCapacityInternal_d00df_3 (i := 5) rfl) (vyb_cJ5_ensureCapacityInternal_d00df_3 (i := 6) rfl) (vyb_cJ5_ensureCapacityInternal_d00df_3 (i := 7) rfl) rfl
theorem dJ5_ensureCapacityInternal_d00df_38 : decode cJ5_ensureCapacityInternal_d00df 38 = Except.ok (Instr.return_, 1) := vyd_177 (vyb_cJ5_ensureCapacityInternal_d00df_3 (i := 8) rfl)
theorem vyb_cJ5_newCapacity_0f7a4_0 {i : Nat} {b : UInt8} (h : ([0x2a, 0xb4, 0x00, 0x0f, 0xbe, 0x3d, 0x1b, 0x2a, 0xb4, 0x00] : List UInt8)[i]? = some b) : vy_8 cJ5_newCapacity_0f7a4 (0 + i) b := vy_in (n := 10) (by decide +kernel) h
theorem vyb_cJ5_newCapacity_0f7a4_1 {i : Nat} {b : UInt8} (h : ([0x16, 0x78, 0x3e, 0x1d, 0x1c, 0x64, 0x36, 0x04, 0x1c, 0x15] : List UInt8)[i]? = some b) : vy_8 cJ5_newCapacity_0f7a4 (10 + i) b := vy_in (n := 10) (by decide +kernel) h
theorem vyb_cJ5_newCapacity_0f7a4_2 {i : Nat} {b : UInt8} (h : ([0x04, 0x1c, 0x05, 0x2a, 0xb4, 0x00, 0x16, 0x78, 0x60, 0xb8] : List UInt8)[i]? = some b) : vy_8 cJ5_newCapacity_0f7a4 (20 + i) b := vy_in (n := 10) (by decide +kernel) h
theorem vyb_cJ5_newCapacity_0f7a4_3 {i : Nat} {b : UInt8} (h : ([0x00, 0x72, 0x36, 0x05, 0x15, 0x05, 0x12, 0x27, 0xa0, 0x00] : List UInt8)[i]? = some b) : vy_8 cJ5_newCapacity_0f7a4 (30 + i) b := vy_in (n := 10) (by decide +kernel) h
theorem vyb_cJ5_newCapacity_0f7a4_4 {i : Nat} {b : UInt8} (h : ([0x0d, 0xbb, 0x00, 0x78, 0x59, 0x12, 0x7a, 0xb7, 0x00, 0x7c] : List UInt8)[i]? = some b) : vy_8 cJ5_newCapacity_0f7a4 (40 + i) b := vy_in (n := 10) (by decide +kernel) h
theorem vyb_cJ5_newCapacity_0f7a4_5 {i : Nat} {b : UInt8} (h : ([0xbf, 0x15, 0x05, 0x2a, 0xb4, 0x00, 0x16, 0x7a, 0xac] : List UInt8)[i]? = some b) : vy_8 cJ5_newCapacity_0f7a4 (50 + i) b := vy_in (n := 9) (by decide +kernel) h
theorem dJ5_newCapacity_0f7a4_0 : decode cJ5_newCapacity_0f7a4 0 = Except.ok (Instr.aload_n 0, 1) := vyd_42 (vyb_cJ5_newCapacity_0f7a4_0 (i := 0) rfl)
theorem dJ5_newCapacity_0f7a4_1 : decode cJ5_newCapacity_0f7a4 1 = Except.ok (Instr.getfield 15, 3) := vyd_180 (vyb_cJ5_newCapacity_0f7a4_0 (i := 1) rfl) (vyb_cJ5_newCapacity_0f7a4_0 (i := 2) rfl) (vyb_cJ5_newCapacity_0f7a4_0 (i := 3) rfl) rfl
theorem dJ5_newCapacity_0f7a4_4 : decode cJ5_newCapacity_0f7a4 4 = Except.ok (Instr.arraylength, 1) := vyd_190 (vyb_cJ5_newCapacity_0f7a4_0 (i := 4) rfl)
theorem dJ5_newCapacity_0f7a4_5 : decode cJ5_newCapacity_0f7a4 5 = Except.ok (Instr.istore_n 2, 1) := vyd_61 (vyb_cJ5_newCapacity_0f7a4_0 (i := 5) rfl)
theorem dJ5_newCapacity_0f7a4_6 : decode cJ5_newCapacity_0f7a4 6 = Except.ok (Instr.iload_n 1, 1) := vyd_27 (vyb_cJ5_newCapacity_0f7a4_0 (i := 6) rfl)
theorem dJ5_newCapacity_0f7a4_7 : decode cJ5_newCapacity_0f7a4 7 = Except.ok (Instr.aload_n 0, 1) := vyd_42 (vyb_cJ5_newCapacity_0f7a4_0 (i := 7) rfl)
theorem dJ5_newCapacity_0f7a4_8 : decode cJ5_newCapacity_0f7a4 8 = Except.ok (Instr.getfield 22, 3) := vyd_180 (vyb_cJ5_newCapacity_0f7a4_0 (i := 8) rfl) (vyb_cJ5_newCapacity_0f7a4_0 (i := 9) rfl) (vyb_cJ5_newCapacity_0f7a4_1 (i := 0) rfl) rfl
theorem dJ5_newCapacity_0f7a4_11 : decode cJ5_newCapacity_0f7a4 11 = Except.ok (Instr.ishl, 1) := vyd_120 (vyb_cJ5_newCapacity_0f7a4_1 (i := 1) rfl)
theorem dJ5_newCapacity_0f7a4_12 : decode cJ5_newCapacity_0f7a4 12 = Except.ok (Instr.istore_n 3, 1) := vyd_62 (vyb_cJ5_newCapacity_0f7a4_1 (i := 2) rfl)
theorem dJ5_newCapacity_0f7a4_13 : decode cJ5_newCapacity_0f7a4 13 = Except.ok (Instr.iload_n 3, 1) := vyd_29 (vyb_cJ5_newCapacity_0f7a4_1 (i := 3) rfl)
theorem dJ5_newCapacity_0f7a4_14 : decode cJ5_newCapacity_0f7a4 14 = Except.ok (Instr.iload_n 2, 1) := vyd_28 (vyb_cJ5_newCapacity_0f7a4_1 (i := 4) rfl)
theorem dJ5_newCapacity_0f7a4_15 : decode cJ5_newCapacity_0f7a4 15 = Except.ok (Instr.isub, 1) := vyd_100 (vyb_cJ5_newCapacity_0f7a4_1 (i := 5) rfl)
theorem dJ5_newCapacity_0f7a4_16 : decode cJ5_newCapacity_0f7a4 16 = Except.ok (Instr.istore 4, 2) := vyd_54 (vyb_cJ5_newCapacity_0f7a4_1 (i := 6) rfl) (vyb_cJ5_newCapacity_0f7a4_1 (i := 7) rfl) rfl
theorem dJ5_newCapacity_0f7a4_18 : decode cJ5_newCapacity_0f7a4 18 = Except.ok (Instr.iload_n 2, 1) := vyd_28 (vyb_cJ5_newCapacity_0f7a4_1 (i := 8) rfl)
theorem dJ5_newCapacity_0f7a4_19 : decode cJ5_newCapacity_0f7a4 19 = Except.ok (Instr.iload 4, 2) := vyd_21 (vyb_cJ5_newCapacity_0f7a4_1 (i := 9) rfl) (vyb_cJ5_newCapacity_0f7a4_2 (i := 0) rfl) rfl
theorem dJ5_newCapacity_0f7a4_21 : decode cJ5_newCapacity_0f7a4 21 = Except.ok (Instr.iload_n 2, 1) := vyd_28 (vyb_cJ5_newCapacity_0f7a4_2 (i := 1) rfl)
theorem dJ5_newCapacity_0f7a4_22 : decode cJ5_newCapacity_0f7a4 22 = Except.ok (Instr.iconst 2, 1) := vyd_5 (vyb_cJ5_newCapacity_0f7a4_2 (i := 2) rfl)
theorem dJ5_newCapacity_0f7a4_23 : decode cJ5_newCapacity_0f7a4 23 = Except.ok (Instr.aload_n 0, 1) := vyd_42 (vyb_cJ5_newCapacity_0f7a4_2 (i := 3) rfl)
theorem dJ5_newCapacity_0f7a4_24 : decode cJ5_newCapacity_0f7a4 24 = Except.ok (Instr.getfield 22, 3) := vyd_180 (vyb_cJ5_newCapacity_0f7a4_2 (i := 4) rfl) (vyb_cJ5_newCapacity_0f7a4_2 (i := 5) rfl) (vyb_cJ5_newCapacity_0f7a4_2 (i := 6) rfl) rfl
theorem dJ5_newCapacity_0f7a4_27 : decode cJ5_newCapacity_0f7a4 27 = Except.ok (Instr.ishl, 1) := vyd_120 (vyb_cJ5_newCapacity_0f7a4_2 (i := 7) rfl)
theorem dJ5_newCapacity_0f7a4_28 : decode cJ5_newCapacity_0f7a4 28 = Except.ok (Instr.iadd, 1) := vyd_96 (vyb_cJ5_newCapacity_0f7a4_2 (i := 8) rfl)
theorem dJ5_newCapacity_0f7a4_29 : decode cJ5_newCapacity_0f7a4 29 = Except.ok (Instr.invokestatic 114, 3) := vyd_184 (vyb_cJ5_newCapacity_0f7a4_2 (i := 9) rfl) (vyb_cJ5_newCapacity_0f7a4_3 (i := 0) rfl) (vyb_cJ5_newCapacity_0f7a4_3 (i := 1) rfl) rfl
theorem dJ5_newCapacity_0f7a4_32 : decode cJ5_newCapacity_0f7a4 32 = Except.ok (Instr.istore 5, 2) := vyd_54 (vyb_cJ5_newCapacity_0f7a4_3 (i := 2) rfl) (vyb_cJ5_newCapacity_0f7a4_3 (i := 3) rfl) rfl
theorem dJ5_newCapacity_0f7a4_34 : decode cJ5_newCapacity_0f7a4 34 = Except.ok (Instr.iload 5, 2) := vyd_21 (vyb_cJ5_newCapacity_0f7a4_3 (i := 4) rfl) (vyb_cJ5_newCapacity_0f7a4_3 (i := 5) rfl) rfl
theorem dJ5_newCapacity_0f7a4_36 : decode cJ5_newCapacity_0f7a4 36 = Except.ok (Instr.ldc 39, 2) := vyd_18 (vyb_cJ5_newCapacity_0f7a4_3 (i := 6) rfl) (vyb_cJ5_newCapacity_0f7a4_3 (i := 7) rfl) rfl
theorem dJ5_newCapacity_0f7a4_38 : decode cJ5_newCapacity_0f7a4 38 = Except.ok (Instr.if_icmp .ne 13, 3) := vyd_160 (vyb_cJ5_newCapacity_0f7a4_3 (i := 8) rfl) (vyb_cJ5_newCapacity_0f7a4_3 (i := 9) rfl) (vyb_cJ5_newCapacity_0f7a4_4 (i := 0) rfl) (by decide +kernel)
theorem dJ5_newCapacity_0f7a4_51 : decode cJ5_newCapacity_0f7a4 51 = Except.ok (Instr.iload 5, 2) := vyd_21 (vyb_cJ5_newCapacity_0f7a4_5 (i := 1) rfl) (vyb_cJ5_newCapacity_0f7a4_5 (i := 2) rfl) rfl
theorem dJ5_newCapacity_0f7a4_53 : decode cJ5_newCapacity_0f7a4 53 = Except.ok (Instr.aload_n 0, 1) := vyd_42 (vyb_cJ5_newCapacity_0f7a4_5 (i := 3) rfl)
theorem dJ5_newCapacity_0f7a4_54 : decode cJ5_newCapacity_0f7a4 54 = Except.ok (Instr.getfield 22, 3) := vyd_180 (vyb_cJ5_newCapacity_0f7a4_5 (i := 4) rfl) (vyb_cJ5_newCapacity_0f7a4_5 (i := 5) rfl) (vyb_cJ5_newCapacity_0f7a4_5 (i := 6) rfl) rfl
theorem dJ5_newCapacity_0f7a4_57 : decode cJ5_newCapacity_0f7a4 57 = Except.ok (Instr.ishr, 1) := vyd_122 (vyb_cJ5_newCapacity_0f7a4_5 (i := 7) rfl)
theorem dJ5_newCapacity_0f7a4_58 : decode cJ5_newCapacity_0f7a4 58 = Except.ok (Instr.ireturn, 1) := vyd_172 (vyb_cJ5_newCapacity_0f7a4_5 (i := 8) rfl)
theorem vyb_cJ5_append_cf1ce_0 {i : Nat} {b : UInt8} (h : ([0x2b, 0xc7, 0x00, 0x08, 0x2a, 0xb6, 0x00, 0xcc, 0xb0, 0x2b] : List UInt8)[i]? = some b) : vy_8 cJ5_append_cf1ce (0 + i) b := vy_in (n := 10) (by decide +kernel) h
theorem vyb_cJ5_append_cf1ce_1 {i : Nat} {b : UInt8} (h : ([0xb6, 0x00, 0x20, 0x3d, 0x2a, 0x2a, 0xb4, 0x00, 0x4f, 0x1c] : List UInt8)[i]? = some b) : vy_8 cJ5_append_cf1ce (10 + i) b := vy_in (n := 10) (by decide +kernel) h
theorem vyb_cJ5_append_cf1ce_2 {i : Nat} {b : UInt8} (h : ([0x60, 0xb6, 0x00, 0x64, 0x2a, 0x2a, 0xb4, 0x00, 0x4f, 0x2b] : List UInt8)[i]? = some b) : vy_8 cJ5_append_cf1ce (20 + i) b := vy_in (n := 10) (by decide +kernel) h
theorem vyb_cJ5_append_cf1ce_3 {i : Nat} {b : UInt8} (h : ([0xb6, 0x00, 0xd0, 0x2a, 0x59, 0xb4, 0x00, 0x4f, 0x1c, 0x60] : List UInt8)[i]? = some b) : vy_8 cJ5_append_cf1ce (30 + i) b := vy_in (n := 10) (by decide +kernel) h
theorem vyb_cJ5_append_cf1ce_4 {i : Nat} {b : UInt8} (h : ([0xb5, 0x00, 0x4f, 0x2a, 0xb0] : List UInt8)[i]? = some b) : vy_8 cJ5_append_cf1ce (40 + i) b := vy_in (n := 5) (by decide +kernel) h
theorem dJ5_append_cf1ce_0 : decode cJ5_append_cf1ce 0 = Except.ok (Instr.aload_n 1, 1) := vyd_43 (vyb_cJ5_append_cf1ce_0 (i := 0) rfl)
theorem dJ5_append_cf1ce_1 : decode cJ5_append_cf1ce 1 = Except.ok (Instr.ifnonnull 8, 3) := vyd_199 (vyb_cJ5_append_cf1ce_0 (i := 1) rfl) (vyb_cJ5_append_cf1ce_0 (i := 2) rfl) (vyb_cJ5_append_cf1ce_0 (i := 3) rfl) (by decide +kernel)
theorem dJ5_append_cf1ce_9 : decode cJ5_append_cf1ce 9 = Except.ok (Instr.aload_n 1, 1) := vyd_43 (vyb_cJ5_append_cf1ce_0 (i := 9) rfl)
theorem dJ5_append_cf1ce_10 : decode cJ5_append_cf1ce 10 = Except.ok (Instr.invokevirtual 32, 3) := vyd_182 (vyb_cJ5_append_cf1ce_1 (i := 0) rfl) (vyb_cJ5_append_cf1ce_1 (i := 1) rfl) (vyb_cJ5_append_cf1ce_1 (i := 2) rfl) rfl
theorem dJ5_append_cf1ce_13 : decode cJ5_append_cf1ce 13 = Except.ok (Instr.istore_n 2, 1) := vyd_61 (vyb_cJ5_append_cf1ce_1 (i := 3) rfl)
theorem dJ5_append_cf1ce_14 : decode cJ5_append_cf1ce 14 = Except.ok (Instr.aload_n 0, 1) := vyd_42 (vyb_cJ5_append_cf1ce_1 (i := 4) rfl)
theorem dJ5_append_cf1ce_15 : decode cJ5_append_cf1ce 15 = Except.ok (Instr.aload_n 0, 1) := vyd_42 (vyb_cJ5_append_cf1ce_1 (i := 5) rfl)
theorem dJ5_append_cf1ce_16 : decode cJ5_append_cf1ce 16 = Except.ok (Instr.getfield 79, 3) := vyd_180 (vyb_cJ5_append_cf1ce_1 (i := 6) rfl) (vyb_cJ5_append_cf1ce_1 (i := 7) rfl) (vyb_cJ5_append_cf1ce_1 (i := 8) rfl) rfl
theorem dJ5_append_cf1ce_19 : decode cJ5_append_cf1ce 19 = Except.ok (Instr.iload_n 2, 1) := vyd_28 (vyb_cJ5_append_cf1ce_1 (i := 9) rfl)
theorem dJ5_append_cf1ce_20 : decode cJ5_append_cf1ce 20 = Except.ok (Instr.iadd, 1) := vyd_96 (vyb_cJ5_append_cf1ce_2 (i := 0) rfl)
theorem dJ5_append_cf1ce_21 : decode cJ5_append_cf1ce 21 = Except.ok (Instr.invokevirtual 100, 3) := vyd_182 (vyb_cJ5_append_cf1ce_2 (i := 1) rfl) (vyb_cJ5_append_cf1ce_2 (i := 2) rfl) (vyb_cJ5_append_cf1ce_2 (i := 3) rfl) rfl
theorem dJ5_append_cf1ce_24 : decode cJ5_append_cf1ce 24 = Except.ok (Instr.aload_n 0, 1) := vyd_42 (vyb_cJ5_append_cf1ce_2 (i := 4) rfl)
theorem dJ5_append_cf1ce_25 : decode cJ5_append_cf1ce 25 = Except.ok (Instr.aload_n 0, 1) := vyd_42 (vyb_cJ5_append_cf1ce_2 (i := 5) rfl)
theorem dJ5_append_cf1ce_26 : decode cJ5_append_cf1ce 26 = Except.ok (Instr.getfield 79, 3) := vyd_180 (vyb_cJ5_append_cf1ce_2 (i := 6) rfl) (vyb_cJ5_append_cf1ce_2 (i := 7) rfl) (vyb_cJ5_append_cf1ce_2 (i := 8) rfl) rfl
theorem dJ5_append_cf1ce_29 : decode cJ5_append_cf1ce 29 = Except.ok (Instr.aload_n 1, 1) := vyd_43 (vyb_cJ5_append_cf1ce_2 (i := 9) rfl)
theorem dJ5_append_cf1ce_30 : decode cJ5_append_cf1ce 30 = Except.ok (Instr.invokevirtual 208, 3) := vyd_182 (vyb_cJ5_append_cf1ce_3 (i := 0) rfl) (vyb_cJ5_append_cf1ce_3 (i := 1) rfl) (vyb_cJ5_append_cf1ce_3 (i := 2) rfl) rfl
theorem dJ5_append_cf1ce_33 : decode cJ5_append_cf1ce 33 = Except.ok (Instr.aload_n 0, 1) := vyd_42 (vyb_cJ5_append_cf1ce_3 (i := 3) rfl)
theorem dJ5_append_cf1ce_34 : decode cJ5_append_cf1ce 34 = Except.ok (Instr.dup, 1) := vyd_89 (vyb_cJ5_append_cf1ce_3 (i := 4) rfl)
theorem dJ5_append_cf1ce_35 : decode cJ5_append_cf1ce 35 = Except.ok (Instr.getfield 79, 3) := vyd_180 (vyb_cJ5_append_cf1ce_3 (i := 5) rfl) (vyb_cJ5_append_cf1ce_3 (i := 6) rfl) (vyb_cJ5_append_cf1ce_3 (i := 7) rfl) rfl
theorem dJ5_append_cf1ce_38 : decode cJ5_append_cf1ce 38 = Except.ok (Instr.iload_n 2, 1) := vyd_28 (vyb_cJ5_append_cf1ce_3 (i := 8) rfl)
theorem dJ5_append_cf1ce_39 : decode cJ5_append_cf1ce 39 = Except.ok (Instr.iadd, 1) := vyd_96 (vyb_cJ5_append_cf1ce_3 (i := 9) rfl)
theorem dJ5_append_cf1ce_40 : decode cJ5_append_cf1ce 40 = Except.ok (Instr.putfield 79, 3) := vyd_181 (vyb_cJ5_append_cf1ce_4 (i := 0) rfl) (vyb_cJ5_append_cf1ce_4 (i := 1) rfl) (vyb_cJ5_append_cf1ce_4 (i := 2) rfl) rfl
theorem dJ5_append_cf1ce_43 : decode cJ5_append_cf1ce 43 = Except.ok (Instr.aload_n 0, 1) := vyd_42 (vyb_cJ5_append_cf1ce_4 (i := 3) rfl)
theorem dJ5_append_cf1ce_44 : decode cJ5_append_cf1ce 44 = Except.ok (Instr.areturn, 1) := vyd_176 (vyb_cJ5_append_cf1ce_4 (i := 4) rfl)
theorem vyb_cJ5_append_3fe6f_0 {i : Nat} {b : UInt8} (h : ([0x2a, 0x2a, 0xb4, 0x00, 0x4f, 0x04, 0x60, 0xb6, 0x00, 0x64] : List UInt8)[i]? = some b) : vy_8 cJ5_append_3fe6f (0 + i) b := vy_in (n := 10) (by decide +kernel) h
theorem vyb_cJ5_append_3fe6f_1 {i : Nat} {b : UInt8} (h : ([0x2a, 0xb6, 0x00, 0x53, 0x99, 0x00, 0x1f, 0x1b, 0xb8, 0x00] : List UInt8)[i]? = some b) : vy_8 cJ5_append_3fe6f (10 + i) b := vy_in (n := 10) (by decide +kernel) h
theorem vyb_cJ5_append_3fe6f_2 {i : Nat} {b : UInt8} (h : ([0xbf, 0x99, 0x00, 0x18, 0x2a, 0xb4, 0x00, 0x0f, 0x2a, 0x59] : List UInt8)[i]? = some b) : vy_8 cJ5_append_3fe6f (20 + i) b := vy_in (n := 10) (by decide +kernel) h
theorem vyb_cJ5_append_3fe6f_3 {i : Nat} {b : UInt8} (h : ([0xb4, 0x00, 0x4f, 0x5a, 0x04, 0x60, 0xb5, 0x00, 0x4f, 0x1b] : List UInt8)[i]? = some b) : vy_8 cJ5_append_3fe6f (30 + i) b := vy_in (n := 10) (by decide +kernel) h
theorem vyb_cJ5_append_3fe6f_4 {i : Nat} {b : UInt8} (h : ([0x91, 0x54, 0xa7, 0x00, 0x21, 0x2a, 0xb6, 0x00, 0x53, 0x99] : List UInt8)[i]? = some b) : vy_8 cJ5_append_3fe6f (40 + i) b := vy_in (n := 10) (by decide +kernel) h
theorem vyb_cJ5_append_3fe6f_5 {i : Nat} {b : UInt8} (h : ([0x00, 0x07, 0x2a, 0xb6, 0x00, 0xc3, 0x2a, 0xb4, 0x00, 0x0f] : List UInt8)[i]? = some b) : vy_8 cJ5_append_3fe6f (50 + i) b := vy_in (n := 10) (by decide +kernel) h
theorem vyb_cJ5_append_3fe6f_6 {i : Nat} {b : UInt8} (h : ([0x2a, 0x59, 0xb4, 0x00, 0x4f, 0x5a, 0x04, 0x60, 0xb5, 0x00] : List UInt8)[i]? = some b) : vy_8 cJ5_append_3fe6f (60 + i) b := vy_in (n := 10) (by decide +kernel) h
theorem vyb_cJ5_append_3fe6f_7 {i : Nat} {b : UInt8} (h : ([0x4f, 0x1b, 0xb8, 0x00, 0xc5, 0x2a, 0xb0] : List UInt8)[i]? = some b) : vy_8 cJ5_append_3fe6f (70 + i) b := vy_in (n := 7) (by decide +kernel) h
theorem dJ5_append_3fe6f_0 : decode cJ5_append_3fe6f 0 = Except.ok (Instr.aload_n 0, 1) := vyd_42 (vyb_cJ5_append_3fe6f_0 (i := 0) rfl)
theorem dJ5_append_3fe6f_1 : decode cJ5_append_3fe6f 1 = Except.ok (Instr.aload_n 0, 1) := vyd_42 (vyb_cJ5_append_3fe6f_0 (i := 1) rfl)
theorem dJ5_append_3fe6f_2 : decode cJ5_append_3fe6f 2 = Except.ok (Instr.getfield 79, 3) := vyd_180 (vyb_cJ5_append_3fe6f_0 (i := 2) rfl) (vyb_cJ5_append_3fe6f_0 (i := 3) rfl) (vyb_cJ5_append_3fe6f_0 (i := 4) rfl) rfl
theorem dJ5_append_3fe6f_5 : decode cJ5_append_3fe6f 5 = Except.ok (Instr.iconst 1, 1) := vyd_4 (vyb_cJ5_append_3fe6f_0 (i := 5) rfl)
theorem dJ5_append_3fe6f_6 : decode cJ5_append_3fe6f 6 = Except.ok (Instr.iadd, 1) := vyd_96 (vyb_cJ5_append_3fe6f_0 (i := 6) rfl)
theorem dJ5_append_3fe6f_7 : decode cJ5_append_3fe6f 7 = Except.ok (Instr.invokevirtual 100, 3) := vyd_182 (vyb_cJ5_append_3fe6f_0 (i := 7) rfl) (vyb_cJ5_append_3fe6f_0 (i := 8) rfl) (vyb_cJ5_append_3fe6f_0 (i := 9) rfl) rfl
theorem dJ5_append_3fe6f_10 : decode cJ5_append_3fe6f 10 = Except.ok (Instr.aload_n 0, 1) := vyd_42 (vyb_cJ5_append_3fe6f_1 (i := 0) rfl)
theorem dJ5_append_3fe6f_11 : decode cJ5_append_3fe6f 11 = Except.ok (Instr.invokevirtual 83, 3) := vyd_182 (vyb_cJ5_append_3fe6f_1 (i := 1) rfl) (vyb_cJ5_append_3fe6f_1 (i := 2) rfl) (vyb_cJ5_append_3fe6f_1 (i := 3) rfl) rfl
theorem dJ5_append_3fe6f_14 : decode cJ5_append_3fe6f 14 = Except.ok (Instr.ifCond .eq 31, 3) := vyd_153 (vyb_cJ5_append_3fe6f_1 (i := 4) rfl) (vyb_cJ5_append_3fe6f_1 (i := 5) rfl) (vyb_cJ5_append_3fe6f_1 (i := 6) rfl) (by decide +kernel)
theorem dJ5_append_3fe6f_17 : decode cJ5_append_3fe6f 17 = Except.ok (Instr.iload_n 1, 1) := vyd_27 (vyb_cJ5_append_3fe6f_1 (i := 7) rfl)
theorem dJ5_append_3fe6f_18 : decode cJ5_append_3fe6f 18 = Except.ok (Instr.invokestatic 191, 3) := vyd_184 (vyb_cJ5_append_3fe6f_1 (i := 8) rfl) (vyb_cJ5_append_3fe6f_1 (i := 9) rfl) (vyb_cJ5_append_3fe6f_2 (i := 0) rfl) rfl
theorem dJ5_append_3fe6f_21 : decode cJ5_append_3fe6f 21 = Except.ok (Instr.ifCond .eq 24, 3) := vyd_153 (vyb_cJ5_append_3fe6f_2 (i := 1) rfl) (vyb_cJ5_append_3fe6f_2 (i := 2) rfl) (vyb_cJ5_append_3fe6f_2 (i := 3) rfl) (by decide +kernel)
theorem dJ5_append_3fe6f_24 : decode cJ5_append_3fe6f 24 = Except.ok (Instr.aload_n 0, 1) := vyd_42 (vyb_cJ5_append_3fe6f_2 (i := 4) rfl)
theorem dJ5_append_3fe6f_25 : decode cJ5_append_3fe6f 25 = Except.ok (Instr.getfield 15, 3) := vyd_180 (vyb_cJ5_append_3fe6f_2 (i := 5) rfl) (vyb_cJ5_append_3fe6f_2 (i := 6) rfl) (vyb_cJ5_append_3fe6f_2 (i := 7) rfl) rfl
theorem dJ5_append_3fe6f_28 : decode cJ5_append_3fe6f 28 = Except.ok (Instr.aload_n 0, 1) := vyd_42 (vyb_cJ5_append_3fe6f_2 (i := 8) rfl)
theorem dJ5_append_3fe6f_29 : decode cJ5_append_3fe6f 29 = Except.ok (Instr.dup, 1) := vyd_89 (vyb_cJ5_append_3fe6f_2 (i := 9) rfl)
theorem dJ5_append_3fe6f_30 : decode cJ5_append_3fe6f 30 = Except.ok (Instr.getfield 79, 3) := vyd_180 (vyb_cJ5_append_3fe6f_3 (i := 0) rfl) (vyb_cJ5_append_3fe6f_3 (i := 1) rfl) (vyb_cJ5_append_3fe6f_3 (i := 2) rfl) rfl
theorem dJ5_append_3fe6f_33 : decode cJ5_append_3fe6f 33 = Except.ok (Instr.dup_x1, 1) := vyd_90 (vyb_cJ5_append_3fe6f_3 (i := 3) rfl)
theorem dJ5_append_3fe6f_34 : decode cJ5_append_3fe6f 34 = Except.ok (Instr.iconst 1, 1) := vyd_4 (vyb_cJ5_append_3fe6f_3 (i := 4) rfl)
theorem dJ5_append_3fe6f_35 : decode cJ5_append_3fe6f 35 = Except.ok (Instr.iadd, 1) := vyd_96 (vyb_cJ5_append_3fe6f_3 (i := 5) rfl)
theorem dJ5_append_3fe6f_36 : decode cJ5_append_3fe6f 36 = Except.ok (Instr.putfield 79, 3) := vyd_181 (vyb_cJ5_append_3fe6f_3 (i := 6) rfl) (vyb_cJ5_append_3fe6f_3 (i := 7) rfl) (vyb_cJ5_append_3fe6f_3 (i := 8) rfl) rfl
theorem dJ5_append_3fe6f_39 : decode cJ5_append_3fe6f 39 = Except.ok (Instr.iload_n 1, 1) := vyd_27 (vyb_cJ5_append_3fe6f_3 (i := 9) rfl)
theorem dJ5_append_3fe6f_40 : decode cJ5_append_3fe6f 40 = Except.ok (Instr.i2b, 1) := vyd_145 (vyb_cJ5_append_3fe6f_4 (i := 0) rfl)
theorem dJ5_append_3fe6f_41 : decode cJ5_append_3fe6f 41 = Except.ok (Instr.bastore, 1) := vyd_84 (vyb_cJ5_append_3fe6f_4 (i := 1) rfl)
theorem dJ5_append_3fe6f_42 : decode cJ5_append_3fe6f 42 = Except.ok (Instr.goto 33, 3) := vyd_167 (vyb_cJ5_append_3fe6f_4 (i := 2) rfl) (vyb_cJ5_append_3fe6f_4 (i := 3) rfl) (vyb_cJ5_append_3fe6f_4 (i := 4) rfl) (by decide +kernel)
theorem dJ5_append_3fe6f_75 : decode cJ5_append_3fe6f 75 = Except.ok (Instr.aload_n 0, 1) := vyd_42 (vyb_cJ5_append_3fe6f_7 (i := 5) rfl)
theorem dJ5_append_3fe6f_76 : decode cJ5_append_3fe6f 76 = Except.ok (Instr.areturn, 1) := vyd_176 (vyb_cJ5_append_3fe6f_7 (i := 6) rfl)
theorem vyb_cJ5_append_c97b9_0 {i : Nat} {b : UInt8} (h : ([0x2a, 0xb4, 0x00, 0x4f, 0x3d, 0x1c, 0x1b, 0xb8, 0x00, 0xf5] : List UInt8)[i]? = some b) : vy_8 cJ5_append_c97b9 (0 + i) b := vy_in (n := 10) (by decide +kernel) h
theorem vyb_cJ5_append_c97b9_1 {i : Nat} {b : UInt8} (h : ([0x60, 0x3e, 0x2a, 0x1d, 0xb6, 0x00, 0x64, 0x2a, 0xb6, 0x00] : List UInt8)[i]? = some b) : vy_8 cJ5_append_c97b9 (10 + i) b := vy_in (n := 10) (by decide +kernel) h
theorem vyb_cJ5_append_c97b9_2 {i : Nat} {b : UInt8} (h : ([0x53, 0x99, 0x00, 0x10, 0x1b, 0x1d, 0x2a, 0xb4, 0x00, 0x0f] : List UInt8)[i]? = some b) : vy_8 cJ5_append_c97b9 (20 + i) b := vy_in (n := 10) (by decide +kernel) h
theorem vyb_cJ5_append_c97b9_3 {i : Nat} {b : UInt8} (h : ([0xb8, 0x00, 0xf8, 0x57, 0xa7, 0x00, 0x0e, 0x1b, 0x1c, 0x1d] : List UInt8)[i]? = some b) : vy_8 cJ5_append_c97b9 (30 + i) b := vy_in (n := 10) (by decide +kernel) h
theorem vyb_cJ5_append_c97b9_4 {i : Nat} {b : UInt8} (h : ([0x2a, 0xb4, 0x00, 0x0f, 0xb8, 0x00, 0xfb, 0x57, 0x2a, 0x1d] : List UInt8)[i]? = some b) : vy_8 cJ5_append_c97b9 (40 + i) b := vy_in (n := 10) (by decide +kernel) h
theorem vyb_cJ5_append_c97b9_5 {i : Nat} {b : UInt8} (h : ([0xb5, 0x00, 0x4f, 0x2a, 0xb0] : List UInt8)[i]? = some b) : vy_8 cJ5_append_c97b9 (50 + i) b := vy_in (n := 5) (by decide +kernel) h
theorem dJ5_append_c97b9_0 : decode cJ5_append_c97b9 0 = Except.ok (Instr.aload_n 0, 1) := vyd_42 (vyb_cJ5_append_c97b9_0 (i := 0) rfl)
theorem dJ5_append_c97b9_1 : decode cJ5_append_c97b9 1 = Except.ok (Instr.getfield 79, 3) := vyd_180 (vyb_cJ5_append_c97b9_0 (i := 1) rfl) (vyb_cJ5_append_c97b9_0 (i := 2) rfl) (vyb_cJ5_append_c97b9_0 (i := 3) rfl) rfl
theorem dJ5_append_c97b9_4 : decode cJ5_append_c97b9 4 = Except.ok (Instr.istore_n 2, 1) := vyd_61 (vyb_cJ5_append_c97b9_0 (i := 4) rfl)
theorem dJ5_append_c97b9_5 : decode cJ5_append_c97b9 5 = Except.ok (Instr.iload_n 2, 1) := vyd_28 (vyb_cJ5_append_c97b9_0 (i := 5) rfl)
theorem dJ5_append_c97b9_6 : decode cJ5_append_c97b9 6 = Except.ok (Instr.iload_n 1, 1) := vyd_27 (vyb_cJ5_append_c97b9_0 (i := 6) rfl)
theorem dJ5_append_c97b9_7 : decode cJ5_append_c97b9 7 = Except.ok (Instr.invokestatic 245, 3) := vyd_184 (vyb_cJ5_append_c97b9_0 (i := 7) rfl) (vyb_cJ5_append_c97b9_0 (i := 8) rfl) (vyb_cJ5_append_c97b9_0 (i := 9) rfl) rfl
theorem dJ5_append_c97b9_10 : decode cJ5_append_c97b9 10 = Except.ok (Instr.iadd, 1) := vyd_96 (vyb_cJ5_append_c97b9_1 (i := 0) rfl)
theorem dJ5_append_c97b9_11 : decode cJ5_append_c97b9 11 = Except.ok (Instr.istore_n 3, 1) := vyd_62 (vyb_cJ5_append_c97b9_1 (i := 1) rfl)
theorem dJ5_append_c97b9_12 : decode cJ5_append_c97b9 12 = Except.ok (Instr.aload_n 0, 1) := vyd_42 (vyb_cJ5_append_c97b9_1 (i := 2) rfl)
theorem dJ5_append_c97b9_13 : decode cJ5_append_c97b9 13 = Except.ok (Instr.iload_n 3, 1) := vyd_29 (vyb_cJ5_append_c97b9_1 (i := 3) rfl)
theorem dJ5_append_c97b9_14 : decode cJ5_append_c97b9 14 = Except.ok (Instr.invokevirtual 100, 3) := vyd_182 (vyb_cJ5_append_c97b9_1 (i := 4) rfl) (vyb_cJ5_append_c97b9_1 (i := 5) rfl) (vyb_cJ5_append_c97b9_1 (i := 6) rfl) rfl
theorem dJ5_append_c97b9_17 : decode cJ5_append_c97b9 17 = Except.ok (Instr.aload_n 0, 1) := vyd_42 (vyb_cJ5_append_c97b9_1 (i := 7) rfl)
theorem dJ5_append_c97b9_18 : decode cJ5_append_c97b9 18 = Except.ok (Instr.invokevirtual 83, 3) := vyd_182 (vyb_cJ5_append_c97b9_1 (i := 8) rfl) (vyb_cJ5_append_c97b9_1 (i := 9) rfl) (vyb_cJ5_append_c97b9_2 (i := 0) rfl) rfl
theorem dJ5_append_c97b9_21 : decode cJ5_append_c97b9 21 = Except.ok (Instr.ifCond .eq 16, 3) := vyd_153 (vyb_cJ5_append_c97b9_2 (i := 1) rfl) (vyb_cJ5_append_c97b9_2 (i := 2) rfl) (vyb_cJ5_append_c97b9_2 (i := 3) rfl) (by decide +kernel)
theorem dJ5_append_c97b9_24 : decode cJ5_append_c97b9 24 = Except.ok (Instr.iload_n 1, 1) := vyd_27 (vyb_cJ5_append_c97b9_2 (i := 4) rfl)
theorem dJ5_append_c97b9_25 : decode cJ5_append_c97b9 25 = Except.ok (Instr.iload_n 3, 1) := vyd_29 (vyb_cJ5_append_c97b9_2 (i := 5) rfl)
theorem dJ5_append_c97b9_26 : decode cJ5_append_c97b9 26 = Except.ok (Instr.aload_n 0, 1) := vyd_42 (vyb_cJ5_append_c97b9_2 (i := 6) rfl)
theorem dJ5_append_c97b9_27 : decode cJ5_append_c97b9 27 = Except.ok (Instr.getfield 15, 3) := vyd_180 (vyb_cJ5_append_c97b9_2 (i := 7) rfl) (vyb_cJ5_append_c97b9_2 (i := 8) rfl) (vyb_cJ5_append_c97b9_2 (i := 9) rfl) rfl
theorem dJ5_append_c97b9_30 : decode cJ5_append_c97b9 30 = Except.ok (Instr.invokestatic 248, 3) := vyd_184 (vyb_cJ5_append_c97b9_3 (i := 0) rfl) (vyb_cJ5_append_c97b9_3 (i := 1) rfl) (vyb_cJ5_append_c97b9_3 (i := 2) rfl) rfl
theorem dJ5_append_c97b9_33 : decode cJ5_append_c97b9 33 = Except.ok (Instr.pop, 1) := vyd_87 (vyb_cJ5_append_c97b9_3 (i := 3) rfl)
theorem dJ5_append_c97b9_34 : decode cJ5_append_c97b9 34 = Except.ok (Instr.goto 14, 3) := vyd_167 (vyb_cJ5_append_c97b9_3 (i := 4) rfl) (vyb_cJ5_append_c97b9_3 (i := 5) rfl) (vyb_cJ5_append_c97b9_3 (i := 6) rfl) (by decide +kernel)
theorem dJ5_append_c97b9_48 : decode cJ5_append_c97b9 48 = Except.ok (Instr.aload_n 0, 1) := vyd_42 (vyb_cJ5_append_c97b9_4 (i := 8) rfl)
theorem dJ5_append_c97b9_49 : decode cJ5_append_c97b9 49 = Except.ok (Instr.iload_n 3, 1) := vyd_29 (vyb_cJ5_append_c97b9_4 (i := 9) rfl)
theorem dJ5_append_c97b9_50 : decode cJ5_append_c97b9 50 = Except.ok (Instr.putfield 79, 3) := vyd_181 (vyb_cJ5_append_c97b9_5 (i := 0) rfl) (vyb_cJ5_append_c97b9_5 (i := 1) rfl) (vyb_cJ5_append_c97b9_5 (i := 2) rfl) rfl
theorem dJ5_append_c97b9_53 : decode cJ5_append_c97b9 53 = Except.ok (Instr.aload_n 0, 1) := vyd_42 (vyb_cJ5_append_c97b9_5 (i := 3) rfl)
theorem dJ5_append_c97b9_54 : decode cJ5_append_c97b9 54 = Except.ok (Instr.areturn, 1) := vyd_176 (vyb_cJ5_append_c97b9_5 (i := 4) rfl)
theorem vyb_cJ5_getValue_6d5f1_0 {i : Nat} {b : UInt8} (h : ([0x2a, 0xb4, 0x00, 0x0f, 0xb0] : List UInt8)[i]? = some b) : vy_8 cJ5_getValue_6d5f1 (0 + i) b := vy_in (n := 5) (by decide +kernel) h
theorem dJ5_getValue_6d5f1_0 : decode cJ5_getValue_6d5f1 0 = Except.ok (Instr.aload_n 0, 1) := vyd_42 (vyb_cJ5_getValue_6d5f1_0 (i := 0) rfl)
theorem dJ5_getValue_6d5f1_1 : decode cJ5_getValue_6d5f1 1 = Except.ok (Instr.getfield 15, 3) := vyd_180 (vyb_cJ5_getValue_6d5f1_0 (i := 1) rfl) (vyb_cJ5_getValue_6d5f1_0 (i := 2) rfl) (vyb_cJ5_getValue_6d5f1_0 (i := 3) rfl) rfl
theorem dJ5_getValue_6d5f1_4 : decode cJ5_getValue_6d5f1 4 = Except.ok (Instr.areturn, 1) := vyd_176 (vyb_cJ5_getValue_6d5f1_0 (i := 4) rfl)
theorem vyb_cJ5_isLatin1_aae02_0 {i : Nat} {b : UInt8} (h : ([0xb2, 0x00, 0x12, 0x99, 0x00, 0x0e, 0x2a, 0xb4, 0x00, 0x16] : List UInt8)[i]? = some b) : vy_8 cJ5_isLatin1_aae02 (0 + i) b := vy_in (n := 10) (by decide +kernel) h
theorem vyb_cJ5_isLatin1_aae02_1 {i : Nat} {b : UInt8} (h : ([0x9a, 0x00, 0x07, 0x04, 0xa7, 0x00, 0x04, 0x03, 0xac] : List UInt8)[i]? = some b) : vy_8 cJ5_isLatin1_aae02 (10 + i) b := vy_in (n := 9) (by decide +kernel) h
theorem dJ5_isLatin1_aae02_0 : decode cJ5_isLatin1_aae02 0 = Except.ok (Instr.getstatic 18, 3) := vyd_178 (vyb_cJ5_isLatin1_aae02_0 (i := 0) rfl) (vyb_cJ5_isLatin1_aae02_0 (i := 1) rfl) (vyb_cJ5_isLatin1_aae02_0 (i := 2) rfl) rfl
theorem dJ5_isLatin1_aae02_3 : decode cJ5_isLatin1_aae02 3 = Except.ok (Instr.ifCond .eq 14, 3) := vyd_153 (vyb_cJ5_isLatin1_aae02_0 (i := 3) rfl) (vyb_cJ5_isLatin1_aae02_0 (i := 4) rfl) (vyb_cJ5_isLatin1_aae02_0 (i := 5) rfl) (by decide +kernel)
theorem dJ5_isLatin1_aae02_6 : decode cJ5_isLatin1_aae02 6 = Except.ok (Instr.aload_n 0, 1) := vyd_42 (vyb_cJ5_isLatin1_aae02_0 (i := 6) rfl)
theorem dJ5_isLatin1_aae02_7 : decode cJ5_isLatin1_aae02 7 = Except.ok (Instr.getfield 22, 3) := vyd_180 (vyb_cJ5_isLatin1_aae02_0 (i := 7) rfl) (vyb_cJ5_isLatin1_aae02_0 (i := 8) rfl) (vyb_cJ5_isLatin1_aae02_0 (i := 9) rfl) rfl
theorem dJ5_isLatin1_aae02_10 : decode cJ5_isLatin1_aae02 10 = Except.ok (Instr.ifCond .ne 7, 3) := vyd_154 (vyb_cJ5_isLatin1_aae02_1 (i := 0) rfl) (vyb_cJ5_isLatin1_aae02_1 (i := 1) rfl) (vyb_cJ5_isLatin1_aae02_1 (i := 2) rfl) (by decide +kernel)
theorem dJ5_isLatin1_aae02_13 : decode cJ5_isLatin1_aae02 13 = Except.ok (Instr.iconst 1, 1) := vyd_4 (vyb_cJ5_isLatin1_aae02_1 (i := 3) rfl)
theorem dJ5_isLatin1_aae02_14 : decode cJ5_isLatin1_aae02 14 = Except.ok (Instr.goto 4, 3) := vyd_167 (vyb_cJ5_isLatin1_aae02_1 (i := 4) rfl) (vyb_cJ5_isLatin1_aae02_1 (i := 5) rfl) (vyb_cJ5_isLatin1_aae02_1 (i := 6) rfl) (by decide +kernel)
theorem dJ5_isLatin1_aae02_18 : decode cJ5_isLatin1_aae02 18 = Except.ok (Instr.ireturn, 1) := vyd_172 (vyb_cJ5_isLatin1_aae02_1 (i := 8) rfl)
theorem vyb_cJ5_inflateIfNeededFor_a7421_0 {i : Nat} {b : UInt8} (h : ([0xb2, 0x00, 0x12, 0x99, 0x00, 0x12, 0x2a, 0xb4, 0x00, 0x16] : List UInt8)[i]? = some b) : vy_8 cJ5_inflateIfNeededFor_a7421 (0 + i) b := vy_in (n := 10) (by decide +kernel) h
theorem vyb_cJ5_inflateIfNeededFor_a7421_1 {i : Nat} {b : UInt8} (h : ([0x2b, 0xb6, 0x00, 0x28, 0x9f, 0x00, 0x07, 0x2a, 0xb6, 0x00] : List UInt8)[i]? = some b) : vy_8 cJ5_inflateIfNeededFor_a7421 (10 + i) b := vy_in (n := 10) (by decide +kernel) h
theorem vyb_cJ5_inflateIfNeededFor_a7421_2 {i : Nat} {b : UInt8} (h : ([0xc3, 0xb1] : List UInt8)[i]? = some b) : vy_8 cJ5_inflateIfNeededFor_a7421 (20 + i) b := vy_in (n := 2) (by decide +kernel) h
theorem dJ5_inflateIfNeededFor_a7421_0 : decode cJ5_inflateIfNeededFor_a7421 0 = Except.ok (Instr.getstatic 18, 3) := vyd_178 (vyb_cJ5_inflateIfNeededFor_a7421_0 (i := 0) rfl) (vyb_cJ5_inflateIfNeededFor_a7421_0 (i := 1) rfl) (vyb_cJ5_inflateIfNeededFor_a7421_0 (i := 2) rfl) rfl
theorem dJ5_inflateIfNeededFor_a7421_3 : decode cJ5_inflateIfNeededFor_a7421 3 = Except.ok (Instr.ifCond .eq 18, 3) := vyd_153 (vyb_cJ5_inflateIfNeededFor_a7421_0 (i := 3) rfl) (vyb_cJ5_inflateIfNeededFor_a7421_0 (i := 4) rfl) (vyb_cJ5_inflateIfNeededFor_a7421_0 (i := 5) rfl) (by decide +kernel)
theorem dJ5_inflateIfNeededFor_a7421_6 : decode cJ5_inflateIfNeededFor_a7421 6 = Except.ok (Instr.aload_n 0, 1) := vyd_42 (vyb_cJ5_inflateIfNeededFor_a7421_0 (i := 6) rfl)
theorem dJ5_inflateIfNeededFor_a7421_7 : decode cJ5_inflateIfNeededFor_a7421 7 = Except.ok (Instr.getfield 22, 3) := vyd_180 (vyb_cJ5_inflateIfNeededFor_a7421_0 (i := 7) rfl) (vyb_cJ5_inflateIfNeededFor_a7421_0 (i := 8) rfl) (vyb_cJ5_inflateIfNeededFor_a7421_0 (i := 9) rfl) rfl
theorem dJ5_inflateIfNeededFor_a7421_10 : decode cJ5_inflateIfNeededFor_a7421 10 = Except.ok (Instr.aload_n 1, 1) := vyd_43 (vyb_cJ5_inflateIfNeededFor_a7421_1 (i := 0) rfl)
theorem dJ5_inflateIfNeededFor_a7421_11 : decode cJ5_inflateIfNeededFor_a7421 11 = Except.ok (Instr.invokevirtual 40, 3) := vyd_182 (vyb_cJ5_inflateIfNeededFor_a7421_1 (i := 1) rfl) (vyb_cJ5_inflateIfNeededFor_a7421_1 (i := 2) rfl) (vyb_cJ5_inflateIfNeededFor_a7421_1 (i := 3) rfl) rfl
theorem dJ5_inflateIfNeededFor_a7421_14 : decode cJ5_inflateIfNeededFor_a7421 14 = Except.ok (Instr.if_icmp .eq 7, 3) := vyd_159 (vyb_cJ5_inflateIfNeededFor_a7421_1 (i := 4) rfl) (vyb_cJ5_inflateIfNeededFor_a7421_1 (i := 5) rfl) (vyb_cJ5_inflateIfNeededFor_a7421_1 (i := 6) rfl) (by decide +kernel)
theorem dJ5_inflateIfNeededFor_a7421_21 : decode cJ5_inflateIfNeededFor_a7421 21 = Except.ok (Instr.return_, 1) := vyd_177 (vyb_cJ5_inflateIfNeededFor_a7421_2 (i := 1) rfl)
theorem vyb_cJ5_putStringAt_47b60_0 {i : Nat} {b : UInt8} (h : ([0x2a, 0x2c, 0xb6, 0x01, 0x8d, 0x2c, 0x2a, 0xb4, 0x00, 0x0f] : List UInt8)[i]? = some b) : vy_8 cJ5_putStringAt_47b60 (0 + i) b := vy_in (n := 10) (by decide +kernel) h
theorem vyb_cJ5_putStringAt_47b60_1 {i : Nat} {b : UInt8} (h : ([0x1b, 0x2a, 0xb4, 0x00, 0x16, 0xb6, 0x01, 0x8f, 0xb1] : List UInt8)[i]? = some b) : vy_8 cJ5_putStringAt_47b60 (10 + i) b := vy_in (n := 9) (by decide +kernel) h
theorem dJ5_putStringAt_47b60_0 : decode cJ5_putStringAt_47b60 0 = Except.ok (Instr.aload_n 0, 1) := vyd_42 (vyb_cJ5_putStringAt_47b60_0 (i := 0) rfl)
theorem dJ5_putStringAt_47b60_1 : decode cJ5_putStringAt_47b60 1 = Except.ok (Instr.aload_n 2, 1) := vyd_44 (vyb_cJ5_putStringAt_47b60_0 (i := 1) rfl)
theorem dJ5_putStringAt_47b60_2 : decode cJ5_putStringAt_47b60 2 = Except.ok (Instr.invokevirtual 397, 3) := vyd_182 (vyb_cJ5_putStringAt_47b60_0 (i := 2) rfl) (vyb_cJ5_putStringAt_47b60_0 (i := 3) rfl) (vyb_cJ5_putStringAt_47b60_0 (i := 4) rfl) rfl
theorem dJ5_putStringAt_47b60_5 : decode cJ5_putStringAt_47b60 5 = Except.ok (Instr.aload_n 2, 1) := vyd_44 (vyb_cJ5_putStringAt_47b60_0 (i := 5) rfl)
theorem dJ5_putStringAt_47b60_6 : decode cJ5_putStringAt_47b60 6 = Except.ok (Instr.aload_n 0, 1) := vyd_42 (vyb_cJ5_putStringAt_47b60_0 (i := 6) rfl)
theorem dJ5_putStringAt_47b60_7 : decode cJ5_putStringAt_47b60 7 = Except.ok (Instr.getfield 15, 3) := vyd_180 (vyb_cJ5_putStringAt_47b60_0 (i := 7) rfl) (vyb_cJ5_putStringAt_47b60_0 (i := 8) rfl) (vyb_cJ5_putStringAt_47b60_0 (i := 9) rfl) rfl
theorem dJ5_putStringAt_47b60_10 : decode cJ5_putStringAt_47b60 10 = Except.ok (Instr.iload_n 1, 1) := vyd_27 (vyb_cJ5_putStringAt_47b60_1 (i := 0) rfl)
theorem dJ5_putStringAt_47b60_11 : decode cJ5_putStringAt_47b60 11 = Except.ok (Instr.aload_n 0, 1) := vyd_42 (vyb_cJ5_putStringAt_47b60_1 (i := 1) rfl)
theorem dJ5_putStringAt_47b60_12 : decode cJ5_putStringAt_47b60 12 = Except.ok (Instr.getfield 22, 3) := vyd_180 (vyb_cJ5_putStringAt_47b60_1 (i := 2) rfl) (vyb_cJ5_putStringAt_47b60_1 (i := 3) rfl) (vyb_cJ5_putStringAt_47b60_1 (i := 4) rfl) rfl
theorem dJ5_putStringAt_47b60_15 : decode cJ5_putStringAt_47b60 15 = Except.ok (Instr.invokevirtual 399, 3) := vyd_182 (vyb_cJ5_putStringAt_47b60_1 (i := 5) rfl) (vyb_cJ5_putStringAt_47b60_1 (i := 6) rfl) (vyb_cJ5_putStringAt_47b60_1 (i := 7) rfl) rfl
theorem dJ5_putStringAt_47b60_18 : decode cJ5_putStringAt_47b60 18 = Except.ok (Instr.return_, 1) := vyd_177 (vyb_cJ5_putStringAt_47b60_1 (i := 8) rfl)
theorem vyb_cJ6_getChars_ba4f3_0 {i : Nat} {b : UInt8} (h : ([0x1b, 0x36, 0x05, 0x1a, 0x9c, 0x00, 0x07, 0x04, 0xa7, 0x00] : List UInt8)[i]? = some b) : vy_8 cJ6_getChars_ba4f3 (0 + i) b := vy_in (n := 10) (by decide +kernel) h
theorem vyb_cJ6_getChars_ba4f3_1 {i : Nat} {b : UInt8} (h : ([0x04, 0x03, 0x36, 0x06, 0x15, 0x06, 0x9a, 0x00, 0x06, 0x1a] : List UInt8)[i]? = some b) : vy_8 cJ6_getChars_ba4f3 (10 + i) b := vy_in (n := 10) (by decide +kernel) h
theorem vyb_cJ6_getChars_ba4f3_2 {i : Nat} {b : UInt8} (h : ([0x74, 0x3b, 0x1a, 0x10, 0x9c, 0xa3, 0x00, 0x2f, 0x1a, 0x10] : List UInt8)[i]? = some b) : vy_8 cJ6_getChars_ba4f3 (20 + i) b := vy_in (n := 10) (by decide +kernel) h
theorem vyb_cJ6_getChars_ba4f3_3 {i : Nat} {b : UInt8} (h : ([0x64, 0x6c, 0x3e, 0x1d, 0x10, 0x64, 0x68, 0x1a, 0x64, 0x36] : List UInt8)[i]? = some b) : vy_8 cJ6_getChars_ba4f3 (30 + i) b := vy_in (n := 10) (by decide +kernel) h
theorem vyb_cJ6_getChars_ba4f3_4 {i : Nat} {b : UInt8} (h : ([0x04, 0x1d, 0x3b, 0x2c, 0x84, 0x05, 0xff, 0x15, 0x05, 0xb2] : List UInt8)[i]? = some b) : vy_8 cJ6_getChars_ba4f3 (40 + i) b := vy_in (n := 10) (by decide +kernel) h
theorem vyb_cJ6_getChars_ba4f3_5 {i : Nat} {b : UInt8} (h : ([0x00, 0x53, 0x15, 0x04, 0x33, 0x54, 0x2c, 0x84, 0x05, 0xff] : List UInt8)[i]? = some b) : vy_8 cJ6_getChars_ba4f3 (50 + i) b := vy_in (n := 10) (by decide +kernel) h
theorem vyb_cJ6_getChars_ba4f3_6 {i : Nat} {b : UInt8} (h : ([0x15, 0x05, 0xb2, 0x00, 0x57, 0x15, 0x04, 0x33, 0x54, 0xa7] : List UInt8)[i]? = some b) : vy_8 cJ6_getChars_ba4f3 (60 + i) b := vy_in (n := 10) (by decide +kernel) h
theorem vyb_cJ6_getChars_ba4f3_7 {i : Nat} {b : UInt8} (h : ([0xff, 0xd1, 0x2c, 0x84, 0x05, 0xff, 0x15, 0x05, 0xb2, 0x00] : List UInt8)[i]? = some b) : vy_8 cJ6_getChars_ba4f3 (70 + i) b := vy_in (n := 10) (by decide +kernel) h
theorem vyb_cJ6_getChars_ba4f3_8 {i : Nat} {b : UInt8} (h : ([0x53, 0x1a, 0x74, 0x33, 0x54, 0x1a, 0x10, 0xf7, 0xa2, 0x00] : List UInt8)[i]? = some b) : vy_8 cJ6_getChars_ba4f3 (80 + i) b := vy_in (n := 10) (by decide +kernel) h
theorem vyb_cJ6_getChars_ba4f3_9 {i : Nat} {b : UInt8} (h : ([0x10, 0x2c, 0x84, 0x05, 0xff, 0x15, 0x05, 0xb2, 0x00, 0x57] : List UInt8)[i]? = some b) : vy_8 cJ6_getChars_ba4f3 (90 + i) b := vy_in (n := 10) (by decide +kernel) h
theorem vyb_cJ6_getChars_ba4f3_10 {i : Nat} {b : UInt8} (h : ([0x1a, 0x74, 0x33, 0x54, 0x15, 0x06, 0x99, 0x00, 0x0c, 0x2c] : List UInt8)[i]? = some b) : vy_8 cJ6_getChars_ba4f3 (100 + i) b := vy_in (n := 10) (by decide +kernel) h
theorem vyb_cJ6_getChars_ba4f3_11 {i : Nat} {b : UInt8} (h : ([0x84, 0x05, 0xff, 0x15, 0x05, 0x10, 0x2d, 0x54, 0x15, 0x05] : List UInt8)[i]? = some b) : vy_8 cJ6_getChars_ba4f3 (110 + i) b := vy_in (n := 10) (by decide +kernel) h
theorem vyb_cJ6_getChars_ba4f3_12 {i : Nat} {b : UInt8} (h : ([0xac] : List UInt8)[i]? = some b) : vy_8 cJ6_getChars_ba4f3 (120 + i) b := vy_in (n := 1) (by decide +kernel) h
theorem dJ6_getChars_ba4f3_0 : decode cJ6_getChars_ba4f3 0 = Except.ok (Instr.iload_n 1, 1) := vyd_27 (vyb_cJ6_getChars_ba4f3_0 (i := 0) rfl)
theorem dJ6_getChars_ba4f3_1 : decode cJ6_getChars_ba4f3 1 = Except.ok (Instr.istore 5, 2) := vyd_54 (vyb_cJ6_getChars_ba4f3_0 (i := 1) rfl) (vyb_cJ6_getChars_ba4f3_0 (i := 2) rfl) rfl
theorem dJ6_getChars_ba4f3_3 : decode cJ6_getChars_ba4f3 3 = Except.ok (Instr.iload_n 0, 1) := vyd_26 (vyb_cJ6_getChars_ba4f3_0 (i := 3) rfl)
theorem dJ6_getChars_ba4f3_4 : decode cJ6_getChars_ba4f3 4 = Except.ok (Instr.ifCond .ge 7, 3) := vyd_156 (vyb_cJ6_getChars_ba4f3_0 (i := 4) rfl) (vyb_cJ6_getChars_ba4f3_0 (i := 5) rfl) (vyb_cJ6_getChars_ba4f3_0 (i := 6) rfl) (by decide +kernel)
theorem dJ6_getChars_ba4f3_11 : decode cJ6_getChars_ba4f3 11 = Except.ok (Instr.iconst 0, 1) := vyd_3 (vyb_cJ6_getChars_ba4f3_1 (i := 1) rfl)
theorem dJ6_getChars_ba4f3_12 : decode cJ6_getChars_ba4f3 12 = Except.ok (Instr.istore 6, 2) := vyd_54 (vyb_cJ6_getChars_ba4f3_1 (i := 2) rfl) (vyb_cJ6_getChars_ba4f3_1 (i := 3) rfl) rfl
theorem dJ6_getChars_ba4f3_14 : decode cJ6_getChars_ba4f3 14 = Except.ok (Instr.iload 6, 2) := vyd_21 (vyb_cJ6_getChars_ba4f3_1 (i := 4) rfl) (vyb_cJ6_getChars_ba4f3_1 (i := 5) rfl) rfl
theorem dJ6_getChars_ba4f3_16 : decode cJ6_getChars_ba4f3 16 = Except.ok (Instr.ifCond .ne 6, 3) := vyd_154 (vyb_cJ6_getChars_ba4f3_1 (i := 6) rfl) (vyb_cJ6_getChars_ba4f3_1 (i := 7) rfl) (vyb_cJ6_getChars_ba4f3_1 (i := 8) rfl) (by decide +kernel)
theorem dJ6_getChars_ba4f3_19 : decode cJ6_getChars_ba4f3 19 = Except.ok (Instr.iload_n 0, 1) := vyd_26 (vyb_cJ6_getChars_ba4f3_1 (i := 9) rfl)
theorem dJ6_getChars_ba4f3_20 : decode cJ6_getChars_ba4f3 20 = Except.ok (Instr.ineg, 1) := vyd_116 (vyb_cJ6_getChars_ba4f3_2 (i := 0) rfl)
theorem dJ6_getChars_ba4f3_21 : decode cJ6_getChars_ba4f3 21 = Except.ok (Instr.istore_n 0, 1) := vyd_59 (vyb_cJ6_getChars_ba4f3_2 (i := 1) rfl)
theorem dJ6_getChars_ba4f3_22 : decode cJ6_getChars_ba4f3 22 = Except.ok (Instr.iload_n 0, 1) := vyd_26 (vyb_cJ6_getChars_ba4f3_2 (i := 2) rfl)
theorem dJ6_getChars_ba4f3_23 : decode cJ6_getChars_ba4f3 23 = Except.ok (Instr.bipush (-100), 2) := vyd_16 (vyb_cJ6_getChars_ba4f3_2 (i := 3) rfl) (vyb_cJ6_getChars_ba4f3_2 (i := 4) rfl) (by decide +kernel)
theorem dJ6_getChars_ba4f3_25 : decode cJ6_getChars_ba4f3 25 = Except.ok (Instr.if_icmp .gt 47, 3) := vyd_163 (vyb_cJ6_getChars_ba4f3_2 (i := 5) rfl) (vyb_cJ6_getChars_ba4f3_2 (i := 6) rfl) (vyb_cJ6_getChars_ba4f3_2 (i := 7) rfl) (by decide +kernel)
theorem dJ6_getChars_ba4f3_28 : decode cJ6_getChars_ba4f3 28 = Except.ok (Instr.iload_n 0, 1) := vyd_26 (vyb_cJ6_getChars_ba4f3_2 (i := 8) rfl)
theorem dJ6_getChars_ba4f3_29 : decode cJ6_getChars_ba4f3 29 = Except.ok (Instr.bipush 100, 2) := vyd_16 (vyb_cJ6_getChars_ba4f3_2 (i := 9) rfl) (vyb_cJ6_getChars_ba4f3_3 (i := 0) rfl) (by decide +kernel)
theorem dJ6_getChars_ba4f3_31 : decode cJ6_getChars_ba4f3 31 = Except.ok (Instr.idiv, 1) := vyd_108 (vyb_cJ6_getChars_ba4f3_3 (i := 1) rfl)
theorem dJ6_getChars_ba4f3_32 : decode cJ6_getChars_ba4f3 32 = Except.ok (Instr.istore_n 3, 1) := vyd_62 (vyb_cJ6_getChars_ba4f3_3 (i := 2) rfl)
theorem dJ6_getChars_ba4f3_33 : decode cJ6_getChars_ba4f3 33 = Except.ok (Instr.iload_n 3, 1) := vyd_29 (vyb_cJ6_getChars_ba4f3_3 (i := 3) rfl)
theorem dJ6_getChars_ba4f3_34 : decode cJ6_getChars_ba4f3 34 = Except.ok (Instr.bipush 100, 2) := vyd_16 (vyb_cJ6_getChars_ba4f3_3 (i := 4) rfl) (vyb_cJ6_getChars_ba4f3_3 (i := 5) rfl) (by decide +kernel)
theorem dJ6_getChars_ba4f3_36 : decode cJ6_getChars_ba4f3 36 = Except.ok (Instr.imul, 1) := vyd_104 (vyb_cJ6_getChars_ba4f3_3 (i := 6) rfl)
theorem dJ6_getChars_ba4f3_37 : decode cJ6_getChars_ba4f3 37 = Except.ok (Instr.iload_n 0, 1) := vyd_26 (vyb_cJ6_getChars_ba4f3_3 (i := 7) rfl)
theorem dJ6_getChars_ba4f3_38 : decode cJ6_getChars_ba4f3 38 = Except.ok (Instr.isub, 1) := vyd_100 (vyb_cJ6_getChars_ba4f3_3 (i := 8) rfl)
theorem dJ6_getChars_ba4f3_39 : decode cJ6_getChars_ba4f3 39 = Except.ok (Instr.istore 4, 2) := vyd_54 (vyb_cJ6_getChars_ba4f3_3 (i := 9) rfl) (vyb_cJ6_getChars_ba4f3_4 (i := 0) rfl) rfl
theorem dJ6_getChars_ba4f3_41 : decode cJ6_getChars_ba4f3 41 = Except.ok (Instr.iload_n 3, 1) := vyd_29 (vyb_cJ6_getChars_ba4f3_4 (i := 1) rfl)
theorem dJ6_getChars_ba4f3_42 : decode cJ6_getChars_ba4f3 42 = Except.ok (Instr.istore_n 0, 1) := vyd_59 (vyb_cJ6_getChars_ba4f3_4 (i := 2) rfl)
theorem dJ6_getChars_ba4f3_43 : decode cJ6_getChars_ba4f3 43 = Except.ok (Instr.aload_n 2, 1) := vyd_44 (vyb_cJ6_getChars_ba4f3_4 (i := 3) rfl)
theorem dJ6_getChars_ba4f3_44 : decode cJ6_getChars_ba4f3 44 = .ok (.iinc 5 (-1), 3) := by decide +kernel
theorem dJ6_getChars_ba4f3_47 : decode cJ6_getChars_ba4f3 47 = Except.ok (Instr.iload 5, 2) := vyd_21 (vyb_cJ6_getChars_ba4f3_4 (i := 7) rfl) (vyb_cJ6_getChars_ba4f3_4 (i := 8) rfl) rfl
theorem dJ6_getChars_ba4f3_49 : decode cJ6_getChars_ba4f3 49 = Except.ok (Instr.getstatic 83, 3) := vyd_178 (vyb_cJ6_getChars_ba4f3_4 (i := 9) rfl) (vyb_cJ6_getChars_ba4f3_5 (i := 0) rfl) (vyb_cJ6_getChars_ba4f3_5 (i := 1) rfl) rfl
theorem dJ6_getChars_ba4f3_52 : decode cJ6_getChars_ba4f3 52 = Except.ok (Instr.iload 4, 2) := vyd_21 (vyb_cJ6_getChars_ba4f3_5 (i := 2) rfl) (vyb_cJ6_getChars_ba4f3_5 (i := 3) rfl) rfl
theorem dJ6_getChars_ba4f3_54 : decode cJ6_getChars_ba4f3 54 = Except.ok (Instr.baload, 1) := vyd_51 (vyb_cJ6_getChars_ba4f3_5 (i := 4) rfl)
theorem dJ6_getChars_ba4f3_55 : decode cJ6_getChars_ba4f3 55 = Except.ok (Instr.bastore, 1) := vyd_84 (vyb_cJ6_getChars_ba4f3_5 (i := 5) rfl)
theorem dJ6_getChars_ba4f3_56 : decode cJ6_getChars_ba4f3 56 = Except.ok (Instr.aload_n 2, 1) := vyd_44 (vyb_cJ6_getChars_ba4f3_5 (i := 6) rfl)
theorem dJ6_getChars_ba4f3_57 : decode cJ6_getChars_ba4f3 57 = .ok (.iinc 5 (-1), 3) := by decide +kernel
theorem dJ6_getChars_ba4f3_60 : decode cJ6_getChars_ba4f3 60 = Except.ok (Instr.iload 5, 2) := vyd_21 (vyb_cJ6_getChars_ba4f3_6 (i := 0) rfl) (vyb_cJ6_getChars_ba4f3_6 (i := 1) rfl) rfl
theorem dJ6_getChars_ba4f3_62 : decode cJ6_getChars_ba4f3 62 = Except.ok (Instr.getstatic 87, 3) := vyd_178 (vyb_cJ6_getChars_ba4f3_6 (i := 2) rfl) (vyb_cJ6_getChars_ba4f3_6 (i := 3) rfl) (vyb_cJ6_getChars_ba4f3_6 (i := 4) rfl) rfl
theorem dJ6_getChars_ba4f3_65 : decode cJ6_getChars_ba4f3 65 = Except.ok (Instr.iload 4, 2) := vyd_21 (vyb_cJ6_getChars_ba4f3_6 (i := 5) rfl) (vyb_cJ6_getChars_ba4f3_6 (i := 6) rfl) rfl
theorem dJ6_getChars_ba4f3_67 : decode cJ6_getChars_ba4f3 67 = Except.ok (Instr.baload, 1) := vyd_51 (vyb_cJ6_getChars_ba4f3_6 (i := 7) rfl)
theorem dJ6_getChars_ba4f3_68 : decode cJ6_getChars_ba4f3 68 = Except.ok (Instr.bastore, 1) := vyd_84 (vyb_cJ6_getChars_ba4f3_6 (i := 8) rfl)
theorem dJ6_getChars_ba4f3_69 : decode cJ6_getChars_ba4f3 69 = Except.ok (Instr.goto (-47), 3) := vyd_167 (vyb_cJ6_getChars_ba4f3_6 (i := 9) rfl) (vyb_cJ6_getChars_ba4f3_7 (i := 0) rfl) (vyb_cJ6_getChars_ba4f3_7 (i := 1) rfl) (by decide +kernel)
theorem dJ6_getChars_ba4f3_72 : decode cJ6_getChars_ba4f3 72 = Except.ok (Instr.aload_n 2, 1) := vyd_44 (vyb_cJ6_getChars_ba4f3_7 (i := 2) rfl)
theorem dJ6_getChars_ba4f3_73 : decode cJ6_getChars_ba4f3 73 = .ok (.iinc 5 (-1), 3) := by decide +kernel
theorem dJ6_getChars_ba4f3_76 : decode cJ6_getChars_ba4f3 76 = Except.ok (Instr.iload 5, 2) := vyd_21 (vyb_cJ6_getChars_ba4f3_7 (i := 6) rfl) (vyb_cJ6_getChars_ba4f3_7 (i := 7) rfl) rfl
theorem dJ6_getChars_ba4f3_78 : decode cJ6_getChars_ba4f3 78 = Except.ok (Instr.getstatic 83, 3) := vyd_178 (vyb_cJ6_getChars_ba4f3_7 (i := 8) rfl) (vyb_cJ6_getChars_ba4f3_7 (i := 9) rfl) (vyb_cJ6_getChars_ba4f3_8 (i := 0) rfl) rfl
theorem dJ6_getChars_ba4f3_81 : decode cJ6_getChars_ba4f3 81 = Except.ok (Instr.iload_n 0, 1) := vyd_26 (vyb_cJ6_getChars_ba4f3_8 (i := 1) rfl)
theorem dJ6_getChars_ba4f3_82 : decode cJ6_getChars_ba4f3 82 = Except.ok (Instr.ineg, 1) := vyd_116 (vyb_cJ6_getChars_ba4f3_8 (i := 2) rfl)
theorem dJ6_getChars_ba4f3_83 : decode cJ6_getChars_ba4f3 83 = Except.ok (Instr.baload, 1) := vyd_51 (vyb_cJ6_getChars_ba4f3_8 (i := 3) rfl)
theorem dJ6_getChars_ba4f3_84 : decode cJ6_getChars_ba4f3 84 = Except.ok (Instr.bastore, 1) := vyd_84 (vyb_cJ6_getChars_ba4f3_8 (i := 4) rfl)
theorem dJ6_getChars_ba4f3_85 : decode cJ6_getChars_ba4f3 85 = Except.ok (Instr.iload_n 0, 1) := vyd_26 (vyb_cJ6_getChars_ba4f3_8 (i := 5) rfl)
theorem dJ6_getChars_ba4f3_86 : decode cJ6_getChars_ba4f3 86 = Except.ok (Instr.bipush (-9), 2) := vyd_16 (vyb_cJ6_getChars_ba4f3_8 (i := 6) rfl) (vyb_cJ6_getChars_ba4f3_8 (i := 7) rfl) (by decide +kernel)
theorem dJ6_getChars_ba4f3_88 : decode cJ6_getChars_ba4f3 88 = Except.ok (Instr.if_icmp .ge 16, 3) := vyd_162 (vyb_cJ6_getChars_ba4f3_8 (i := 8) rfl) (vyb_cJ6_getChars_ba4f3_8 (i := 9) rfl) (vyb_cJ6_getChars_ba4f3_9 (i := 0) rfl) (by decide +kernel)
theorem dJ6_getChars_ba4f3_91 : decode cJ6_getChars_ba4f3 91 = Except.ok (Instr.aload_n 2, 1) := vyd_44 (vyb_cJ6_getChars_ba4f3_9 (i := 1) rfl)
theorem dJ6_getChars_ba4f3_92 : decode cJ6_getChars_ba4f3 92 = .ok (.iinc 5 (-1), 3) := by decide +kernel
theorem dJ6_getChars_ba4f3_95 : decode cJ6_getChars_ba4f3 95 = Except.ok (Instr.iload 5, 2) := vyd_21 (vyb_cJ6_getChars_ba4f3_9 (i := 5) rfl) (vyb_cJ6_getChars_ba4f3_9 (i := 6) rfl) rfl
theorem dJ6_getChars_ba4f3_97 : decode cJ6_getChars_ba4f3 97 = Except.ok (Instr.getstatic 87, 3) := vyd_178 (vyb_cJ6_getChars_ba4f3_9 (i := 7) rfl) (vyb_cJ6_getChars_ba4f3_9 (i := 8) rfl) (vyb_cJ6_getChars_ba4f3_9 (i := 9) rfl) rfl
theorem dJ6_getChars_ba4f3_100 : decode cJ6_getChars_ba4f3 100 = Except.ok (Instr.iload_n 0, 1) := vyd_26 (vyb_cJ6_getChars_ba4f3_10 (i := 0) rfl)
theorem dJ6_getChars_ba4f3_101 : decode cJ6_getChars_ba4f3 101 = Except.ok (Instr.ineg, 1) := vyd_116 (vyb_cJ6_getChars_ba4f3_10 (i := 1) rfl)
theorem dJ6_getChars_ba4f3_102 : decode cJ6_getChars_ba4f3 102 = Except.ok (Instr.baload, 1) := vyd_51 (vyb_cJ6_getChars_ba4f3_10 (i := 2) rfl)
theorem dJ6_getChars_ba4f3_103 : decode cJ6_getChars_ba4f3 103 = Except.ok (Instr.bastore, 1) := vyd_84 (vyb_cJ6_getChars_ba4f3_10 (i := 3) rfl)
theorem dJ6_getChars_ba4f3_104 : decode cJ6_getChars_ba4f3 104 = Except.ok (Instr.iload 6, 2) := vyd_21 (vyb_cJ6_getChars_ba4f3_10 (i := 4) rfl) (vyb_cJ6_getChars_ba4f3_10 (i := 5) rfl) rfl
theorem dJ6_getChars_ba4f3_106 : decode cJ6_getChars_ba4f3 106 = Except.ok (Instr.ifCond .eq 12, 3) := vyd_153 (vyb_cJ6_getChars_ba4f3_10 (i := 6) rfl) (vyb_cJ6_getChars_ba4f3_10 (i := 7) rfl) (vyb_cJ6_getChars_ba4f3_10 (i := 8) rfl) (by decide +kernel)
theorem dJ6_getChars_ba4f3_118 : decode cJ6_getChars_ba4f3 118 = Except.ok (Instr.iload 5, 2) := vyd_21 (vyb_cJ6_getChars_ba4f3_11 (i := 8) rfl) (vyb_cJ6_getChars_ba4f3_11 (i := 9) rfl) rfl
theorem dJ6_getChars_ba4f3_120 : decode cJ6_getChars_ba4f3 120 = Except.ok (Instr.ireturn, 1) := vyd_172 (vyb_cJ6_getChars_ba4f3_12 (i := 0) rfl)
theorem vyb_cJ6_stringSize_0f7a4_0 {i : Nat} {b : UInt8} (h : ([0x04, 0x3c, 0x1a, 0x9b, 0x00, 0x08, 0x03, 0x3c, 0x1a, 0x74] : List UInt8)[i]? = some b) : vy_8 cJ6_stringSize_0f7a4 (0 + i) b := vy_in (n := 10) (by decide +kernel) h
theorem vyb_cJ6_stringSize_0f7a4_1 {i : Nat} {b : UInt8} (h : ([0x3b, 0x10, 0xf6, 0x3d, 0x04, 0x3e, 0x1d, 0x10, 0x0a, 0xa2] : List UInt8)[i]? = some b) : vy_8 cJ6_stringSize_0f7a4 (10 + i) b := vy_in (n := 10) (by decide +kernel) h
theorem vyb_cJ6_stringSize_0f7a4_2 {i : Nat} {b : UInt8} (h : ([0x00, 0x17, 0x1a, 0x1c, 0xa4, 0x00, 0x07, 0x1d, 0x1b, 0x60] : List UInt8)[i]? = some b) : vy_8 cJ6_stringSize_0f7a4 (20 + i) b := vy_in (n := 10) (by decide +kernel) h
theorem vyb_cJ6_stringSize_0f7a4_3 {i : Nat} {b : UInt8} (h : ([0xac, 0x10, 0x0a, 0x1c, 0x68, 0x3d, 0x84, 0x03, 0x01, 0xa7] : List UInt8)[i]? = some b) : vy_8 cJ6_stringSize_0f7a4 (30 + i) b := vy_in (n := 10) (by decide +kernel) h
theorem vyb_cJ6_stringSize_0f7a4_4 {i : Nat} {b : UInt8} (h : ([0xff, 0xe9, 0x10, 0x0a, 0x1b, 0x60, 0xac] : List UInt8)[i]? = some b) : vy_8 cJ6_stringSize_0f7a4 (40 + i) b := vy_in (n := 7) (by decide +kernel) h
theorem dJ6_stringSize_0f7a4_0 : decode cJ6_stringSize_0f7a4 0 = Except.ok (Instr.iconst 1, 1) := vyd_4 (vyb_cJ6_stringSize_0f7a4_0 (i := 0) rfl)
theorem dJ6_stringSize_0f7a4_1 : decode cJ6_stringSize_0f7a4 1 = Except.ok (Instr.istore_n 1, 1) := vyd_60 (vyb_cJ6_stringSize_0f7a4_0 (i := 1) rfl)
theorem dJ6_stringSize_0f7a4_2 : decode cJ6_stringSize_0f7a4 2 = Except.ok (Instr.iload_n 0, 1) := vyd_26 (vyb_cJ6_stringSize_0f7a4_0 (i := 2) rfl)
theorem dJ6_stringSize_0f7a4_3 : decode cJ6_stringSize_0f7a4 3 = Except.ok (Instr.ifCond .lt 8, 3) := vyd_155 (vyb_cJ6_stringSize_0f7a4_0 (i := 3) rfl) (vyb_cJ6_stringSize_0f7a4_0 (i := 4) rfl) (vyb_cJ6_stringSize_0f7a4_0 (i := 5) rfl) (by decide +kernel)
theorem dJ6_stringSize_0f7a4_6 : decode cJ6_stringSize_0f7a4 6 = Except.ok (Instr.iconst 0, 1) := vyd_3 (vyb_cJ6_stringSize_0f7a4_0 (i := 6) rfl)
theorem dJ6_stringSize_0f7a4_7 : decode cJ6_stringSize_0f7a4 7 = Except.ok (Instr.istore_n 1, 1) := vyd_60 (vyb_cJ6_stringSize_0f7a4_0 (i := 7) rfl)
theorem dJ6_stringSize_0f7a4_8 : decode cJ6_stringSize_0f7a4 8 = Except.ok (Instr.iload_n 0, 1) := vyd_26 (vyb_cJ6_stringSize_0f7a4_0 (i := 8) rfl)
theorem dJ6_stringSize_0f7a4_9 : decode cJ6_stringSize_0f7a4 9 = Except.ok (Instr.ineg, 1) := vyd_116 (vyb_cJ6_stringSize_0f7a4_0 (i := 9) rfl)
theorem dJ6_stringSize_0f7a4_10 : decode cJ6_stringSize_0f7a4 10 = Except.ok (Instr.istore_n 0, 1) := vyd_59 (vyb_cJ6_stringSize_0f7a4_1 (i := 0) rfl)
theorem dJ6_stringSize_0f7a4_11 : decode cJ6_stringSize_0f7a4 11 = Except.ok (Instr.bipush (-10), 2) := vyd_16 (vyb_cJ6_stringSize_0f7a4_1 (i := 1) rfl) (vyb_cJ6_stringSize_0f7a4_1 (i := 2) rfl) (by decide +kernel)
theorem dJ6_stringSize_0f7a4_13 : decode cJ6_stringSize_0f7a4 13 = Except.ok (Instr.istore_n 2, 1) := vyd_61 (vyb_cJ6_stringSize_0f7a4_1 (i := 3) rfl)
theorem dJ6_stringSize_0f7a4_14 : decode cJ6_stringSize_0f7a4 14 = Except.ok (Instr.iconst 1, 1) := vyd_4 (vyb_cJ6_stringSize_0f7a4_1 (i := 4) rfl)
theorem dJ6_stringSize_0f7a4_15 : decode cJ6_stringSize_0f7a4 15 = Except.ok (Instr.istore_n 3, 1) := vyd_62 (vyb_cJ6_stringSize_0f7a4_1 (i := 5) rfl)
theorem dJ6_stringSize_0f7a4_16 : decode cJ6_stringSize_0f7a4 16 = Except.ok (Instr.iload_n 3, 1) := vyd_29 (vyb_cJ6_stringSize_0f7a4_1 (i := 6) rfl)
theorem dJ6_stringSize_0f7a4_17 : decode cJ6_stringSize_0f7a4 17 = Except.ok (Instr.bipush 10, 2) := vyd_16 (vyb_cJ6_stringSize_0f7a4_1 (i := 7) rfl) (vyb_cJ6_stringSize_0f7a4_1 (i := 8) rfl) (by decide +kernel)
theorem dJ6_stringSize_0f7a4_19 : decode cJ6_stringSize_0f7a4 19 = Except.ok (Instr.if_icmp .ge 23, 3) := vyd_162 (vyb_cJ6_stringSize_0f7a4_1 (i := 9) rfl) (vyb_cJ6_stringSize_0f7a4_2 (i := 0) rfl) (vyb_cJ6_stringSize_0f7a4_2 (i := 1) rfl) (by decide +kernel)
theorem dJ6_stringSize_0f7a4_22 : decode cJ6_stringSize_0f7a4 22 = Except.ok (Instr.iload_n 0, 1) := vyd_26 (vyb_cJ6_stringSize_0f7a4_2 (i := 2) rfl)
theorem dJ6_stringSize_0f7a4_23 : decode cJ6_stringSize_0f7a4 23 = Except.ok (Instr.iload_n 2, 1) := vyd_28 (vyb_cJ6_stringSize_0f7a4_2 (i := 3) rfl)
theorem dJ6_stringSize_0f7a4_24 : decode cJ6_stringSize_0f7a4 24 = Except.ok (Instr.if_icmp .le 7, 3) := vyd_164 (vyb_cJ6_stringSize_0f7a4_2 (i := 4) rfl) (vyb_cJ6_stringSize_0f7a4_2 (i := 5) rfl) (vyb_cJ6_stringSize_0f7a4_2 (i := 6) rfl) (by decide +kernel)
theorem dJ6_stringSize_0f7a4_27 : decode cJ6_stringSize_0f7a4 27 = Except.ok (Instr.iload_n 3, 1) := vyd_29 (vyb_cJ6_stringSize_0f7a4_2 (i := 7) rfl)
theorem dJ6_stringSize_0f7a4_28 : decode cJ6_stringSize_0f7a4 28 = Except.ok (Instr.iload_n 1, 1) := vyd_27 (vyb_cJ6_stringSize_0f7a4_2 (i := 8) rfl)
theorem dJ6_stringSize_0f7a4_29 : decode cJ6_stringSize_0f7a4 29 = Except.ok (Instr.iadd, 1) := vyd_96 (vyb_cJ6_stringSize_0f7a4_2 (i := 9) rfl)
theorem dJ6_stringSize_0f7a4_30 : decode cJ6_stringSize_0f7a4 30 = Except.ok (Instr.ireturn, 1) := vyd_172 (vyb_cJ6_stringSize_0f7a4_3 (i := 0) rfl)
theorem dJ6_stringSize_0f7a4_31 : decode cJ6_stringSize_0f7a4 31 = Except.ok (Instr.bipush 10, 2) := vyd_16 (vyb_cJ6_stringSize_0f7a4_3 (i := 1) rfl) (vyb_cJ6_stringSize_0f7a4_3 (i := 2) rfl) (by decide +kernel)
theorem dJ6_stringSize_0f7a4_33 : decode cJ6_stringSize_0f7a4 33 = Except.ok (Instr.iload_n 2, 1) := vyd_28 (vyb_cJ6_stringSize_0f7a4_3 (i := 3) rfl)
theorem dJ6_stringSize_0f7a4_34 : decode cJ6_stringSize_0f7a4 34 = Except.ok (Instr.imul, 1) := vyd_104 (vyb_cJ6_stringSize_0f7a4_3 (i := 4) rfl)
theorem dJ6_stringSize_0f7a4_35 : decode cJ6_stringSize_0f7a4 35 = Except.ok (Instr.istore_n 2, 1) := vyd_61 (vyb_cJ6_stringSize_0f7a4_3 (i := 5) rfl)
theorem dJ6_stringSize_0f7a4_36 : decode cJ6_stringSize_0f7a4 36 = .ok (.iinc 3 1, 3) := by decide +kernel
theorem dJ6_stringSize_0f7a4_39 : decode cJ6_stringSize_0f7a4 39 = Except.ok (Instr.goto (-23), 3) := vyd_167 (vyb_cJ6_stringSize_0f7a4_3 (i := 9) rfl) (vyb_cJ6_stringSize_0f7a4_4 (i := 0) rfl) (vyb_cJ6_stringSize_0f7a4_4 (i := 1) rfl) (by decide +kernel)
theorem vyb_cJ6_valueOf_2dffe_0 {i : Nat} {b : UInt8} (h : ([0x1a, 0x10, 0x80, 0xa1, 0x00, 0x14, 0x1a, 0xb2, 0x00, 0xbf] : List UInt8)[i]? = some b) : vy_8 cJ6_valueOf_2dffe (0 + i) b := vy_in (n := 10) (by decide +kernel) h
theorem vyb_cJ6_valueOf_2dffe_1 {i : Nat} {b : UInt8} (h : ([0xa3, 0x00, 0x0d, 0xb2, 0x00, 0xc3, 0x1a, 0x11, 0x00, 0x80] : List UInt8)[i]? = some b) : vy_8 cJ6_valueOf_2dffe (10 + i) b := vy_in (n := 10) (by decide +kernel) h
theorem vyb_cJ6_valueOf_2dffe_2 {i : Nat} {b : UInt8} (h : ([0x60, 0x32, 0xb0, 0xbb, 0x00, 0x01, 0x59, 0x1a, 0xb7, 0x00] : List UInt8)[i]? = some b) : vy_8 cJ6_valueOf_2dffe (20 + i) b := vy_in (n := 10) (by decide +kernel) h
theorem vyb_cJ6_valueOf_2dffe_3 {i : Nat} {b : UInt8} (h : ([0xc7, 0xb0] : List UInt8)[i]? = some b) : vy_8 cJ6_valueOf_2dffe (30 + i) b := vy_in (n := 2) (by decide +kernel) h
theorem dJ6_valueOf_2dffe_0 : decode cJ6_valueOf_2dffe 0 = Except.ok (Instr.iload_n 0, 1) := vyd_26 (vyb_cJ6_valueOf_2dffe_0 (i := 0) rfl)
theorem dJ6_valueOf_2dffe_1 : decode cJ6_valueOf_2dffe 1 = Except.ok (Instr.bipush (-128), 2) := vyd_16 (vyb_cJ6_valueOf_2dffe_0 (i := 1) rfl) (vyb_cJ6_valueOf_2dffe_0 (i := 2) rfl) (by decide +kernel)
theorem dJ6_valueOf_2dffe_3 : decode cJ6_valueOf_2dffe 3 = Except.ok (Instr.if_icmp .lt 20, 3) := vyd_161 (vyb_cJ6_valueOf_2dffe_0 (i := 3) rfl) (vyb_cJ6_valueOf_2dffe_0 (i := 4) rfl) (vyb_cJ6_valueOf_2dffe_0 (i := 5) rfl) (by decide +kernel)
theorem dJ6_valueOf_2dffe_6 : decode cJ6_valueOf_2dffe 6 = Except.ok (Instr.iload_n 0, 1) := vyd_26 (vyb_cJ6_valueOf_2dffe_0 (i := 6) rfl)
theorem dJ6_valueOf_2dffe_7 : decode cJ6_valueOf_2dffe 7 = Except.ok (Instr.getstatic 191, 3) := vyd_178 (vyb_cJ6_valueOf_2dffe_0 (i := 7) rfl) (vyb_cJ6_valueOf_2dffe_0 (i := 8) rfl) (vyb_cJ6_valueOf_2dffe_0 (i := 9) rfl) rfl
theorem dJ6_valueOf_2dffe_10 : decode cJ6_valueOf_2dffe 10 = Except.ok (Instr.if_icmp .gt 13, 3) := vyd_163 (vyb_cJ6_valueOf_2dffe_1 (i := 0) rfl) (vyb_cJ6_valueOf_2dffe_1 (i := 1) rfl) (vyb_cJ6_valueOf_2dffe_1 (i := 2) rfl) (by decide +kernel)
theorem dJ6_valueOf_2dffe_13 : decode cJ6_valueOf_2dffe 13 = Except.ok (Instr.getstatic 195, 3) := vyd_178 (vyb_cJ6_valueOf_2dffe_1 (i := 3) rfl) (vyb_cJ6_valueOf_2dffe_1 (i := 4) rfl) (vyb_cJ6_valueOf_2dffe_1 (i := 5) rfl) rfl
theorem dJ6_valueOf_2dffe_16 : decode cJ6_valueOf_2dffe 16 = Except.ok (Instr.iload_n 0, 1) := vyd_26 (vyb_cJ6_valueOf_2dffe_1 (i := 6) rfl)
theorem dJ6_valueOf_2dffe_17 : decode cJ6_valueOf_2dffe 17 = Except.ok (Instr.sipush 128, 3) := vyd_17 (vyb_cJ6_valueOf_2dffe_1 (i := 7) rfl) (vyb_cJ6_valueOf_2dffe_1 (i := 8) rfl) (vyb_cJ6_valueOf_2dffe_1 (i := 9) rfl) (by decide +kernel)
theorem dJ6_valueOf_2dffe_20 : decode cJ6_valueOf_2dffe 20 = Except.ok (Instr.iadd, 1) := vyd_96 (vyb_cJ6_valueOf_2dffe_2 (i := 0) rfl)
theorem dJ6_valueOf_2dffe_21 : decode cJ6_valueOf_2dffe 21 = Except.ok (Instr.aaload, 1) := vyd_50 (vyb_cJ6_valueOf_2dffe_2 (i := 1) rfl)
theorem dJ6_valueOf_2dffe_22 : decode cJ6_valueOf_2dffe 22 = Except.ok (Instr.areturn, 1) := vyd_176 (vyb_cJ6_valueOf_2dffe_2 (i := 2) rfl)
theorem dJ6_valueOf_2dffe_23 : decode cJ6_valueOf_2dffe 23 = Except.ok (Instr.new 1, 3) := vyd_187 (vyb_cJ6_valueOf_2dffe_2 (i := 3) rfl) (vyb_cJ6_valueOf_2dffe_2 (i := 4) rfl) (vyb_cJ6_valueOf_2dffe_2 (i := 5) rfl) rfl
theorem dJ6_valueOf_2dffe_26 : decode cJ6_valueOf_2dffe 26 = Except.ok (Instr.dup, 1) := vyd_89 (vyb_cJ6_valueOf_2dffe_2 (i := 6) rfl)
theorem dJ6_valueOf_2dffe_27 : decode cJ6_valueOf_2dffe 27 = Except.ok (Instr.iload_n 0, 1) := vyd_26 (vyb_cJ6_valueOf_2dffe_2 (i := 7) rfl)
theorem dJ6_valueOf_2dffe_28 : decode cJ6_valueOf_2dffe 28 = Except.ok (Instr.invokespecial 199, 3) := vyd_183 (vyb_cJ6_valueOf_2dffe_2 (i := 8) rfl) (vyb_cJ6_valueOf_2dffe_2 (i := 9) rfl) (vyb_cJ6_valueOf_2dffe_3 (i := 0) rfl) rfl
theorem dJ6_valueOf_2dffe_31 : decode cJ6_valueOf_2dffe 31 = Except.ok (Instr.areturn, 1) := vyd_176 (vyb_cJ6_valueOf_2dffe_3 (i := 1) rfl)
theorem vyb_cJ6_init_d00df_0 {i : Nat} {b : UInt8} (h : ([0x2a, 0xb7, 0x00, 0xca, 0x2a, 0x1b, 0xb5, 0x00, 0xcd, 0xb1] : List UInt8)[i]? = some b) : vy_8 cJ6_init_d00df (0 + i) b := vy_in (n := 10) (by decide +kernel) h
theorem dJ6_init_d00df_0 : decode cJ6_init_d00df 0 = Except.ok (Instr.aload_n 0, 1) := vyd_42 (vyb_cJ6_init_d00df_0 (i := 0) rfl)
theorem dJ6_init_d00df_1 : decode cJ6_init_d00df 1 = Except.ok (Instr.invokespecial 202, 3) := vyd_183 (vyb_cJ6_init_d00df_0 (i := 1) rfl) (vyb_cJ6_init_d00df_0 (i := 2) rfl) (vyb_cJ6_init_d00df_0 (i := 3) rfl) rfl
theorem dJ6_init_d00df_4 : decode cJ6_init_d00df 4 = Except.ok (Instr.aload_n 0, 1) := vyd_42 (vyb_cJ6_init_d00df_0 (i := 4) rfl)
theorem dJ6_init_d00df_5 : decode cJ6_init_d00df 5 = Except.ok (Instr.iload_n 1, 1) := vyd_27 (vyb_cJ6_init_d00df_0 (i := 5) rfl)
theorem dJ6_init_d00df_6 : decode cJ6_init_d00df 6 = Except.ok (Instr.putfield 205, 3) := vyd_181 (vyb_cJ6_init_d00df_0 (i := 6) rfl) (vyb_cJ6_init_d00df_0 (i := 7) rfl) (vyb_cJ6_init_d00df_0 (i := 8) rfl) rfl
theorem dJ6_init_d00df_9 : decode cJ6_init_d00df 9 = Except.ok (Instr.return_, 1) := vyd_177 (vyb_cJ6_init_d00df_0 (i := 9) rfl)
theorem vyb_cJ6_intValue_8abf5_0 {i : Nat} {b : UInt8} (h : ([0x2a, 0xb4, 0x00, 0xcd, 0xac] : List UInt8)[i]? = some b) : vy_8 cJ6_intValue_8abf5 (0 + i) b := vy_in (n := 5) (by decide +kernel) h
theorem dJ6_intValue_8abf5_0 : decode cJ6_intValue_8abf5 0 = Except.ok (Instr.aload_n 0, 1) := vyd_42 (vyb_cJ6_intValue_8abf5_0 (i := 0) rfl)
theorem dJ6_intValue_8abf5_1 : decode cJ6_intValue_8abf5 1 = Except.ok (Instr.getfield 205, 3) := vyd_180 (vyb_cJ6_intValue_8abf5_0 (i := 1) rfl) (vyb_cJ6_intValue_8abf5_0 (i := 2) rfl) (vyb_cJ6_intValue_8abf5_0 (i := 3) rfl) rfl
theorem dJ6_intValue_8abf5_4 : decode cJ6_intValue_8abf5 4 = Except.ok (Instr.ireturn, 1) := vyd_172 (vyb_cJ6_intValue_8abf5_0 (i := 4) rfl)
theorem vyb_cJxd2413_init_da8c8_0 {i : Nat} {b : UInt8} (h : ([0x2a, 0xb7, 0x00, 0x01, 0xb1] : List UInt8)[i]? = some b) : vy_8 cJxd2413_init_da8c8 (0 + i) b := vy_in (n := 5) (by decide +kernel) h
theorem dJxd2413_init_da8c8_0 : decode cJxd2413_init_da8c8 0 = Except.ok (Instr.aload_n 0, 1) := vyd_42 (vyb_cJxd2413_init_da8c8_0 (i := 0) rfl)
theorem dJxd2413_init_da8c8_1 : decode cJxd2413_init_da8c8 1 = Except.ok (Instr.invokespecial 1, 3) := vyd_183 (vyb_cJxd2413_init_da8c8_0 (i := 1) rfl) (vyb_cJxd2413_init_da8c8_0 (i := 2) rfl) (vyb_cJxd2413_init_da8c8_0 (i := 3) rfl) rfl
theorem dJxd2413_init_da8c8_4 : decode cJxd2413_init_da8c8 4 = Except.ok (Instr.return_, 1) := vyd_177 (vyb_cJxd2413_init_da8c8_0 (i := 4) rfl)
theorem vyb_cJ0_init_81219_0 {i : Nat} {b : UInt8} (h : ([0x2a, 0x2b, 0x01, 0xb7, 0x01, 0xe9, 0xb1] : List UInt8)[i]? = some b) : vy_8 cJ0_init_81219 (0 + i) b := vy_in (n := 7) (by decide +kernel) h
theorem dJ0_init_81219_0 : decode cJ0_init_81219 0 = Except.ok (Instr.aload_n 0, 1) := vyd_42 (vyb_cJ0_init_81219_0 (i := 0) rfl)
theorem dJ0_init_81219_1 : decode cJ0_init_81219 1 = Except.ok (Instr.aload_n 1, 1) := vyd_43 (vyb_cJ0_init_81219_0 (i := 1) rfl)
theorem dJ0_init_81219_2 : decode cJ0_init_81219 2 = Except.ok (Instr.aconst_null, 1) := vyd_1 (vyb_cJ0_init_81219_0 (i := 2) rfl)
theorem dJ0_init_81219_3 : decode cJ0_init_81219 3 = Except.ok (Instr.invokespecial 489, 3) := vyd_183 (vyb_cJ0_init_81219_0 (i := 3) rfl) (vyb_cJ0_init_81219_0 (i := 4) rfl) (vyb_cJ0_init_81219_0 (i := 5) rfl) rfl
theorem dJ0_init_81219_6 : decode cJ0_init_81219 6 = Except.ok (Instr.return_, 1) := vyd_177 (vyb_cJ0_init_81219_0 (i := 6) rfl)
theorem vyb_cJ0_length_8abf5_0 {i : Nat} {b : UInt8} (h : ([0x2a, 0xb4, 0x00, 0x09, 0xbe, 0x2a, 0xb6, 0x01, 0x4f, 0x7a] : List UInt8)[i]? = some b) : vy_8 cJ0_length_8abf5 (0 + i) b := vy_in (n := 10) (by decide +kernel) h
theorem vyb_cJ0_length_8abf5_1 {i : Nat} {b : UInt8} (h : ([0xac] : List UInt8)[i]? = some b) : vy_8 cJ0_length_8abf5 (10 + i) b := vy_in (n := 1) (by decide +kernel) h
theorem dJ0_length_8abf5_0 : decode cJ0_length_8abf5 0 = Except.ok (Instr.aload_n 0, 1) := vyd_42 (vyb_cJ0_length_8abf5_0 (i := 0) rfl)
theorem dJ0_length_8abf5_1 : decode cJ0_length_8abf5 1 = Except.ok (Instr.getfield 9, 3) := vyd_180 (vyb_cJ0_length_8abf5_0 (i := 1) rfl) (vyb_cJ0_length_8abf5_0 (i := 2) rfl) (vyb_cJ0_length_8abf5_0 (i := 3) rfl) rfl
theorem dJ0_length_8abf5_4 : decode cJ0_length_8abf5 4 = Except.ok (Instr.arraylength, 1) := vyd_190 (vyb_cJ0_length_8abf5_0 (i := 4) rfl)
theorem dJ0_length_8abf5_5 : decode cJ0_length_8abf5 5 = Except.ok (Instr.aload_n 0, 1) := vyd_42 (vyb_cJ0_length_8abf5_0 (i := 5) rfl)
theorem dJ0_length_8abf5_6 : decode cJ0_length_8abf5 6 = Except.ok (Instr.invokevirtual 335, 3) := vyd_182 (vyb_cJ0_length_8abf5_0 (i := 6) rfl) (vyb_cJ0_length_8abf5_0 (i := 7) rfl) (vyb_cJ0_length_8abf5_0 (i := 8) rfl) rfl
theorem dJ0_length_8abf5_9 : decode cJ0_length_8abf5 9 = Except.ok (Instr.ishr, 1) := vyd_122 (vyb_cJ0_length_8abf5_0 (i := 9) rfl)
theorem dJ0_length_8abf5_10 : decode cJ0_length_8abf5 10 = Except.ok (Instr.ireturn, 1) := vyd_172 (vyb_cJ0_length_8abf5_1 (i := 0) rfl)
theorem vyb_cJ0_getBytes_840e7_0 {i : Nat} {b : UInt8} (h : ([0x2a, 0xb6, 0x01, 0x4f, 0x1d, 0xa0, 0x00, 0x17, 0x2a, 0xb4] : List UInt8)[i]? = some b) : vy_8 cJ0_getBytes_840e7 (0 + i) b := vy_in (n := 10) (by decide +kernel) h
theorem vyb_cJ0_getBytes_840e7_1 {i : Nat} {b : UInt8} (h : ([0x00, 0x09, 0x03, 0x2b, 0x1c, 0x1d, 0x78, 0x2a, 0xb4, 0x00] : List UInt8)[i]? = some b) : vy_8 cJ0_getBytes_840e7 (10 + i) b := vy_in (n := 10) (by decide +kernel) h
theorem vyb_cJ0_getBytes_840e7_2 {i : Nat} {b : UInt8} (h : ([0x09, 0xbe, 0xb8, 0x00, 0xd4, 0xa7, 0x00, 0x12, 0x2a, 0xb4] : List UInt8)[i]? = some b) : vy_8 cJ0_getBytes_840e7 (20 + i) b := vy_in (n := 10) (by decide +kernel) h
theorem vyb_cJ0_getBytes_840e7_3 {i : Nat} {b : UInt8} (h : ([0x00, 0x09, 0x03, 0x2b, 0x1c, 0x2a, 0xb4, 0x00, 0x09, 0xbe] : List UInt8)[i]? = some b) : vy_8 cJ0_getBytes_840e7 (30 + i) b := vy_in (n := 10) (by decide +kernel) h
theorem vyb_cJ0_getBytes_840e7_4 {i : Nat} {b : UInt8} (h : ([0xb8, 0x00, 0x6a, 0xb1] : List UInt8)[i]? = some b) : vy_8 cJ0_getBytes_840e7 (40 + i) b := vy_in (n := 4) (by decide +kernel) h
theorem dJ0_getBytes_840e7_0 : decode cJ0_getBytes_840e7 0 = Except.ok (Instr.aload_n 0, 1) := vyd_42 (vyb_cJ0_getBytes_840e7_0 (i := 0) rfl)
theorem dJ0_getBytes_840e7_1 : decode cJ0_getBytes_840e7 1 = Except.ok (Instr.invokevirtual 335, 3) := vyd_182 (vyb_cJ0_getBytes_840e7_0 (i := 1) rfl) (vyb_cJ0_getBytes_840e7_0 (i := 2) rfl) (vyb_cJ0_getBytes_840e7_0 (i := 3) rfl) rfl
theorem dJ0_getBytes_840e7_4 : decode cJ0_getBytes_840e7 4 = Except.ok (Instr.iload_n 3, 1) := vyd_29 (vyb_cJ0_getBytes_840e7_0 (i := 4) rfl)
theorem dJ0_getBytes_840e7_5 : decode cJ0_getBytes_840e7 5 = Except.ok (Instr.if_icmp .ne 23, 3) := vyd_160 (vyb_cJ0_getBytes_840e7_0 (i := 5) rfl) (vyb_cJ0_getBytes_840e7_0 (i := 6) rfl) (vyb_cJ0_getBytes_840e7_0 (i := 7) rfl) (by decide +kernel)
theorem dJ0_getBytes_840e7_8 : decode cJ0_getBytes_840e7 8 = Except.ok (Instr.aload_n 0, 1) := vyd_42 (vyb_cJ0_getBytes_840e7_0 (i := 8) rfl)
theorem dJ0_getBytes_840e7_9 : decode cJ0_getBytes_840e7 9 = Except.ok (Instr.getfield 9, 3) := vyd_180 (vyb_cJ0_getBytes_840e7_0 (i := 9) rfl) (vyb_cJ0_getBytes_840e7_1 (i := 0) rfl) (vyb_cJ0_getBytes_840e7_1 (i := 1) rfl) rfl
theorem dJ0_getBytes_840e7_12 : decode cJ0_getBytes_840e7 12 = Except.ok (Instr.iconst 0, 1) := vyd_3 (vyb_cJ0_getBytes_840e7_1 (i := 2) rfl)
theorem dJ0_getBytes_840e7_13 : decode cJ0_getBytes_840e7 13 = Except.ok (Instr.aload_n 1, 1) := vyd_43 (vyb_cJ0_getBytes_840e7_1 (i := 3) rfl)
theorem dJ0_getBytes_840e7_14 : decode cJ0_getBytes_840e7 14 = Except.ok (Instr.iload_n 2, 1) := vyd_28 (vyb_cJ0_getBytes_840e7_1 (i := 4) rfl)
theorem dJ0_getBytes_840e7_15 : decode cJ0_getBytes_840e7 15 = Except.ok (Instr.iload_n 3, 1) := vyd_29 (vyb_cJ0_getBytes_840e7_1 (i := 5) rfl)
theorem dJ0_getBytes_840e7_16 : decode cJ0_getBytes_840e7 16 = Except.ok (Instr.ishl, 1) := vyd_120 (vyb_cJ0_getBytes_840e7_1 (i := 6) rfl)
theorem dJ0_getBytes_840e7_17 : decode cJ0_getBytes_840e7 17 = Except.ok (Instr.aload_n 0, 1) := vyd_42 (vyb_cJ0_getBytes_840e7_1 (i := 7) rfl)
theorem dJ0_getBytes_840e7_18 : decode cJ0_getBytes_840e7 18 = Except.ok (Instr.getfield 9, 3) := vyd_180 (vyb_cJ0_getBytes_840e7_1 (i := 8) rfl) (vyb_cJ0_getBytes_840e7_1 (i := 9) rfl) (vyb_cJ0_getBytes_840e7_2 (i := 0) rfl) rfl
theorem dJ0_getBytes_840e7_21 : decode cJ0_getBytes_840e7 21 = Except.ok (Instr.arraylength, 1) := vyd_190 (vyb_cJ0_getBytes_840e7_2 (i := 1) rfl)
theorem dJ0_getBytes_840e7_22 : decode cJ0_getBytes_840e7 22 = Except.ok (Instr.invokestatic 212, 3) := vyd_184 (vyb_cJ0_getBytes_840e7_2 (i := 2) rfl) (vyb_cJ0_getBytes_840e7_2 (i := 3) rfl) (vyb_cJ0_getBytes_840e7_2 (i := 4) rfl) rfl
theorem dJ0_getBytes_840e7_25 : decode cJ0_getBytes_840e7 25 = Except.ok (Instr.goto 18, 3) := vyd_167 (vyb_cJ0_getBytes_840e7_2 (i := 5) rfl) (vyb_cJ0_getBytes_840e7_2 (i := 6) rfl) (vyb_cJ0_getBytes_840e7_2 (i := 7) rfl) (by decide +kernel)
theorem dJ0_getBytes_840e7_43 : decode cJ0_getBytes_840e7 43 = Except.ok (Instr.return_, 1) := vyd_177 (vyb_cJ0_getBytes_840e7_4 (i := 3) rfl)
theorem vyb_cJ0_init_db425_0 {i : Nat} {b : UInt8} (h : ([0x2a, 0xb7, 0x00, 0x01, 0x2b, 0xb6, 0x02, 0x28, 0x4e, 0x2b] : List UInt8)[i]? = some b) : vy_8 cJ0_init_db425 (0 + i) b := vy_in (n := 10) (by decide +kernel) h
theorem vyb_cJ0_init_db425_1 {i : Nat} {b : UInt8} (h : ([0xb6, 0x02, 0x25, 0x36, 0x04, 0x2b, 0xb6, 0x04, 0x17, 0x99] : List UInt8)[i]? = some b) : vy_8 cJ0_init_db425 (10 + i) b := vy_in (n := 10) (by decide +kernel) h
theorem vyb_cJ0_init_db425_2 {i : Nat} {b : UInt8} (h : ([0x00, 0x16, 0x2a, 0x03, 0xb5, 0x00, 0x0f, 0x2a, 0x2d, 0x03] : List UInt8)[i]? = some b) : vy_8 cJ0_init_db425 (20 + i) b := vy_in (n := 10) (by decide +kernel) h
theorem vyb_cJ0_init_db425_3 {i : Nat} {b : UInt8} (h : ([0x15, 0x04, 0xb8, 0x00, 0x36, 0xb5, 0x00, 0x09, 0xa7, 0x00] : List UInt8)[i]? = some b) : vy_8 cJ0_init_db425 (30 + i) b := vy_in (n := 10) (by decide +kernel) h
theorem vyb_cJ0_init_db425_4 {i : Nat} {b : UInt8} (h : ([0x3b, 0xb2, 0x00, 0x26, 0x99, 0x00, 0x23, 0x2b, 0xb4, 0x04] : List UInt8)[i]? = some b) : vy_8 cJ0_init_db425 (40 + i) b := vy_in (n := 10) (by decide +kernel) h
theorem vyb_cJ0_init_db425_5 {i : Nat} {b : UInt8} (h : ([0x18, 0x99, 0x00, 0x1c, 0x2a, 0x2d, 0x03, 0x15, 0x04, 0xb8] : List UInt8)[i]? = some b) : vy_8 cJ0_init_db425 (50 + i) b := vy_in (n := 10) (by decide +kernel) h
theorem vyb_cJ0_init_db425_6 {i : Nat} {b : UInt8} (h : ([0x04, 0x1b, 0xb5, 0x00, 0x09, 0x2a, 0x2a, 0xb4, 0x00, 0x09] : List UInt8)[i]? = some b) : vy_8 cJ0_init_db425 (60 + i) b := vy_in (n := 10) (by decide +kernel) h
theorem vyb_cJ0_init_db425_7 {i : Nat} {b : UInt8} (h : ([0x15, 0x04, 0xb8, 0x00, 0x2f, 0xb5, 0x00, 0x0f, 0xb1, 0x2a] : List UInt8)[i]? = some b) : vy_8 cJ0_init_db425 (70 + i) b := vy_in (n := 10) (by decide +kernel) h
theorem vyb_cJ0_init_db425_8 {i : Nat} {b : UInt8} (h : ([0x04, 0xb5, 0x00, 0x0f, 0x2a, 0x2d, 0x03, 0x15, 0x04, 0x04] : List UInt8)[i]? = some b) : vy_8 cJ0_init_db425 (80 + i) b := vy_in (n := 10) (by decide +kernel) h
theorem vyb_cJ0_init_db425_9 {i : Nat} {b : UInt8} (h : ([0x78, 0xb8, 0x00, 0x36, 0xb5, 0x00, 0x09, 0xb1] : List UInt8)[i]? = some b) : vy_8 cJ0_init_db425 (90 + i) b := vy_in (n := 8) (by decide +kernel) h
theorem dJ0_init_db425_0 : decode cJ0_init_db425 0 = Except.ok (Instr.aload_n 0, 1) := vyd_42 (vyb_cJ0_init_db425_0 (i := 0) rfl)
theorem dJ0_init_db425_1 : decode cJ0_init_db425 1 = Except.ok (Instr.invokespecial 1, 3) := vyd_183 (vyb_cJ0_init_db425_0 (i := 1) rfl) (vyb_cJ0_init_db425_0 (i := 2) rfl) (vyb_cJ0_init_db425_0 (i := 3) rfl) rfl
theorem dJ0_init_db425_4 : decode cJ0_init_db425 4 = Except.ok (Instr.aload_n 1, 1) := vyd_43 (vyb_cJ0_init_db425_0 (i := 4) rfl)
theorem dJ0_init_db425_5 : decode cJ0_init_db425 5 = Except.ok (Instr.invokevirtual 552, 3) := vyd_182 (vyb_cJ0_init_db425_0 (i := 5) rfl) (vyb_cJ0_init_db425_0 (i := 6) rfl) (vyb_cJ0_init_db425_0 (i := 7) rfl) rfl
theorem dJ0_init_db425_8 : decode cJ0_init_db425 8 = Except.ok (Instr.astore_n 3, 1) := vyd_78 (vyb_cJ0_init_db425_0 (i := 8) rfl)
theorem dJ0_init_db425_9 : decode cJ0_init_db425 9 = Except.ok (Instr.aload_n 1, 1) := vyd_43 (vyb_cJ0_init_db425_0 (i := 9) rfl)
theorem dJ0_init_db425_10 : decode cJ0_init_db425 10 = Except.ok (Instr.invokevirtual 549, 3) := vyd_182 (vyb_cJ0_init_db425_1 (i := 0) rfl) (vyb_cJ0_init_db425_1 (i := 1) rfl) (vyb_cJ0_init_db425_1 (i := 2) rfl) rfl
theorem dJ0_init_db425_13 : decode cJ0_init_db425 13 = Except.ok (Instr.istore 4, 2) := vyd_54 (vyb_cJ0_init_db425_1 (i := 3) rfl) (vyb_cJ0_init_db425_1 (i := 4) rfl) rfl
theorem dJ0_init_db425_15 : decode cJ0_init_db425 15 = Except.ok (Instr.aload_n 1, 1) := vyd_43 (vyb_cJ0_init_db425_1 (i := 5) rfl)
theorem dJ0_init_db425_16 : decode cJ0_init_db425 16 = Except.ok (Instr.invokevirtual 1047, 3) := vyd_182 (vyb_cJ0_init_db425_1 (i := 6) rfl) (vyb_cJ0_init_db425_1 (i := 7) rfl) (vyb_cJ0_init_db425_1 (i := 8) rfl) rfl
theorem dJ0_init_db425_19 : decode cJ0_init_db425 19 = Except.ok (Instr.ifCond .eq 22, 3) := vyd_153 (vyb_cJ0_init_db425_1 (i := 9) rfl) (vyb_cJ0_init_db425_2 (i := 0) rfl) (vyb_cJ0_init_db425_2 (i := 1) rfl) (by decide +kernel)
theorem dJ0_init_db425_22 : decode cJ0_init_db425 22 = Except.ok (Instr.aload_n 0, 1) := vyd_42 (vyb_cJ0_init_db425_2 (i := 2) rfl)
theorem dJ0_init_db425_23 : decode cJ0_init_db425 23 = Except.ok (Instr.iconst 0, 1) := vyd_3 (vyb_cJ0_init_db425_2 (i := 3) rfl)
theorem dJ0_init_db425_24 : decode cJ0_init_db425 24 = Except.ok (Instr.putfield 15, 3) := vyd_181 (vyb_cJ0_init_db425_2 (i := 4) rfl) (vyb_cJ0_init_db425_2 (i := 5) rfl) (vyb_cJ0_init_db425_2 (i := 6) rfl) rfl
theorem dJ0_init_db425_27 : decode cJ0_init_db425 27 = Except.ok (Instr.aload_n 0, 1) := vyd_42 (vyb_cJ0_init_db425_2 (i := 7) rfl)
theorem dJ0_init_db425_28 : decode cJ0_init_db425 28 = Except.ok (Instr.aload_n 3, 1) := vyd_45 (vyb_cJ0_init_db425_2 (i := 8) rfl)
theorem dJ0_init_db425_29 : decode cJ0_init_db425 29 = Except.ok (Instr.iconst 0, 1) := vyd_3 (vyb_cJ0_init_db425_2 (i := 9) rfl)
theorem dJ0_init_db425_30 : decode cJ0_init_db425 30 = Except.ok (Instr.iload 4, 2) := vyd_21 (vyb_cJ0_init_db425_3 (i := 0) rfl) (vyb_cJ0_init_db425_3 (i := 1) rfl) rfl
theorem dJ0_init_db425_32 : decode cJ0_init_db425 32 = Except.ok (Instr.invokestatic 54, 3) := vyd_184 (vyb_cJ0_init_db425_3 (i := 2) rfl) (vyb_cJ0_init_db425_3 (i := 3) rfl) (vyb_cJ0_init_db425_3 (i := 4) rfl) rfl
theorem dJ0_init_db425_35 : decode cJ0_init_db425 35 = Except.ok (Instr.putfield 9, 3) := vyd_181 (vyb_cJ0_init_db425_3 (i := 5) rfl) (vyb_cJ0_init_db425_3 (i := 6) rfl) (vyb_cJ0_init_db425_3 (i := 7) rfl) rfl
theorem dJ0_init_db425_38 : decode cJ0_init_db425 38 = Except.ok (Instr.goto 59, 3) := vyd_167 (vyb_cJ0_init_db425_3 (i := 8) rfl) (vyb_cJ0_init_db425_3 (i := 9) rfl) (vyb_cJ0_init_db425_4 (i := 0) rfl) (by decide +kernel)
theorem dJ0_init_db425_97 : decode cJ0_init_db425 97 = Except.ok (Instr.return_, 1) := vyd_177 (vyb_cJ0_init_db425_9 (i := 7) rfl)
theorem vyb_cJ0_coder_7d493_0 {i : Nat} {b : UInt8} (h : ([0xb2, 0x00, 0x26, 0x99, 0x00, 0x0a, 0x2a, 0xb4, 0x00, 0x0f] : List UInt8)[i]? = some b) : vy_8 cJ0_coder_7d493 (0 + i) b := vy_in (n := 10) (by decide +kernel) h
theorem vyb_cJ0_coder_7d493_1 {i : Nat} {b : UInt8} (h : ([0xa7, 0x00, 0x04, 0x04, 0xac] : List UInt8)[i]? = some b) : vy_8 cJ0_coder_7d493 (10 + i) b := vy_in (n := 5) (by decide +kernel) h
theorem dJ0_coder_7d493_0 : decode cJ0_coder_7d493 0 = Except.ok (Instr.getstatic 38, 3) := vyd_178 (vyb_cJ0_coder_7d493_0 (i := 0) rfl) (vyb_cJ0_coder_7d493_0 (i := 1) rfl) (vyb_cJ0_coder_7d493_0 (i := 2) rfl) rfl
theorem dJ0_coder_7d493_3 : decode cJ0_coder_7d493 3 = Except.ok (Instr.ifCond .eq 10, 3) := vyd_153 (vyb_cJ0_coder_7d493_0 (i := 3) rfl) (vyb_cJ0_coder_7d493_0 (i := 4) rfl) (vyb_cJ0_coder_7d493_0 (i := 5) rfl) (by decide +kernel)
theorem dJ0_coder_7d493_6 : decode cJ0_coder_7d493 6 = Except.ok (Instr.aload_n 0, 1) := vyd_42 (vyb_cJ0_coder_7d493_0 (i := 6) rfl)
theorem dJ0_coder_7d493_7 : decode cJ0_coder_7d493 7 = Except.ok (Instr.getfield 15, 3) := vyd_180 (vyb_cJ0_coder_7d493_0 (i := 7) rfl) (vyb_cJ0_coder_7d493_0 (i := 8) rfl) (vyb_cJ0_coder_7d493_0 (i := 9) rfl) rfl
theorem dJ0_coder_7d493_10 : decode cJ0_coder_7d493 10 = Except.ok (Instr.goto 4, 3) := vyd_167 (vyb_cJ0_coder_7d493_1 (i := 0) rfl) (vyb_cJ0_coder_7d493_1 (i := 1) rfl) (vyb_cJ0_coder_7d493_1 (i := 2) rfl) (by decide +kernel)
theorem dJ0_coder_7d493_14 : decode cJ0_coder_7d493 14 = Except.ok (Instr.ireturn, 1) := vyd_172 (vyb_cJ0_coder_7d493_1 (i := 4) rfl)
theorem vyb_cJ4_init_da8c8_0 {i : Nat} {b : UInt8} (h : ([0x2a, 0x10, 0x10, 0xb7, 0x00, 0x01, 0xb1] : List UInt8)[i]? = some b) : vy_8 cJ4_init_da8c8 (0 + i) b := vy_in (n := 7) (by decide +kernel) h
theorem dJ4_init_da8c8_0 : decode cJ4_init_da8c8 0 = Except.ok (Instr.aload_n 0, 1) := vyd_42 (vyb_cJ4_init_da8c8_0 (i := 0) rfl)
theorem dJ4_init_da8c8_1 : decode cJ4_init_da8c8 1 = Except.ok (Instr.bipush 16, 2) := vyd_16 (vyb_cJ4_init_da8c8_0 (i := 1) rfl) (vyb_cJ4_init_da8c8_0 (i := 2) rfl) (by decide +kernel)
theorem dJ4_init_da8c8_3 : decode cJ4_init_da8c8 3 = Except.ok (Instr.invokespecial 1, 3) := vyd_183 (vyb_cJ4_init_da8c8_0 (i := 3) rfl) (vyb_cJ4_init_da8c8_0 (i := 4) rfl) (vyb_cJ4_init_da8c8_0 (i := 5) rfl) rfl
theorem dJ4_init_da8c8_6 : decode cJ4_init_da8c8 6 = Except.ok (Instr.return_, 1) := vyd_177 (vyb_cJ4_init_da8c8_0 (i := 6) rfl)
theorem vyb_cJ4_append_15ec4_0 {i : Nat} {b : UInt8} (h : ([0x2a, 0x2b, 0xb7, 0x00, 0x1d, 0x57, 0x2a, 0xb0] : List UInt8)[i]? = some b) : vy_8 cJ4_append_15ec4 (0 + i) b := vy_in (n := 8) (by decide +kernel) h
theorem dJ4_append_15ec4_0 : decode cJ4_append_15ec4 0 = Except.ok (Instr.aload_n 0, 1) := vyd_42 (vyb_cJ4_append_15ec4_0 (i := 0) rfl)
theorem dJ4_append_15ec4_1 : decode cJ4_append_15ec4 1 = Except.ok (Instr.aload_n 1, 1) := vyd_43 (vyb_cJ4_append_15ec4_0 (i := 1) rfl)
theorem dJ4_append_15ec4_2 : decode cJ4_append_15ec4 2 = Except.ok (Instr.invokespecial 29, 3) := vyd_183 (vyb_cJ4_append_15ec4_0 (i := 2) rfl) (vyb_cJ4_append_15ec4_0 (i := 3) rfl) (vyb_cJ4_append_15ec4_0 (i := 4) rfl) rfl
theorem dJ4_append_15ec4_5 : decode cJ4_append_15ec4 5 = Except.ok (Instr.pop, 1) := vyd_87 (vyb_cJ4_append_15ec4_0 (i := 5) rfl)
theorem dJ4_append_15ec4_6 : decode cJ4_append_15ec4 6 = Except.ok (Instr.aload_n 0, 1) := vyd_42 (vyb_cJ4_append_15ec4_0 (i := 6) rfl)
theorem dJ4_append_15ec4_7 : decode cJ4_append_15ec4 7 = Except.ok (Instr.areturn, 1) := vyd_176 (vyb_cJ4_append_15ec4_0 (i := 7) rfl)
theorem vyb_cJ4_append_cf468_0 {i : Nat} {b : UInt8} (h : ([0x2a, 0x1b, 0xb7, 0x00, 0x32, 0x57, 0x2a, 0xb0] : List UInt8)[i]? = some b) : vy_8 cJ4_append_cf468 (0 + i) b := vy_in (n := 8) (by decide +kernel) h
theorem dJ4_append_cf468_0 : decode cJ4_append_cf468 0 = Except.ok (Instr.aload_n 0, 1) := vyd_42 (vyb_cJ4_append_cf468_0 (i := 0) rfl)
theorem dJ4_append_cf468_1 : decode cJ4_append_cf468 1 = Except.ok (Instr.iload_n 1, 1) := vyd_27 (vyb_cJ4_append_cf468_0 (i := 1) rfl)
theorem dJ4_append_cf468_2 : decode cJ4_append_cf468 2 = Except.ok (Instr.invokespecial 50, 3) := vyd_183 (vyb_cJ4_append_cf468_0 (i := 2) rfl) (vyb_cJ4_append_cf468_0 (i := 3) rfl) (vyb_cJ4_append_cf468_0 (i := 4) rfl) rfl
theorem dJ4_append_cf468_5 : decode cJ4_append_cf468 5 = Except.ok (Instr.pop, 1) := vyd_87 (vyb_cJ4_append_cf468_0 (i := 5) rfl)
theorem dJ4_append_cf468_6 : decode cJ4_append_cf468 6 = Except.ok (Instr.aload_n 0, 1) := vyd_42 (vyb_cJ4_append_cf468_0 (i := 6) rfl)
theorem dJ4_append_cf468_7 : decode cJ4_append_cf468 7 = Except.ok (Instr.areturn, 1) := vyd_176 (vyb_cJ4_append_cf468_0 (i := 7) rfl)
theorem vyb_cJ4_append_bf812_0 {i : Nat} {b : UInt8} (h : ([0x2a, 0x1b, 0xb7, 0x00, 0x35, 0x57, 0x2a, 0xb0] : List UInt8)[i]? = some b) : vy_8 cJ4_append_bf812 (0 + i) b := vy_in (n := 8) (by decide +kernel) h
theorem dJ4_append_bf812_0 : decode cJ4_append_bf812 0 = Except.ok (Instr.aload_n 0, 1) := vyd_42 (vyb_cJ4_append_bf812_0 (i := 0) rfl)
theorem dJ4_append_bf812_1 : decode cJ4_append_bf812 1 = Except.ok (Instr.iload_n 1, 1) := vyd_27 (vyb_cJ4_append_bf812_0 (i := 1) rfl)
theorem dJ4_append_bf812_2 : decode cJ4_append_bf812 2 = Except.ok (Instr.invokespecial 53, 3) := vyd_183 (vyb_cJ4_append_bf812_0 (i := 2) rfl) (vyb_cJ4_append_bf812_0 (i := 3) rfl) (vyb_cJ4_append_bf812_0 (i := 4) rfl) rfl
theorem dJ4_append_bf812_5 : decode cJ4_append_bf812 5 = Except.ok (Instr.pop, 1) := vyd_87 (vyb_cJ4_append_bf812_0 (i := 5) rfl)
theorem dJ4_append_bf812_6 : decode cJ4_append_bf812 6 = Except.ok (Instr.aload_n 0, 1) := vyd_42 (vyb_cJ4_append_bf812_0 (i := 6) rfl)
theorem dJ4_append_bf812_7 : decode cJ4_append_bf812 7 = Except.ok (Instr.areturn, 1) := vyd_176 (vyb_cJ4_append_bf812_0 (i := 7) rfl)
theorem vyb_cJ4_toString_0e30d_0 {i : Nat} {b : UInt8} (h : ([0xbb, 0x00, 0x12, 0x59, 0x2a, 0xb7, 0x00, 0x89, 0xb0] : List UInt8)[i]? = some b) : vy_8 cJ4_toString_0e30d (0 + i) b := vy_in (n := 9) (by decide +kernel) h
theorem dJ4_toString_0e30d_0 : decode cJ4_toString_0e30d 0 = Except.ok (Instr.new 18, 3) := vyd_187 (vyb_cJ4_toString_0e30d_0 (i := 0) rfl) (vyb_cJ4_toString_0e30d_0 (i := 1) rfl) (vyb_cJ4_toString_0e30d_0 (i := 2) rfl) rfl
theorem dJ4_toString_0e30d_3 : decode cJ4_toString_0e30d 3 = Except.ok (Instr.dup, 1) := vyd_89 (vyb_cJ4_toString_0e30d_0 (i := 3) rfl)
theorem dJ4_toString_0e30d_4 : decode cJ4_toString_0e30d 4 = Except.ok (Instr.aload_n 0, 1) := vyd_42 (vyb_cJ4_toString_0e30d_0 (i := 4) rfl)
theorem dJ4_toString_0e30d_5 : decode cJ4_toString_0e30d 5 = Except.ok (Instr.invokespecial 137, 3) := vyd_183 (vyb_cJ4_toString_0e30d_0 (i := 5) rfl) (vyb_cJ4_toString_0e30d_0 (i := 6) rfl) (vyb_cJ4_toString_0e30d_0 (i := 7) rfl) rfl
theorem dJ4_toString_0e30d_8 : decode cJ4_toString_0e30d 8 = Except.ok (Instr.areturn, 1) := vyd_176 (vyb_cJ4_toString_0e30d_0 (i := 8) rfl)
theorem vyb_cJ4_length_8abf5_0 {i : Nat} {b : UInt8} (h : ([0x2a, 0xb7, 0x01, 0x57, 0xac] : List UInt8)[i]? = some b) : vy_8 cJ4_length_8abf5 (0 + i) b := vy_in (n := 5) (by decide +kernel) h
theorem dJ4_length_8abf5_0 : decode cJ4_length_8abf5 0 = Except.ok (Instr.aload_n 0, 1) := vyd_42 (vyb_cJ4_length_8abf5_0 (i := 0) rfl)
theorem dJ4_length_8abf5_1 : decode cJ4_length_8abf5 1 = Except.ok (Instr.invokespecial 343, 3) := vyd_183 (vyb_cJ4_length_8abf5_0 (i := 1) rfl) (vyb_cJ4_length_8abf5_0 (i := 2) rfl) (vyb_cJ4_length_8abf5_0 (i := 3) rfl) rfl
theorem dJ4_length_8abf5_4 : decode cJ4_length_8abf5 4 = Except.ok (Instr.ireturn, 1) := vyd_172 (vyb_cJ4_length_8abf5_0 (i := 4) rfl)
theorem vyb_cJ1_canEncode_fc78d_0 {i : Nat} {b : UInt8} (h : ([0x1a, 0x11, 0x00, 0xff, 0xa3, 0x00, 0x07, 0x04, 0xa7, 0x00] : List UInt8)[i]? = some b) : vy_8 cJ1_canEncode_fc78d (0 + i) b := vy_in (n := 10) (by decide +kernel) h
theorem vyb_cJ1_canEncode_fc78d_1 {i : Nat} {b : UInt8} (h : ([0x04, 0x03, 0xac] : List UInt8)[i]? = some b) : vy_8 cJ1_canEncode_fc78d (10 + i) b := vy_in (n := 3) (by decide +kernel) h
theorem dJ1_canEncode_fc78d_0 : decode cJ1_canEncode_fc78d 0 = Except.ok (Instr.iload_n 0, 1) := vyd_26 (vyb_cJ1_canEncode_fc78d_0 (i := 0) rfl)
theorem dJ1_canEncode_fc78d_1 : decode cJ1_canEncode_fc78d 1 = Except.ok (Instr.sipush 255, 3) := vyd_17 (vyb_cJ1_canEncode_fc78d_0 (i := 1) rfl) (vyb_cJ1_canEncode_fc78d_0 (i := 2) rfl) (vyb_cJ1_canEncode_fc78d_0 (i := 3) rfl) (by decide +kernel)
theorem dJ1_canEncode_fc78d_4 : decode cJ1_canEncode_fc78d 4 = Except.ok (Instr.if_icmp .gt 7, 3) := vyd_163 (vyb_cJ1_canEncode_fc78d_0 (i := 4) rfl) (vyb_cJ1_canEncode_fc78d_0 (i := 5) rfl) (vyb_cJ1_canEncode_fc78d_0 (i := 6) rfl) (by decide +kernel)
theorem dJ1_canEncode_fc78d_7 : decode cJ1_canEncode_fc78d 7 = Except.ok (Instr.iconst 1, 1) := vyd_4 (vyb_cJ1_canEncode_fc78d_0 (i := 7) rfl)
theorem dJ1_canEncode_fc78d_8 : decode cJ1_canEncode_fc78d 8 = Except.ok (Instr.goto 4, 3) := vyd_167 (vyb_cJ1_canEncode_fc78d_0 (i := 8) rfl) (vyb_cJ1_canEncode_fc78d_0 (i := 9) rfl) (vyb_cJ1_canEncode_fc78d_1 (i := 0) rfl) (by decide +kernel)
theorem dJ1_canEncode_fc78d_12 : decode cJ1_canEncode_fc78d 12 = Except.ok (Instr.ireturn, 1) := vyd_172 (vyb_cJ1_canEncode_fc78d_1 (i := 2) rfl)
theorem vyb_cJxa1e45_init_da8c8_0 {i : Nat} {b : UInt8} (h : ([0x2a, 0xb7, 0x00, 0x01, 0xb1] : List UInt8)[i]? = some b) : vy_8 cJxa1e45_init_da8c8 (0 + i) b := vy_in (n := 5) (by decide +kernel) h
theorem dJxa1e45_init_da8c8_0 : decode cJxa1e45_init_da8c8 0 = Except.ok (Instr.aload_n 0, 1) := vyd_42 (vyb_cJxa1e45_init_da8c8_0 (i := 0) rfl)
theorem dJxa1e45_init_da8c8_1 : decode cJxa1e45_init_da8c8 1 = Except.ok (Instr.invokespecial 1, 3) := vyd_183 (vyb_cJxa1e45_init_da8c8_0 (i := 1) rfl) (vyb_cJxa1e45_init_da8c8_0 (i := 2) rfl) (vyb_cJxa1e45_init_da8c8_0 (i := 3) rfl) rfl
theorem dJxa1e45_init_da8c8_4 : decode cJxa1e45_init_da8c8 4 = Except.ok (Instr.return_, 1) := vyd_177 (vyb_cJxa1e45_init_da8c8_0 (i := 4) rfl)
theorem vyb_cJxc12de_init_da8c8_0 {i : Nat} {b : UInt8} (h : ([0x2a, 0xb7, 0x00, 0x01, 0x2a, 0x03, 0xb5, 0x00, 0x07, 0xb1] : List UInt8)[i]? = some b) : vy_8 cJxc12de_init_da8c8 (0 + i) b := vy_in (n := 10) (by decide +kernel) h
theorem dJxc12de_init_da8c8_0 : decode cJxc12de_init_da8c8 0 = Except.ok (Instr.aload_n 0, 1) := vyd_42 (vyb_cJxc12de_init_da8c8_0 (i := 0) rfl)
theorem dJxc12de_init_da8c8_1 : decode cJxc12de_init_da8c8 1 = Except.ok (Instr.invokespecial 1, 3) := vyd_183 (vyb_cJxc12de_init_da8c8_0 (i := 1) rfl) (vyb_cJxc12de_init_da8c8_0 (i := 2) rfl) (vyb_cJxc12de_init_da8c8_0 (i := 3) rfl) rfl
theorem dJxc12de_init_da8c8_4 : decode cJxc12de_init_da8c8 4 = Except.ok (Instr.aload_n 0, 1) := vyd_42 (vyb_cJxc12de_init_da8c8_0 (i := 4) rfl)
theorem dJxc12de_init_da8c8_5 : decode cJxc12de_init_da8c8 5 = Except.ok (Instr.iconst 0, 1) := vyd_3 (vyb_cJxc12de_init_da8c8_0 (i := 5) rfl)
theorem dJxc12de_init_da8c8_6 : decode cJxc12de_init_da8c8 6 = Except.ok (Instr.putfield 7, 3) := vyd_181 (vyb_cJxc12de_init_da8c8_0 (i := 6) rfl) (vyb_cJxc12de_init_da8c8_0 (i := 7) rfl) (vyb_cJxc12de_init_da8c8_0 (i := 8) rfl) rfl
theorem dJxc12de_init_da8c8_9 : decode cJxc12de_init_da8c8 9 = Except.ok (Instr.return_, 1) := vyd_177 (vyb_cJxc12de_init_da8c8_0 (i := 9) rfl)
theorem vyb_cJx35411_init_45d68_0 {i : Nat} {b : UInt8} (h : ([0x2a, 0x2b, 0xb5, 0x00, 0x01, 0x2a, 0xb7, 0x00, 0x07, 0x2a] : List UInt8)[i]? = some b) : vy_8 cJx35411_init_45d68 (0 + i) b := vy_in (n := 10) (by decide +kernel) h
theorem vyb_cJx35411_init_45d68_1 {i : Nat} {b : UInt8} (h : ([0x02, 0xb5, 0x00, 0x0d, 0x2a, 0x2a, 0xb4, 0x00, 0x01, 0xb4] : List UInt8)[i]? = some b) : vy_8 cJx35411_init_45d68 (10 + i) b := vy_in (n := 10) (by decide +kernel) h
theorem vyb_cJx35411_init_45d68_2 {i : Nat} {b : UInt8} (h : ([0x00, 0x11, 0xb5, 0x00, 0x16, 0xb1] : List UInt8)[i]? = some b) : vy_8 cJx35411_init_45d68 (20 + i) b := vy_in (n := 6) (by decide +kernel) h
theorem dJx35411_init_45d68_0 : decode cJx35411_init_45d68 0 = Except.ok (Instr.aload_n 0, 1) := vyd_42 (vyb_cJx35411_init_45d68_0 (i := 0) rfl)
theorem dJx35411_init_45d68_1 : decode cJx35411_init_45d68 1 = Except.ok (Instr.aload_n 1, 1) := vyd_43 (vyb_cJx35411_init_45d68_0 (i := 1) rfl)
theorem dJx35411_init_45d68_2 : decode cJx35411_init_45d68 2 = Except.ok (Instr.putfield 1, 3) := vyd_181 (vyb_cJx35411_init_45d68_0 (i := 2) rfl) (vyb_cJx35411_init_45d68_0 (i := 3) rfl) (vyb_cJx35411_init_45d68_0 (i := 4) rfl) rfl
theorem dJx35411_init_45d68_5 : decode cJx35411_init_45d68 5 = Except.ok (Instr.aload_n 0, 1) := vyd_42 (vyb_cJx35411_init_45d68_0 (i := 5) rfl)
theorem dJx35411_init_45d68_6 : decode cJx35411_init_45d68 6 = Except.ok (Instr.invokespecial 7, 3) := vyd_183 (vyb_cJx35411_init_45d68_0 (i := 6) rfl) (vyb_cJx35411_init_45d68_0 (i := 7) rfl) (vyb_cJx35411_init_45d68_0 (i := 8) rfl) rfl
theorem dJx35411_init_45d68_9 : decode cJx35411_init_45d68 9 = Except.ok (Instr.aload_n 0, 1) := vyd_42 (vyb_cJx35411_init_45d68_0 (i := 9) rfl)
theorem dJx35411_init_45d68_10 : decode cJx35411_init_45d68 10 = Except.ok (Instr.iconst (-1), 1) := vyd_2 (vyb_cJx35411_init_45d68_1 (i := 0) rfl)
theorem dJx35411_init_45d68_11 : decode cJx35411_init_45d68 11 = Except.ok (Instr.putfield 13, 3) := vyd_181 (vyb_cJx35411_init_45d68_1 (i := 1) rfl) (vyb_cJx35411_init_45d68_1 (i := 2) rfl) (vyb_cJx35411_init_45d68_1 (i := 3) rfl) rfl
theorem dJx35411_init_45d68_14 : decode cJx35411_init_45d68 14 = Except.ok (Instr.aload_n 0, 1) := vyd_42 (vyb_cJx35411_init_45d68_1 (i := 4) rfl)
theorem dJx35411_init_45d68_15 : decode cJx35411_init_45d68 15 = Except.ok (Instr.aload_n 0, 1) := vyd_42 (vyb_cJx35411_init_45d68_1 (i := 5) rfl)
theorem dJx35411_init_45d68_16 : decode cJx35411_init_45d68 16 = Except.ok (Instr.getfield 1, 3) := vyd_180 (vyb_cJx35411_init_45d68_1 (i := 6) rfl) (vyb_cJx35411_init_45d68_1 (i := 7) rfl) (vyb_cJx35411_init_45d68_1 (i := 8) rfl) rfl
theorem dJx35411_init_45d68_19 : decode cJx35411_init_45d68 19 = Except.ok (Instr.getfield 17, 3) := vyd_180 (vyb_cJx35411_init_45d68_1 (i := 9) rfl) (vyb_cJx35411_init_45d68_2 (i := 0) rfl) (vyb_cJx35411_init_45d68_2 (i := 1) rfl) rfl
theorem dJx35411_init_45d68_22 : decode cJx35411_init_45d68 22 = Except.ok (Instr.putfield 22, 3) := vyd_181 (vyb_cJx35411_init_45d68_2 (i := 2) rfl) (vyb_cJx35411_init_45d68_2 (i := 3) rfl) (vyb_cJx35411_init_45d68_2 (i := 4) rfl) rfl
theorem dJx35411_init_45d68_25 : decode cJx35411_init_45d68 25 = Except.ok (Instr.return_, 1) := vyd_177 (vyb_cJx35411_init_45d68_2 (i := 5) rfl)
theorem vyb_cJx35411_hasNext_aae02_0 {i : Nat} {b : UInt8} (h : ([0x2a, 0xb4, 0x00, 0x19, 0x2a, 0xb4, 0x00, 0x01, 0xb4, 0x00] : List UInt8)[i]? = some b) : vy_8 cJx35411_hasNext_aae02 (0 + i) b := vy_in (n := 10) (by decide +kernel) h
theorem vyb_cJx35411_hasNext_aae02_1 {i : Nat} {b : UInt8} (h : ([0x1c, 0x9f, 0x00, 0x07, 0x04, 0xa7, 0x00, 0x04, 0x03, 0xac] : List UInt8)[i]? = some b) : vy_8 cJx35411_hasNext_aae02 (10 + i) b := vy_in (n := 10) (by decide +kernel) h
theorem dJx35411_hasNext_aae02_0 : decode cJx35411_hasNext_aae02 0 = Except.ok (Instr.aload_n 0, 1) := vyd_42 (vyb_cJx35411_hasNext_aae02_0 (i := 0) rfl)
theorem dJx35411_hasNext_aae02_1 : decode cJx35411_hasNext_aae02 1 = Except.ok (Instr.getfield 25, 3) := vyd_180 (vyb_cJx35411_hasNext_aae02_0 (i := 1) rfl) (vyb_cJx35411_hasNext_aae02_0 (i := 2) rfl) (vyb_cJx35411_hasNext_aae02_0 (i := 3) rfl) rfl
theorem dJx35411_hasNext_aae02_4 : decode cJx35411_hasNext_aae02 4 = Except.ok (Instr.aload_n 0, 1) := vyd_42 (vyb_cJx35411_hasNext_aae02_0 (i := 4) rfl)
theorem dJx35411_hasNext_aae02_5 : decode cJx35411_hasNext_aae02 5 = Except.ok (Instr.getfield 1, 3) := vyd_180 (vyb_cJx35411_hasNext_aae02_0 (i := 5) rfl) (vyb_cJx35411_hasNext_aae02_0 (i := 6) rfl) (vyb_cJx35411_hasNext_aae02_0 (i := 7) rfl) rfl
theorem dJx35411_hasNext_aae02_8 : decode cJx35411_hasNext_aae02 8 = Except.ok (Instr.getfield 28, 3) := vyd_180 (vyb_cJx35411_hasNext_aae02_0 (i := 8) rfl) (vyb_cJx35411_hasNext_aae02_0 (i := 9) rfl) (vyb_cJx35411_hasNext_aae02_1 (i := 0) rfl) rfl
theorem dJx35411_hasNext_aae02_11 : decode cJx35411_hasNext_aae02 11 = Except.ok (Instr.if_icmp .eq 7, 3) := vyd_159 (vyb_cJx35411_hasNext_aae02_1 (i := 1) rfl) (vyb_cJx35411_hasNext_aae02_1 (i := 2) rfl) (vyb_cJx35411_hasNext_aae02_1 (i := 3) rfl) (by decide +kernel)
theorem dJx35411_hasNext_aae02_14 : decode cJx35411_hasNext_aae02 14 = Except.ok (Instr.iconst 1, 1) := vyd_4 (vyb_cJx35411_hasNext_aae02_1 (i := 4) rfl)
theorem dJx35411_hasNext_aae02_15 : decode cJx35411_hasNext_aae02 15 = Except.ok (Instr.goto 4, 3) := vyd_167 (vyb_cJx35411_hasNext_aae02_1 (i := 5) rfl) (vyb_cJx35411_hasNext_aae02_1 (i := 6) rfl) (vyb_cJx35411_hasNext_aae02_1 (i := 7) rfl) (by decide +kernel)
theorem dJx35411_hasNext_aae02_18 : decode cJx35411_hasNext_aae02 18 = Except.ok (Instr.iconst 0, 1) := vyd_3 (vyb_cJx35411_hasNext_aae02_1 (i := 8) rfl)
theorem dJx35411_hasNext_aae02_19 : decode cJx35411_hasNext_aae02 19 = Except.ok (Instr.ireturn, 1) := vyd_172 (vyb_cJx35411_hasNext_aae02_1 (i := 9) rfl)
theorem vyb_cJx35411_next_0502b_0 {i : Nat} {b : UInt8} (h : ([0x2a, 0xb6, 0x00, 0x1f, 0x2a, 0xb4, 0x00, 0x19, 0x3c, 0x1b] : List UInt8)[i]? = some b) : vy_8 cJx35411_next_0502b (0 + i) b := vy_in (n := 10) (by decide +kernel) h
theorem vyb_cJx35411_next_0502b_1 {i : Nat} {b : UInt8} (h : ([0x2a, 0xb4, 0x00, 0x01, 0xb4, 0x00, 0x1c, 0xa1, 0x00, 0x0b] : List UInt8)[i]? = some b) : vy_8 cJx35411_next_0502b (10 + i) b := vy_in (n := 10) (by decide +kernel) h
theorem vyb_cJx35411_next_0502b_2 {i : Nat} {b : UInt8} (h : ([0xbb, 0x00, 0x22, 0x59, 0xb7, 0x00, 0x24, 0xbf, 0x2a, 0xb4] : List UInt8)[i]? = some b) : vy_8 cJx35411_next_0502b (20 + i) b := vy_in (n := 10) (by decide +kernel) h
theorem vyb_cJx35411_next_0502b_3 {i : Nat} {b : UInt8} (h : ([0x00, 0x01, 0xb4, 0x00, 0x25, 0x4d, 0x1b, 0x2c, 0xbe, 0xa1] : List UInt8)[i]? = some b) : vy_8 cJx35411_next_0502b (30 + i) b := vy_in (n := 10) (by decide +kernel) h
theorem vyb_cJx35411_next_0502b_4 {i : Nat} {b : UInt8} (h : ([0x00, 0x0b, 0xbb, 0x00, 0x29, 0x59, 0xb7, 0x00, 0x2b, 0xbf] : List UInt8)[i]? = some b) : vy_8 cJx35411_next_0502b (40 + i) b := vy_in (n := 10) (by decide +kernel) h
theorem vyb_cJx35411_next_0502b_5 {i : Nat} {b : UInt8} (h : ([0x2a, 0x1b, 0x04, 0x60, 0xb5, 0x00, 0x19, 0x2c, 0x2a, 0x1b] : List UInt8)[i]? = some b) : vy_8 cJx35411_next_0502b (50 + i) b := vy_in (n := 10) (by decide +kernel) h
theorem vyb_cJx35411_next_0502b_6 {i : Nat} {b : UInt8} (h : ([0x5a, 0xb5, 0x00, 0x0d, 0x32, 0xb0] : List UInt8)[i]? = some b) : vy_8 cJx35411_next_0502b (60 + i) b := vy_in (n := 6) (by decide +kernel) h
theorem dJx35411_next_0502b_0 : decode cJx35411_next_0502b 0 = Except.ok (Instr.aload_n 0, 1) := vyd_42 (vyb_cJx35411_next_0502b_0 (i := 0) rfl)
theorem dJx35411_next_0502b_1 : decode cJx35411_next_0502b 1 = Except.ok (Instr.invokevirtual 31, 3) := vyd_182 (vyb_cJx35411_next_0502b_0 (i := 1) rfl) (vyb_cJx35411_next_0502b_0 (i := 2) rfl) (vyb_cJx35411_next_0502b_0 (i := 3) rfl) rfl
theorem dJx35411_next_0502b_4 : decode cJx35411_next_0502b 4 = Except.ok (Instr.aload_n 0, 1) := vyd_42 (vyb_cJx35411_next_0502b_0 (i := 4) rfl)
theorem dJx35411_next_0502b_5 : decode cJx35411_next_0502b 5 = Except.ok (Instr.getfield 25, 3) := vyd_180 (vyb_cJx35411_next_0502b_0 (i := 5) rfl) (vyb_cJx35411_next_0502b_0 (i := 6) rfl) (vyb_cJx35411_next_0502b_0 (i := 7) rfl) rfl
theorem dJx35411_next_0502b_8 : decode cJx35411_next_0502b 8 = Except.ok (Instr.istore_n 1, 1) := vyd_60 (vyb_cJx35411_next_0502b_0 (i := 8) rfl)
theorem dJx35411_next_0502b_9 : decode cJx35411_next_0502b 9 = Except.ok (Instr.iload_n 1, 1) := vyd_27 (vyb_cJx35411_next_0502b_0 (i := 9) rfl)
theorem dJx35411_next_0502b_10 : decode cJx35411_next_0502b 10 = Except.ok (Instr.aload_n 0, 1) := vyd_42 (vyb_cJx35411_next_0502b_1 (i := 0) rfl)
theorem dJx35411_next_0502b_11 : decode cJx35411_next_0502b 11 = Except.ok (Instr.getfield 1, 3) := vyd_180 (vyb_cJx35411_next_0502b_1 (i := 1) rfl) (vyb_cJx35411_next_0502b_1 (i := 2) rfl) (vyb_cJx35411_next_0502b_1 (i := 3) rfl) rfl
theorem dJx35411_next_0502b_14 : decode cJx35411_next_0502b 14 = Except.ok (Instr.getfield 28, 3) := vyd_180 (vyb_cJx35411_next_0502b_1 (i := 4) rfl) (vyb_cJx35411_next_0502b_1 (i := 5) rfl) (vyb_cJx35411_next_0502b_1 (i := 6) rfl) rfl
theorem dJx35411_next_0502b_17 : decode cJx35411_next_0502b 17 = Except.ok (Instr.if_icmp .lt 11, 3) := vyd_161 (vyb_cJx35411_next_0502b_1 (i := 7) rfl) (vyb_cJx35411_next_0502b_1 (i := 8) rfl) (vyb_cJx35411_next_0502b_1 (i := 9) rfl) (by decide +kernel)
theorem dJx35411_next_0502b_28 : decode cJx35411_next_0502b 28 = Except.ok (Instr.aload_n 0, 1) := vyd_42 (vyb_cJx35411_next_0502b_2 (i := 8) rfl)
theorem dJx35411_next_0502b_29 : decode cJx35411_next_0502b 29 = Except.ok (Instr.getfield 1, 3) := vyd_180 (vyb_cJx35411_next_0502b_2 (i := 9) rfl) (vyb_cJx35411_next_0502b_3 (i := 0) rfl) (vyb_cJx35411_next_0502b_3 (i := 1) rfl) rfl
theorem dJx35411_next_0502b_32 : decode cJx35411_next_0502b 32 = Except.ok (Instr.getfield 37, 3) := vyd_180 (vyb_cJx35411_next_0502b_3 (i := 2) rfl) (vyb_cJx35411_next_0502b_3 (i := 3) rfl) (vyb_cJx35411_next_0502b_3 (i := 4) rfl) rfl
theorem dJx35411_next_0502b_35 : decode cJx35411_next_0502b 35 = Except.ok (Instr.astore_n 2, 1) := vyd_77 (vyb_cJx35411_next_0502b_3 (i := 5) rfl)
theorem dJx35411_next_0502b_36 : decode cJx35411_next_0502b 36 = Except.ok (Instr.iload_n 1, 1) := vyd_27 (vyb_cJx35411_next_0502b_3 (i := 6) rfl)
theorem dJx35411_next_0502b_37 : decode cJx35411_next_0502b 37 = Except.ok (Instr.aload_n 2, 1) := vyd_44 (vyb_cJx35411_next_0502b_3 (i := 7) rfl)
theorem dJx35411_next_0502b_38 : decode cJx35411_next_0502b 38 = Except.ok (Instr.arraylength, 1) := vyd_190 (vyb_cJx35411_next_0502b_3 (i := 8) rfl)
theorem dJx35411_next_0502b_39 : decode cJx35411_next_0502b 39 = Except.ok (Instr.if_icmp .lt 11, 3) := vyd_161 (vyb_cJx35411_next_0502b_3 (i := 9) rfl) (vyb_cJx35411_next_0502b_4 (i := 0) rfl) (vyb_cJx35411_next_0502b_4 (i := 1) rfl) (by decide +kernel)
theorem dJx35411_next_0502b_50 : decode cJx35411_next_0502b 50 = Except.ok (Instr.aload_n 0, 1) := vyd_42 (vyb_cJx35411_next_0502b_5 (i := 0) rfl)
theorem dJx35411_next_0502b_51 : decode cJx35411_next_0502b 51 = Except.ok (Instr.iload_n 1, 1) := vyd_27 (vyb_cJx35411_next_0502b_5 (i := 1) rfl)
theorem dJx35411_next_0502b_52 : decode cJx35411_next_0502b 52 = Except.ok (Instr.iconst 1, 1) := vyd_4 (vyb_cJx35411_next_0502b_5 (i := 2) rfl)
theorem dJx35411_next_0502b_53 : decode cJx35411_next_0502b 53 = Except.ok (Instr.iadd, 1) := vyd_96 (vyb_cJx35411_next_0502b_5 (i := 3) rfl)
theorem dJx35411_next_0502b_54 : decode cJx35411_next_0502b 54 = Except.ok (Instr.putfield 25, 3) := vyd_181 (vyb_cJx35411_next_0502b_5 (i := 4) rfl) (vyb_cJx35411_next_0502b_5 (i := 5) rfl) (vyb_cJx35411_next_0502b_5 (i := 6) rfl) rfl
theorem dJx35411_next_0502b_57 : decode cJx35411_next_0502b 57 = Except.ok (Instr.aload_n 2, 1) := vyd_44 (vyb_cJx35411_next_0502b_5 (i := 7) rfl)
theorem dJx35411_next_0502b_58 : decode cJx35411_next_0502b 58 = Except.ok (Instr.aload_n 0, 1) := vyd_42 (vyb_cJx35411_next_0502b_5 (i := 8) rfl)
theorem dJx35411_next_0502b_59 : decode cJx35411_next_0502b 59 = Except.ok (Instr.iload_n 1, 1) := vyd_27 (vyb_cJx35411_next_0502b_5 (i := 9) rfl)
theorem dJx35411_next_0502b_60 : decode cJx35411_next_0502b 60 = Except.ok (Instr.dup_x1, 1) := vyd_90 (vyb_cJx35411_next_0502b_6 (i := 0) rfl)
theorem dJx35411_next_0502b_61 : decode cJx35411_next_0502b 61 = Except.ok (Instr.putfield 13, 3) := vyd_181 (vyb_cJx35411_next_0502b_6 (i := 1) rfl) (vyb_cJx35411_next_0502b_6 (i := 2) rfl) (vyb_cJx35411_next_0502b_6 (i := 3) rfl) rfl
theorem dJx35411_next_0502b_64 : decode cJx35411_next_0502b 64 = Except.ok (Instr.aaload, 1) := vyd_50 (vyb_cJx35411_next_0502b_6 (i := 4) rfl)
theorem dJx35411_next_0502b_65 : decode cJx35411_next_0502b 65 = Except.ok (Instr.areturn, 1) := vyd_176 (vyb_cJx35411_next_0502b_6 (i := 5) rfl)
theorem vyb_cJx35411_checkForComodification_da8c8_0 {i : Nat} {b : UInt8} (h : ([0x2a, 0xb4, 0x00, 0x01, 0xb4, 0x00, 0x11, 0x2a, 0xb4, 0x00] : List UInt8)[i]? = some b) : vy_8 cJx35411_checkForComodification_da8c8 (0 + i) b := vy_in (n := 10) (by decide +kernel) h
theorem vyb_cJx35411_checkForComodification_da8c8_1 {i : Nat} {b : UInt8} (h : ([0x16, 0x9f, 0x00, 0x0b, 0xbb, 0x00, 0x29, 0x59, 0xb7, 0x00] : List UInt8)[i]? = some b) : vy_8 cJx35411_checkForComodification_da8c8 (10 + i) b := vy_in (n := 10) (by decide +kernel) h
theorem vyb_cJx35411_checkForComodification_da8c8_2 {i : Nat} {b : UInt8} (h : ([0x2b, 0xbf, 0xb1] : List UInt8)[i]? = some b) : vy_8 cJx35411_checkForComodification_da8c8 (20 + i) b := vy_in (n := 3) (by decide +kernel) h
theorem dJx35411_checkForComodification_da8c8_0 : decode cJx35411_checkForComodification_da8c8 0 = Except.ok (Instr.aload_n 0, 1) := vyd_42 (vyb_cJx35411_checkForComodification_da8c8_0 (i := 0) rfl)
theorem dJx35411_checkForComodification_da8c8_1 : decode cJx35411_checkForComodification_da8c8 1 = Except.ok (Instr.getfield 1, 3) := vyd_180 (vyb_cJx35411_checkForComodification_da8c8_0 (i := 1) rfl) (vyb_cJx35411_checkForComodification_da8c8_0 (i := 2) rfl) (vyb_cJx35411_checkForComodification_da8c8_0 (i := 3) rfl) rfl
theorem dJx35411_checkForComodification_da8c8_4 : decode cJx35411_checkForComodification_da8c8 4 = Except.ok (Instr.getfield 17, 3) := vyd_180 (vyb_cJx35411_checkForComodification_da8c8_0 (i := 4) rfl) (vyb_cJx35411_checkForComodification_da8c8_0 (i := 5) rfl) (vyb_cJx35411_checkForComodification_da8c8_0 (i := 6) rfl) rfl
theorem dJx35411_checkForComodification_da8c8_7 : decode cJx35411_checkForComodification_da8c8 7 = Except.ok (Instr.aload_n 0, 1) := vyd_42 (vyb_cJx35411_checkForComodification_da8c8_0 (i := 7) rfl)
theorem dJx35411_checkForComodification_da8c8_8 : decode cJx35411_checkForComodification_da8c8 8 = Except.ok (Instr.getfield 22, 3) := vyd_180 (vyb_cJx35411_checkForComodification_da8c8_0 (i := 8) rfl) (vyb_cJx35411_checkForComodification_da8c8_0 (i := 9) rfl) (vyb_cJx35411_checkForComodification_da8c8_1 (i := 0) rfl) rfl
theorem dJx35411_checkForComodification_da8c8_11 : decode cJx35411_checkForComodification_da8c8 11 = Except.ok (Instr.if_icmp .eq 11, 3) := vyd_159 (vyb_cJx35411_checkForComodification_da8c8_1 (i := 1) rfl) (vyb_cJx35411_checkForComodification_da8c8_1 (i := 2) rfl) (vyb_cJx35411_checkForComodification_da8c8_1 (i := 3) rfl) (by decide +kernel)
theorem dJx35411_checkForComodification_da8c8_22 : decode cJx35411_checkForComodification_da8c8 22 = Except.ok (Instr.return_, 1) := vyd_177 (vyb_cJx35411_checkForComodification_da8c8_2 (i := 2) rfl)
theorem vyb_cJx4a65c_init_da8c8_0 {i : Nat} {b : UInt8} (h : ([0x2a, 0xb7, 0x00, 0x01, 0x2a, 0xb2, 0x00, 0x27, 0xb5, 0x00] : List UInt8)[i]? = some b) : vy_8 cJx4a65c_init_da8c8 (0 + i) b := vy_in (n := 10) (by decide +kernel) h
theorem vyb_cJx4a65c_init_da8c8_1 {i : Nat} {b : UInt8} (h : ([0x09, 0xb1] : List UInt8)[i]? = some b) : vy_8 cJx4a65c_init_da8c8 (10 + i) b := vy_in (n := 2) (by decide +kernel) h
theorem dJx4a65c_init_da8c8_0 : decode cJx4a65c_init_da8c8 0 = Except.ok (Instr.aload_n 0, 1) := vyd_42 (vyb_cJx4a65c_init_da8c8_0 (i := 0) rfl)
theorem dJx4a65c_init_da8c8_1 : decode cJx4a65c_init_da8c8 1 = Except.ok (Instr.invokespecial 1, 3) := vyd_183 (vyb_cJx4a65c_init_da8c8_0 (i := 1) rfl) (vyb_cJx4a65c_init_da8c8_0 (i := 2) rfl) (vyb_cJx4a65c_init_da8c8_0 (i := 3) rfl) rfl
theorem dJx4a65c_init_da8c8_4 : decode cJx4a65c_init_da8c8 4 = Except.ok (Instr.aload_n 0, 1) := vyd_42 (vyb_cJx4a65c_init_da8c8_0 (i := 4) rfl)
theorem dJx4a65c_init_da8c8_5 : decode cJx4a65c_init_da8c8 5 = Except.ok (Instr.getstatic 39, 3) := vyd_178 (vyb_cJx4a65c_init_da8c8_0 (i := 5) rfl) (vyb_cJx4a65c_init_da8c8_0 (i := 6) rfl) (vyb_cJx4a65c_init_da8c8_0 (i := 7) rfl) rfl
theorem dJx4a65c_init_da8c8_8 : decode cJx4a65c_init_da8c8 8 = Except.ok (Instr.putfield 9, 3) := vyd_181 (vyb_cJx4a65c_init_da8c8_0 (i := 8) rfl) (vyb_cJx4a65c_init_da8c8_0 (i := 9) rfl) (vyb_cJx4a65c_init_da8c8_1 (i := 0) rfl) rfl
theorem dJx4a65c_init_da8c8_11 : decode cJx4a65c_init_da8c8 11 = Except.ok (Instr.return_, 1) := vyd_177 (vyb_cJx4a65c_init_da8c8_1 (i := 1) rfl)
theorem vyb_cJx4a65c_grow_92f84_0 {i : Nat} {b : UInt8} (h : ([0x2a, 0xb4, 0x00, 0x09, 0xbe, 0x3d, 0x1c, 0x9d, 0x00, 0x0d] : List UInt8)[i]? = some b) : vy_8 cJx4a65c_grow_92f84 (0 + i) b := vy_in (n := 10) (by decide +kernel) h
theorem vyb_cJx4a65c_grow_92f84_1 {i : Nat} {b : UInt8} (h : ([0x2a, 0xb4, 0x00, 0x09, 0xb2, 0x00, 0x27, 0xa5, 0x00, 0x1c] : List UInt8)[i]? = some b) : vy_8 cJx4a65c_grow_92f84 (10 + i) b := vy_in (n := 10) (by decide +kernel) h
theorem vyb_cJx4a65c_grow_92f84_2 {i : Nat} {b : UInt8} (h : ([0x1c, 0x1b, 0x1c, 0x64, 0x1c, 0x04, 0x7a, 0xb8, 0x00, 0x49] : List UInt8)[i]? = some b) : vy_8 cJx4a65c_grow_92f84 (20 + i) b := vy_in (n := 10) (by decide +kernel) h
theorem vyb_cJx4a65c_grow_92f84_3 {i : Nat} {b : UInt8} (h : ([0x3e, 0x2a, 0x2a, 0xb4, 0x00, 0x09, 0x1d, 0xb8, 0x00, 0x42] : List UInt8)[i]? = some b) : vy_8 cJx4a65c_grow_92f84 (30 + i) b := vy_in (n := 10) (by decide +kernel) h
theorem vyb_cJx4a65c_grow_92f84_4 {i : Nat} {b : UInt8} (h : ([0x5a, 0xb5, 0x00, 0x09, 0xb0, 0x2a, 0x10, 0x0a, 0x1b, 0xb8] : List UInt8)[i]? = some b) : vy_8 cJx4a65c_grow_92f84 (40 + i) b := vy_in (n := 10) (by decide +kernel) h
theorem vyb_cJx4a65c_grow_92f84_5 {i : Nat} {b : UInt8} (h : ([0x00, 0x4f, 0xbd, 0x00, 0x07, 0x5a, 0xb5, 0x00, 0x09, 0xb0] : List UInt8)[i]? = some b) : vy_8 cJx4a65c_grow_92f84 (50 + i) b := vy_in (n := 10) (by decide +kernel) h
theorem dJx4a65c_grow_92f84_0 : decode cJx4a65c_grow_92f84 0 = Except.ok (Instr.aload_n 0, 1) := vyd_42 (vyb_cJx4a65c_grow_92f84_0 (i := 0) rfl)
theorem dJx4a65c_grow_92f84_1 : decode cJx4a65c_grow_92f84 1 = Except.ok (Instr.getfield 9, 3) := vyd_180 (vyb_cJx4a65c_grow_92f84_0 (i := 1) rfl) (vyb_cJx4a65c_grow_92f84_0 (i := 2) rfl) (vyb_cJx4a65c_grow_92f84_0 (i := 3) rfl) rfl
theorem dJx4a65c_grow_92f84_4 : decode cJx4a65c_grow_92f84 4 = Except.ok (Instr.arraylength, 1) := vyd_190 (vyb_cJx4a65c_grow_92f84_0 (i := 4) rfl)
theorem dJx4a65c_grow_92f84_5 : decode cJx4a65c_grow_92f84 5 = Except.ok (Instr.istore_n 2, 1) := vyd_61 (vyb_cJx4a65c_grow_92f84_0 (i := 5) rfl)
theorem dJx4a65c_grow_92f84_6 : decode cJx4a65c_grow_92f84 6 = Except.ok (Instr.iload_n 2, 1) := vyd_28 (vyb_cJx4a65c_grow_92f84_0 (i := 6) rfl)
theorem dJx4a65c_grow_92f84_7 : decode cJx4a65c_grow_92f84 7 = Except.ok (Instr.ifCond .gt 13, 3) := vyd_157 (vyb_cJx4a65c_grow_92f84_0 (i := 7) rfl) (vyb_cJx4a65c_grow_92f84_0 (i := 8) rfl) (vyb_cJx4a65c_grow_92f84_0 (i := 9) rfl) (by decide +kernel)
theorem dJx4a65c_grow_92f84_10 : decode cJx4a65c_grow_92f84 10 = Except.ok (Instr.aload_n 0, 1) := vyd_42 (vyb_cJx4a65c_grow_92f84_1 (i := 0) rfl)
theorem dJx4a65c_grow_92f84_11 : decode cJx4a65c_grow_92f84 11 = Except.ok (Instr.getfield 9, 3) := vyd_180 (vyb_cJx4a65c_grow_92f84_1 (i := 1) rfl) (vyb_cJx4a65c_grow_92f84_1 (i := 2) rfl) (vyb_cJx4a65c_grow_92f84_1 (i := 3) rfl) rfl
theorem dJx4a65c_grow_92f84_14 : decode cJx4a65c_grow_92f84 14 = Except.ok (Instr.getstatic 39, 3) := vyd_178 (vyb_cJx4a65c_grow_92f84_1 (i := 4) rfl) (vyb_cJx4a65c_grow_92f84_1 (i := 5) rfl) (vyb_cJx4a65c_grow_92f84_1 (i := 6) rfl) rfl
theorem dJx4a65c_grow_92f84_17 : decode cJx4a65c_grow_92f84 17 = Except.ok (Instr.if_acmp .eq 28, 3) := vyd_165 (vyb_cJx4a65c_grow_92f84_1 (i := 7) rfl) (vyb_cJx4a65c_grow_92f84_1 (i := 8) rfl) (vyb_cJx4a65c_grow_92f84_1 (i := 9) rfl) (by decide +kernel)
theorem dJx4a65c_grow_92f84_20 : decode cJx4a65c_grow_92f84 20 = Except.ok (Instr.iload_n 2, 1) := vyd_28 (vyb_cJx4a65c_grow_92f84_2 (i := 0) rfl)
theorem dJx4a65c_grow_92f84_21 : decode cJx4a65c_grow_92f84 21 = Except.ok (Instr.iload_n 1, 1) := vyd_27 (vyb_cJx4a65c_grow_92f84_2 (i := 1) rfl)
theorem dJx4a65c_grow_92f84_22 : decode cJx4a65c_grow_92f84 22 = Except.ok (Instr.iload_n 2, 1) := vyd_28 (vyb_cJx4a65c_grow_92f84_2 (i := 2) rfl)
theorem dJx4a65c_grow_92f84_23 : decode cJx4a65c_grow_92f84 23 = Except.ok (Instr.isub, 1) := vyd_100 (vyb_cJx4a65c_grow_92f84_2 (i := 3) rfl)
theorem dJx4a65c_grow_92f84_24 : decode cJx4a65c_grow_92f84 24 = Except.ok (Instr.iload_n 2, 1) := vyd_28 (vyb_cJx4a65c_grow_92f84_2 (i := 4) rfl)
theorem dJx4a65c_grow_92f84_25 : decode cJx4a65c_grow_92f84 25 = Except.ok (Instr.iconst 1, 1) := vyd_4 (vyb_cJx4a65c_grow_92f84_2 (i := 5) rfl)
theorem dJx4a65c_grow_92f84_26 : decode cJx4a65c_grow_92f84 26 = Except.ok (Instr.ishr, 1) := vyd_122 (vyb_cJx4a65c_grow_92f84_2 (i := 6) rfl)
theorem dJx4a65c_grow_92f84_27 : decode cJx4a65c_grow_92f84 27 = Except.ok (Instr.invokestatic 73, 3) := vyd_184 (vyb_cJx4a65c_grow_92f84_2 (i := 7) rfl) (vyb_cJx4a65c_grow_92f84_2 (i := 8) rfl) (vyb_cJx4a65c_grow_92f84_2 (i := 9) rfl) rfl
theorem dJx4a65c_grow_92f84_30 : decode cJx4a65c_grow_92f84 30 = Except.ok (Instr.istore_n 3, 1) := vyd_62 (vyb_cJx4a65c_grow_92f84_3 (i := 0) rfl)
theorem dJx4a65c_grow_92f84_31 : decode cJx4a65c_grow_92f84 31 = Except.ok (Instr.aload_n 0, 1) := vyd_42 (vyb_cJx4a65c_grow_92f84_3 (i := 1) rfl)
theorem dJx4a65c_grow_92f84_32 : decode cJx4a65c_grow_92f84 32 = Except.ok (Instr.aload_n 0, 1) := vyd_42 (vyb_cJx4a65c_grow_92f84_3 (i := 2) rfl)
theorem dJx4a65c_grow_92f84_33 : decode cJx4a65c_grow_92f84 33 = Except.ok (Instr.getfield 9, 3) := vyd_180 (vyb_cJx4a65c_grow_92f84_3 (i := 3) rfl) (vyb_cJx4a65c_grow_92f84_3 (i := 4) rfl) (vyb_cJx4a65c_grow_92f84_3 (i := 5) rfl) rfl
theorem dJx4a65c_grow_92f84_36 : decode cJx4a65c_grow_92f84 36 = Except.ok (Instr.iload_n 3, 1) := vyd_29 (vyb_cJx4a65c_grow_92f84_3 (i := 6) rfl)
theorem dJx4a65c_grow_92f84_37 : decode cJx4a65c_grow_92f84 37 = Except.ok (Instr.invokestatic 66, 3) := vyd_184 (vyb_cJx4a65c_grow_92f84_3 (i := 7) rfl) (vyb_cJx4a65c_grow_92f84_3 (i := 8) rfl) (vyb_cJx4a65c_grow_92f84_3 (i := 9) rfl) rfl
theorem dJx4a65c_grow_92f84_40 : decode cJx4a65c_grow_92f84 40 = Except.ok (Instr.dup_x1, 1) := vyd_90 (vyb_cJx4a65c_grow_92f84_4 (i := 0) rfl)
theorem dJx4a65c_grow_92f84_41 : decode cJx4a65c_grow_92f84 41 = Except.ok (Instr.putfield 9, 3) := vyd_181 (vyb_cJx4a65c_grow_92f84_4 (i := 1) rfl) (vyb_cJx4a65c_grow_92f84_4 (i := 2) rfl) (vyb_cJx4a65c_grow_92f84_4 (i := 3) rfl) rfl
theorem dJx4a65c_grow_92f84_44 : decode cJx4a65c_grow_92f84 44 = Except.ok (Instr.areturn, 1) := vyd_176 (vyb_cJx4a65c_grow_92f84_4 (i := 4) rfl)
theorem dJx4a65c_grow_92f84_45 : decode cJx4a65c_grow_92f84 45 = Except.ok (Instr.aload_n 0, 1) := vyd_42 (vyb_cJx4a65c_grow_92f84_4 (i := 5) rfl)
theorem dJx4a65c_grow_92f84_46 : decode cJx4a65c_grow_92f84 46 = Except.ok (Instr.bipush 10, 2) := vyd_16 (vyb_cJx4a65c_grow_92f84_4 (i := 6) rfl) (vyb_cJx4a65c_grow_92f84_4 (i := 7) rfl) (by decide +kernel)
theorem dJx4a65c_grow_92f84_48 : decode cJx4a65c_grow_92f84 48 = Except.ok (Instr.iload_n 1, 1) := vyd_27 (vyb_cJx4a65c_grow_92f84_4 (i := 8) rfl)
theorem dJx4a65c_grow_92f84_49 : decode cJx4a65c_grow_92f84 49 = Except.ok (Instr.invokestatic 79, 3) := vyd_184 (vyb_cJx4a65c_grow_92f84_4 (i := 9) rfl) (vyb_cJx4a65c_grow_92f84_5 (i := 0) rfl) (vyb_cJx4a65c_grow_92f84_5 (i := 1) rfl) rfl
theorem dJx4a65c_grow_92f84_52 : decode cJx4a65c_grow_92f84 52 = Except.ok (Instr.anewarray 7, 3) := vyd_189 (vyb_cJx4a65c_grow_92f84_5 (i := 2) rfl) (vyb_cJx4a65c_grow_92f84_5 (i := 3) rfl) (vyb_cJx4a65c_grow_92f84_5 (i := 4) rfl) rfl
theorem dJx4a65c_grow_92f84_55 : decode cJx4a65c_grow_92f84 55 = Except.ok (Instr.dup_x1, 1) := vyd_90 (vyb_cJx4a65c_grow_92f84_5 (i := 5) rfl)
theorem dJx4a65c_grow_92f84_56 : decode cJx4a65c_grow_92f84 56 = Except.ok (Instr.putfield 9, 3) := vyd_181 (vyb_cJx4a65c_grow_92f84_5 (i := 6) rfl) (vyb_cJx4a65c_grow_92f84_5 (i := 7) rfl) (vyb_cJx4a65c_grow_92f84_5 (i := 8) rfl) rfl
theorem dJx4a65c_grow_92f84_59 : decode cJx4a65c_grow_92f84 59 = Except.ok (Instr.areturn, 1) := vyd_176 (vyb_cJx4a65c_grow_92f84_5 (i := 9) rfl)
theorem vyb_cJx4a65c_grow_d5877_0 {i : Nat} {b : UInt8} (h : ([0x2a, 0x2a, 0xb4, 0x00, 0x30, 0x04, 0x60, 0xb6, 0x00, 0x45] : List UInt8)[i]? = some b) : vy_8 cJx4a65c_grow_d5877 (0 + i) b := vy_in (n := 10) (by decide +kernel) h
theorem vyb_cJx4a65c_grow_d5877_1 {i : Nat} {b : UInt8} (h : ([0xb0] : List UInt8)[i]? = some b) : vy_8 cJx4a65c_grow_d5877 (10 + i) b := vy_in (n := 1) (by decide +kernel) h
theorem dJx4a65c_grow_d5877_0 : decode cJx4a65c_grow_d5877 0 = Except.ok (Instr.aload_n 0, 1) := vyd_42 (vyb_cJx4a65c_grow_d5877_0 (i := 0) rfl)
theorem dJx4a65c_grow_d5877_1 : decode cJx4a65c_grow_d5877 1 = Except.ok (Instr.aload_n 0, 1) := vyd_42 (vyb_cJx4a65c_grow_d5877_0 (i := 1) rfl)
theorem dJx4a65c_grow_d5877_2 : decode cJx4a65c_grow_d5877 2 = Except.ok (Instr.getfield 48, 3) := vyd_180 (vyb_cJx4a65c_grow_d5877_0 (i := 2) rfl) (vyb_cJx4a65c_grow_d5877_0 (i := 3) rfl) (vyb_cJx4a65c_grow_d5877_0 (i := 4) rfl) rfl
theorem dJx4a65c_grow_d5877_5 : decode cJx4a65c_grow_d5877 5 = Except.ok (Instr.iconst 1, 1) := vyd_4 (vyb_cJx4a65c_grow_d5877_0 (i := 5) rfl)
theorem dJx4a65c_grow_d5877_6 : decode cJx4a65c_grow_d5877 6 = Except.ok (Instr.iadd, 1) := vyd_96 (vyb_cJx4a65c_grow_d5877_0 (i := 6) rfl)
theorem dJx4a65c_grow_d5877_7 : decode cJx4a65c_grow_d5877 7 = Except.ok (Instr.invokevirtual 69, 3) := vyd_182 (vyb_cJx4a65c_grow_d5877_0 (i := 7) rfl) (vyb_cJx4a65c_grow_d5877_0 (i := 8) rfl) (vyb_cJx4a65c_grow_d5877_0 (i := 9) rfl) rfl
theorem dJx4a65c_grow_d5877_10 : decode cJx4a65c_grow_d5877 10 = Except.ok (Instr.areturn, 1) := vyd_176 (vyb_cJx4a65c_grow_d5877_1 (i := 0) rfl)
theorem vyb_cJx4a65c_size_8abf5_0 {i : Nat} {b : UInt8} (h : ([0x2a, 0xb4, 0x00, 0x30, 0xac] : List UInt8)[i]? = some b) : vy_8 cJx4a65c_size_8abf5 (0 + i) b := vy_in (n := 5) (by decide +kernel) h
theorem dJx4a65c_size_8abf5_0 : decode cJx4a65c_size_8abf5 0 = Except.ok (Instr.aload_n 0, 1) := vyd_42 (vyb_cJx4a65c_size_8abf5_0 (i := 0) rfl)
theorem dJx4a65c_size_8abf5_1 : decode cJx4a65c_size_8abf5 1 = Except.ok (Instr.getfield 48, 3) := vyd_180 (vyb_cJx4a65c_size_8abf5_0 (i := 1) rfl) (vyb_cJx4a65c_size_8abf5_0 (i := 2) rfl) (vyb_cJx4a65c_size_8abf5_0 (i := 3) rfl) rfl
theorem dJx4a65c_size_8abf5_4 : decode cJx4a65c_size_8abf5 4 = Except.ok (Instr.ireturn, 1) := vyd_172 (vyb_cJx4a65c_size_8abf5_0 (i := 4) rfl)
theorem vyb_cJx4a65c_isEmpty_aae02_0 {i : Nat} {b : UInt8} (h : ([0x2a, 0xb4, 0x00, 0x30, 0x9a, 0x00, 0x07, 0x04, 0xa7, 0x00] : List UInt8)[i]? = some b) : vy_8 cJx4a65c_isEmpty_aae02 (0 + i) b := vy_in (n := 10) (by decide +kernel) h
theorem vyb_cJx4a65c_isEmpty_aae02_1 {i : Nat} {b : UInt8} (h : ([0x04, 0x03, 0xac] : List UInt8)[i]? = some b) : vy_8 cJx4a65c_isEmpty_aae02 (10 + i) b := vy_in (n := 3) (by decide +kernel) h
theorem dJx4a65c_isEmpty_aae02_0 : decode cJx4a65c_isEmpty_aae02 0 = Except.ok (Instr.aload_n 0, 1) := vyd_42 (vyb_cJx4a65c_isEmpty_aae02_0 (i := 0) rfl)
theorem dJx4a65c_isEmpty_aae02_1 : decode cJx4a65c_isEmpty_aae02 1 = Except.ok (Instr.getfield 48, 3) := vyd_180 (vyb_cJx4a65c_isEmpty_aae02_0 (i := 1) rfl) (vyb_cJx4a65c_isEmpty_aae02_0 (i := 2) rfl) (vyb_cJx4a65c_isEmpty_aae02_0 (i := 3) rfl) rfl
theorem dJx4a65c_isEmpty_aae02_4 : decode cJx4a65c_isEmpty_aae02 4 = Except.ok (Instr.ifCond .ne 7, 3) := vyd_154 (vyb_cJx4a65c_isEmpty_aae02_0 (i := 4) rfl) (vyb_cJx4a65c_isEmpty_aae02_0 (i := 5) rfl) (vyb_cJx4a65c_isEmpty_aae02_0 (i := 6) rfl) (by decide +kernel)
theorem dJx4a65c_isEmpty_aae02_7 : decode cJx4a65c_isEmpty_aae02 7 = Except.ok (Instr.iconst 1, 1) := vyd_4 (vyb_cJx4a65c_isEmpty_aae02_0 (i := 7) rfl)
theorem dJx4a65c_isEmpty_aae02_8 : decode cJx4a65c_isEmpty_aae02 8 = Except.ok (Instr.goto 4, 3) := vyd_167 (vyb_cJx4a65c_isEmpty_aae02_0 (i := 8) rfl) (vyb_cJx4a65c_isEmpty_aae02_0 (i := 9) rfl) (vyb_cJx4a65c_isEmpty_aae02_1 (i := 0) rfl) (by decide +kernel)
theorem dJx4a65c_isEmpty_aae02_11 : decode cJx4a65c_isEmpty_aae02 11 = Except.ok (Instr.iconst 0, 1) := vyd_3 (vyb_cJx4a65c_isEmpty_aae02_1 (i := 1) rfl)
theorem dJx4a65c_isEmpty_aae02_12 : decode cJx4a65c_isEmpty_aae02 12 = Except.ok (Instr.ireturn, 1) := vyd_172 (vyb_cJx4a65c_isEmpty_aae02_1 (i := 2) rfl)
theorem vyb_cJx4a65c_elementData_915e3_0 {i : Nat} {b : UInt8} (h : ([0x2a, 0xb4, 0x00, 0x09, 0x1b, 0x32, 0xb0] : List UInt8)[i]? = some b) : vy_8 cJx4a65c_elementData_915e3 (0 + i) b := vy_in (n := 7) (by decide +kernel) h
theorem dJx4a65c_elementData_915e3_0 : decode cJx4a65c_elementData_915e3 0 = Except.ok (Instr.aload_n 0, 1) := vyd_42 (vyb_cJx4a65c_elementData_915e3_0 (i := 0) rfl)
theorem dJx4a65c_elementData_915e3_1 : decode cJx4a65c_elementData_915e3 1 = Except.ok (Instr.getfield 9, 3) := vyd_180 (vyb_cJx4a65c_elementData_915e3_0 (i := 1) rfl) (vyb_cJx4a65c_elementData_915e3_0 (i := 2) rfl) (vyb_cJx4a65c_elementData_915e3_0 (i := 3) rfl) rfl
theorem dJx4a65c_elementData_915e3_4 : decode cJx4a65c_elementData_915e3 4 = Except.ok (Instr.iload_n 1, 1) := vyd_27 (vyb_cJx4a65c_elementData_915e3_0 (i := 4) rfl)
theorem dJx4a65c_elementData_915e3_5 : decode cJx4a65c_elementData_915e3 5 = Except.ok (Instr.aaload, 1) := vyd_50 (vyb_cJx4a65c_elementData_915e3_0 (i := 5) rfl)
theorem dJx4a65c_elementData_915e3_6 : decode cJx4a65c_elementData_915e3 6 = Except.ok (Instr.areturn, 1) := vyd_176 (vyb_cJx4a65c_elementData_915e3_0 (i := 6) rfl)
theorem vyb_cJx4a65c_get_915e3_0 {i : Nat} {b : UInt8} (h : ([0x1b, 0x2a, 0xb4, 0x00, 0x30, 0xb8, 0x00, 0x76, 0x57, 0x2a] : List UInt8)[i]? = some b) : vy_8 cJx4a65c_get_915e3 (0 + i) b := vy_in (n := 10) (by decide +kernel) h
theorem vyb_cJx4a65c_get_915e3_1 {i : Nat} {b : UInt8} (h : ([0x1b, 0xb6, 0x00, 0x7b, 0xb0] : List UInt8)[i]? = some b) : vy_8 cJx4a65c_get_915e3 (10 + i) b := vy_in (n := 5) (by decide +kernel) h
theorem dJx4a65c_get_915e3_0 : decode cJx4a65c_get_915e3 0 = Except.ok (Instr.iload_n 1, 1) := vyd_27 (vyb_cJx4a65c_get_915e3_0 (i := 0) rfl)
theorem dJx4a65c_get_915e3_1 : decode cJx4a65c_get_915e3 1 = Except.ok (Instr.aload_n 0, 1) := vyd_42 (vyb_cJx4a65c_get_915e3_0 (i := 1) rfl)
theorem dJx4a65c_get_915e3_2 : decode cJx4a65c_get_915e3 2 = Except.ok (Instr.getfield 48, 3) := vyd_180 (vyb_cJx4a65c_get_915e3_0 (i := 2) rfl) (vyb_cJx4a65c_get_915e3_0 (i := 3) rfl) (vyb_cJx4a65c_get_915e3_0 (i := 4) rfl) rfl
theorem dJx4a65c_get_915e3_5 : decode cJx4a65c_get_915e3 5 = Except.ok (Instr.invokestatic 118, 3) := vyd_184 (vyb_cJx4a65c_get_915e3_0 (i := 5) rfl) (vyb_cJx4a65c_get_915e3_0 (i := 6) rfl) (vyb_cJx4a65c_get_915e3_0 (i := 7) rfl) rfl
theorem dJx4a65c_get_915e3_8 : decode cJx4a65c_get_915e3 8 = Except.ok (Instr.pop, 1) := vyd_87 (vyb_cJx4a65c_get_915e3_0 (i := 8) rfl)
theorem dJx4a65c_get_915e3_9 : decode cJx4a65c_get_915e3 9 = Except.ok (Instr.aload_n 0, 1) := vyd_42 (vyb_cJx4a65c_get_915e3_0 (i := 9) rfl)
theorem dJx4a65c_get_915e3_10 : decode cJx4a65c_get_915e3 10 = Except.ok (Instr.iload_n 1, 1) := vyd_27 (vyb_cJx4a65c_get_915e3_1 (i := 0) rfl)
theorem dJx4a65c_get_915e3_11 : decode cJx4a65c_get_915e3 11 = Except.ok (Instr.invokevirtual 123, 3) := vyd_182 (vyb_cJx4a65c_get_915e3_1 (i := 1) rfl) (vyb_cJx4a65c_get_915e3_1 (i := 2) rfl) (vyb_cJx4a65c_get_915e3_1 (i := 3) rfl) rfl
theorem dJx4a65c_get_915e3_14 : decode cJx4a65c_get_915e3 14 = Except.ok (Instr.areturn, 1) := vyd_176 (vyb_cJx4a65c_get_915e3_1 (i := 4) rfl)
theorem vyb_cJx4a65c_set_bcc79_0 {i : Nat} {b : UInt8} (h : ([0x1b, 0x2a, 0xb4, 0x00, 0x30, 0xb8, 0x00, 0x76, 0x57, 0x2a] : List UInt8)[i]? = some b) : vy_8 cJx4a65c_set_bcc79 (0 + i) b := vy_in (n := 10) (by decide +kernel) h
theorem vyb_cJx4a65c_set_bcc79_1 {i : Nat} {b : UInt8} (h : ([0x1b, 0xb6, 0x00, 0x7b, 0x4e, 0x2a, 0xb4, 0x00, 0x09, 0x1b] : List UInt8)[i]? = some b) : vy_8 cJx4a65c_set_bcc79 (10 + i) b := vy_in (n := 10) (by decide +kernel) h
theorem vyb_cJx4a65c_set_bcc79_2 {i : Nat} {b : UInt8} (h : ([0x2c, 0x53, 0x2d, 0xb0] : List UInt8)[i]? = some b) : vy_8 cJx4a65c_set_bcc79 (20 + i) b := vy_in (n := 4) (by decide +kernel) h
theorem dJx4a65c_set_bcc79_0 : decode cJx4a65c_set_bcc79 0 = Except.ok (Instr.iload_n 1, 1) := vyd_27 (vyb_cJx4a65c_set_bcc79_0 (i := 0) rfl)
theorem dJx4a65c_set_bcc79_1 : decode cJx4a65c_set_bcc79 1 = Except.ok (Instr.aload_n 0, 1) := vyd_42 (vyb_cJx4a65c_set_bcc79_0 (i := 1) rfl)
theorem dJx4a65c_set_bcc79_2 : decode cJx4a65c_set_bcc79 2 = Except.ok (Instr.getfield 48, 3) := vyd_180 (vyb_cJx4a65c_set_bcc79_0 (i := 2) rfl) (vyb_cJx4a65c_set_bcc79_0 (i := 3) rfl) (vyb_cJx4a65c_set_bcc79_0 (i := 4) rfl) rfl
theorem dJx4a65c_set_bcc79_5 : decode cJx4a65c_set_bcc79 5 = Except.ok (Instr.invokestatic 118, 3) := vyd_184 (vyb_cJx4a65c_set_bcc79_0 (i := 5) rfl) (vyb_cJx4a65c_set_bcc79_0 (i := 6) rfl) (vyb_cJx4a65c_set_bcc79_0 (i := 7) rfl) rfl
theorem dJx4a65c_set_bcc79_8 : decode cJx4a65c_set_bcc79 8 = Except.ok (Instr.pop, 1) := vyd_87 (vyb_cJx4a65c_set_bcc79_0 (i := 8) rfl)
theorem dJx4a65c_set_bcc79_9 : decode cJx4a65c_set_bcc79 9 = Except.ok (Instr.aload_n 0, 1) := vyd_42 (vyb_cJx4a65c_set_bcc79_0 (i := 9) rfl)
theorem dJx4a65c_set_bcc79_10 : decode cJx4a65c_set_bcc79 10 = Except.ok (Instr.iload_n 1, 1) := vyd_27 (vyb_cJx4a65c_set_bcc79_1 (i := 0) rfl)
theorem dJx4a65c_set_bcc79_11 : decode cJx4a65c_set_bcc79 11 = Except.ok (Instr.invokevirtual 123, 3) := vyd_182 (vyb_cJx4a65c_set_bcc79_1 (i := 1) rfl) (vyb_cJx4a65c_set_bcc79_1 (i := 2) rfl) (vyb_cJx4a65c_set_bcc79_1 (i := 3) rfl) rfl
theorem dJx4a65c_set_bcc79_14 : decode cJx4a65c_set_bcc79 14 = Except.ok (Instr.astore_n 3, 1) := vyd_78 (vyb_cJx4a65c_set_bcc79_1 (i := 4) rfl)
theorem dJx4a65c_set_bcc79_15 : decode cJx4a65c_set_bcc79 15 = Except.ok (Instr.aload_n 0, 1) := vyd_42 (vyb_cJx4a65c_set_bcc79_1 (i := 5) rfl)
theorem dJx4a65c_set_bcc79_16 : decode cJx4a65c_set_bcc79 16 = Except.ok (Instr.getfield 9, 3) := vyd_180 (vyb_cJx4a65c_set_bcc79_1 (i := 6) rfl) (vyb_cJx4a65c_set_bcc79_1 (i := 7) rfl) (vyb_cJx4a65c_set_bcc79_1 (i := 8) rfl) rfl
theorem dJx4a65c_set_bcc79_19 : decode cJx4a65c_set_bcc79 19 = Except.ok (Instr.iload_n 1, 1) := vyd_27 (vyb_cJx4a65c_set_bcc79_1 (i := 9) rfl)
theorem dJx4a65c_set_bcc79_20 : decode cJx4a65c_set_bcc79 20 = Except.ok (Instr.aload_n 2, 1) := vyd_44 (vyb_cJx4a65c_set_bcc79_2 (i := 0) rfl)
theorem dJx4a65c_set_bcc79_21 : decode cJx4a65c_set_bcc79 21 = Except.ok (Instr.aastore, 1) := vyd_83 (vyb_cJx4a65c_set_bcc79_2 (i := 1) rfl)
theorem dJx4a65c_set_bcc79_22 : decode cJx4a65c_set_bcc79 22 = Except.ok (Instr.aload_n 3, 1) := vyd_45 (vyb_cJx4a65c_set_bcc79_2 (i := 2) rfl)
theorem dJx4a65c_set_bcc79_23 : decode cJx4a65c_set_bcc79 23 = Except.ok (Instr.areturn, 1) := vyd_176 (vyb_cJx4a65c_set_bcc79_2 (i := 3) rfl)
theorem vyb_cJx4a65c_add_72be8_0 {i : Nat} {b : UInt8} (h : ([0x1d, 0x2c, 0xbe, 0xa0, 0x00, 0x08, 0x2a, 0xb6, 0x00, 0x81] : List UInt8)[i]? = some b) : vy_8 cJx4a65c_add_72be8 (0 + i) b := vy_in (n := 10) (by decide +kernel) h
theorem vyb_cJx4a65c_add_72be8_1 {i : Nat} {b : UInt8} (h : ([0x4d, 0x2c, 0x1d, 0x2b, 0x53, 0x2a, 0x1d, 0x04, 0x60, 0xb5] : List UInt8)[i]? = some b) : vy_8 cJx4a65c_add_72be8 (10 + i) b := vy_in (n := 10) (by decide +kernel) h
theorem vyb_cJx4a65c_add_72be8_2 {i : Nat} {b : UInt8} (h : ([0x00, 0x30, 0xb1] : List UInt8)[i]? = some b) : vy_8 cJx4a65c_add_72be8 (20 + i) b := vy_in (n := 3) (by decide +kernel) h
theorem dJx4a65c_add_72be8_0 : decode cJx4a65c_add_72be8 0 = Except.ok (Instr.iload_n 3, 1) := vyd_29 (vyb_cJx4a65c_add_72be8_0 (i := 0) rfl)
theorem dJx4a65c_add_72be8_1 : decode cJx4a65c_add_72be8 1 = Except.ok (Instr.aload_n 2, 1) := vyd_44 (vyb_cJx4a65c_add_72be8_0 (i := 1) rfl)
theorem dJx4a65c_add_72be8_2 : decode cJx4a65c_add_72be8 2 = Except.ok (Instr.arraylength, 1) := vyd_190 (vyb_cJx4a65c_add_72be8_0 (i := 2) rfl)
theorem dJx4a65c_add_72be8_3 : decode cJx4a65c_add_72be8 3 = Except.ok (Instr.if_icmp .ne 8, 3) := vyd_160 (vyb_cJx4a65c_add_72be8_0 (i := 3) rfl) (vyb_cJx4a65c_add_72be8_0 (i := 4) rfl) (vyb_cJx4a65c_add_72be8_0 (i := 5) rfl) (by decide +kernel)
theorem dJx4a65c_add_72be8_6 : decode cJx4a65c_add_72be8 6 = Except.ok (Instr.aload_n 0, 1) := vyd_42 (vyb_cJx4a65c_add_72be8_0 (i := 6) rfl)
theorem dJx4a65c_add_72be8_7 : decode cJx4a65c_add_72be8 7 = Except.ok (Instr.invokevirtual 129, 3) := vyd_182 (vyb_cJx4a65c_add_72be8_0 (i := 7) rfl) (vyb_cJx4a65c_add_72be8_0 (i := 8) rfl) (vyb_cJx4a65c_add_72be8_0 (i := 9) rfl) rfl
theorem dJx4a65c_add_72be8_10 : decode cJx4a65c_add_72be8 10 = Except.ok (Instr.astore_n 2, 1) := vyd_77 (vyb_cJx4a65c_add_72be8_1 (i := 0) rfl)
theorem dJx4a65c_add_72be8_11 : decode cJx4a65c_add_72be8 11 = Except.ok (Instr.aload_n 2, 1) := vyd_44 (vyb_cJx4a65c_add_72be8_1 (i := 1) rfl)
theorem dJx4a65c_add_72be8_12 : decode cJx4a65c_add_72be8 12 = Except.ok (Instr.iload_n 3, 1) := vyd_29 (vyb_cJx4a65c_add_72be8_1 (i := 2) rfl)
theorem dJx4a65c_add_72be8_13 : decode cJx4a65c_add_72be8 13 = Except.ok (Instr.aload_n 1, 1) := vyd_43 (vyb_cJx4a65c_add_72be8_1 (i := 3) rfl)
theorem dJx4a65c_add_72be8_14 : decode cJx4a65c_add_72be8 14 = Except.ok (Instr.aastore, 1) := vyd_83 (vyb_cJx4a65c_add_72be8_1 (i := 4) rfl)
theorem dJx4a65c_add_72be8_15 : decode cJx4a65c_add_72be8 15 = Except.ok (Instr.aload_n 0, 1) := vyd_42 (vyb_cJx4a65c_add_72be8_1 (i := 5) rfl)
theorem dJx4a65c_add_72be8_16 : decode cJx4a65c_add_72be8 16 = Except.ok (Instr.iload_n 3, 1) := vyd_29 (vyb_cJx4a65c_add_72be8_1 (i := 6) rfl)
theorem dJx4a65c_add_72be8_17 : decode cJx4a65c_add_72be8 17 = Except.ok (Instr.iconst 1, 1) := vyd_4 (vyb_cJx4a65c_add_72be8_1 (i := 7) rfl)
theorem dJx4a65c_add_72be8_18 : decode cJx4a65c_add_72be8 18 = Except.ok (Instr.iadd, 1) := vyd_96 (vyb_cJx4a65c_add_72be8_1 (i := 8) rfl)
theorem dJx4a65c_add_72be8_19 : decode cJx4a65c_add_72be8 19 = Except.ok (Instr.putfield 48, 3) := vyd_181 (vyb_cJx4a65c_add_72be8_1 (i := 9) rfl) (vyb_cJx4a65c_add_72be8_2 (i := 0) rfl) (vyb_cJx4a65c_add_72be8_2 (i := 1) rfl) rfl
theorem dJx4a65c_add_72be8_22 : decode cJx4a65c_add_72be8 22 = Except.ok (Instr.return_, 1) := vyd_177 (vyb_cJx4a65c_add_72be8_2 (i := 2) rfl)
theorem vyb_cJx4a65c_add_9ea2d_0 {i : Nat} {b : UInt8} (h : ([0x2a, 0x59, 0xb4, 0x00, 0x3f, 0x04, 0x60, 0xb5, 0x00, 0x3f] : List UInt8)[i]? = some b) : vy_8 cJx4a65c_add_9ea2d (0 + i) b := vy_in (n := 10) (by decide +kernel) h
theorem vyb_cJx4a65c_add_9ea2d_1 {i : Nat} {b : UInt8} (h : ([0x2a, 0x2b, 0x2a, 0xb4, 0x00, 0x09, 0x2a, 0xb4, 0x00, 0x30] : List UInt8)[i]? = some b) : vy_8 cJx4a65c_add_9ea2d (10 + i) b := vy_in (n := 10) (by decide +kernel) h
theorem vyb_cJx4a65c_add_9ea2d_2 {i : Nat} {b : UInt8} (h : ([0xb6, 0x00, 0x83, 0x04, 0xac] : List UInt8)[i]? = some b) : vy_8 cJx4a65c_add_9ea2d (20 + i) b := vy_in (n := 5) (by decide +kernel) h
theorem dJx4a65c_add_9ea2d_0 : decode cJx4a65c_add_9ea2d 0 = Except.ok (Instr.aload_n 0, 1) := vyd_42 (vyb_cJx4a65c_add_9ea2d_0 (i := 0) rfl)
theorem dJx4a65c_add_9ea2d_1 : decode cJx4a65c_add_9ea2d 1 = Except.ok (Instr.dup, 1) := vyd_89 (vyb_cJx4a65c_add_9ea2d_0 (i := 1) rfl)
theorem dJx4a65c_add_9ea2d_2 : decode cJx4a65c_add_9ea2d 2 = Except.ok (Instr.getfield 63, 3) := vyd_180 (vyb_cJx4a65c_add_9ea2d_0 (i := 2) rfl) (vyb_cJx4a65c_add_9ea2d_0 (i := 3) rfl) (vyb_cJx4a65c_add_9ea2d_0 (i := 4) rfl) rfl
theorem dJx4a65c_add_9ea2d_5 : decode cJx4a65c_add_9ea2d 5 = Except.ok (Instr.iconst 1, 1) := vyd_4 (vyb_cJx4a65c_add_9ea2d_0 (i := 5) rfl)
theorem dJx4a65c_add_9ea2d_6 : decode cJx4a65c_add_9ea2d 6 = Except.ok (Instr.iadd, 1) := vyd_96 (vyb_cJx4a65c_add_9ea2d_0 (i := 6) rfl)
theorem dJx4a65c_add_9ea2d_7 : decode cJx4a65c_add_9ea2d 7 = Except.ok (Instr.putfield 63, 3) := vyd_181 (vyb_cJx4a65c_add_9ea2d_0 (i := 7) rfl) (vyb_cJx4a65c_add_9ea2d_0 (i := 8) rfl) (vyb_cJx4a65c_add_9ea2d_0 (i := 9) rfl) rfl
theorem dJx4a65c_add_9ea2d_10 : decode cJx4a65c_add_9ea2d 10 = Except.ok (Instr.aload_n 0, 1) := vyd_42 (vyb_cJx4a65c_add_9ea2d_1 (i := 0) rfl)
theorem dJx4a65c_add_9ea2d_11 : decode cJx4a65c_add_9ea2d 11 = Except.ok (Instr.aload_n 1, 1) := vyd_43 (vyb_cJx4a65c_add_9ea2d_1 (i := 1) rfl)
theorem dJx4a65c_add_9ea2d_12 : decode cJx4a65c_add_9ea2d 12 = Except.ok (Instr.aload_n 0, 1) := vyd_42 (vyb_cJx4a65c_add_9ea2d_1 (i := 2) rfl)
theorem dJx4a65c_add_9ea2d_13 : decode cJx4a65c_add_9ea2d 13 = Except.ok (Instr.getfield 9, 3) := vyd_180 (vyb_cJx4a65c_add_9ea2d_1 (i := 3) rfl) (vyb_cJx4a65c_add_9ea2d_1 (i := 4) rfl) (vyb_cJx4a65c_add_9ea2d_1 (i := 5) rfl) rfl
theorem dJx4a65c_add_9ea2d_16 : decode cJx4a65c_add_9ea2d 16 = Except.ok (Instr.aload_n 0, 1) := vyd_42 (vyb_cJx4a65c_add_9ea2d_1 (i := 6) rfl)
theorem dJx4a65c_add_9ea2d_17 : decode cJx4a65c_add_9ea2d 17 = Except.ok (Instr.getfield 48, 3) := vyd_180 (vyb_cJx4a65c_add_9ea2d_1 (i := 7) rfl) (vyb_cJx4a65c_add_9ea2d_1 (i := 8) rfl) (vyb_cJx4a65c_add_9ea2d_1 (i := 9) rfl) rfl
theorem dJx4a65c_add_9ea2d_20 : decode cJx4a65c_add_9ea2d 20 = Except.ok (Instr.invokevirtual 131, 3) := vyd_182 (vyb_cJx4a65c_add_9ea2d_2 (i := 0) rfl) (vyb_cJx4a65c_add_9ea2d_2 (i := 1) rfl) (vyb_cJx4a65c_add_9ea2d_2 (i := 2) rfl) rfl
theorem dJx4a65c_add_9ea2d_23 : decode cJx4a65c_add_9ea2d 23 = Except.ok (Instr.iconst 1, 1) := vyd_4 (vyb_cJx4a65c_add_9ea2d_2 (i := 3) rfl)
theorem dJx4a65c_add_9ea2d_24 : decode cJx4a65c_add_9ea2d 24 = Except.ok (Instr.ireturn, 1) := vyd_172 (vyb_cJx4a65c_add_9ea2d_2 (i := 4) rfl)
theorem vyb_cJx4a65c_add_7a177_0 {i : Nat} {b : UInt8} (h : ([0x2a, 0x1b, 0xb6, 0x00, 0x87, 0x2a, 0x59, 0xb4, 0x00, 0x3f] : List UInt8)[i]? = some b) : vy_8 cJx4a65c_add_7a177 (0 + i) b := vy_in (n := 10) (by decide +kernel) h
theorem vyb_cJx4a65c_add_7a177_1 {i : Nat} {b : UInt8} (h : ([0x04, 0x60, 0xb5, 0x00, 0x3f, 0x2a, 0xb4, 0x00, 0x30, 0x59] : List UInt8)[i]? = some b) : vy_8 cJx4a65c_add_7a177 (10 + i) b := vy_in (n := 10) (by decide +kernel) h
theorem vyb_cJx4a65c_add_7a177_2 {i : Nat} {b : UInt8} (h : ([0x3e, 0x2a, 0xb4, 0x00, 0x09, 0x59, 0x3a, 0x04, 0xbe, 0xa0] : List UInt8)[i]? = some b) : vy_8 cJx4a65c_add_7a177 (20 + i) b := vy_in (n := 10) (by decide +kernel) h
theorem vyb_cJx4a65c_add_7a177_3 {i : Nat} {b : UInt8} (h : ([0x00, 0x09, 0x2a, 0xb6, 0x00, 0x81, 0x3a, 0x04, 0x19, 0x04] : List UInt8)[i]? = some b) : vy_8 cJx4a65c_add_7a177 (30 + i) b := vy_in (n := 10) (by decide +kernel) h
theorem vyb_cJx4a65c_add_7a177_4 {i : Nat} {b : UInt8} (h : ([0x1b, 0x19, 0x04, 0x1b, 0x04, 0x60, 0x1d, 0x1b, 0x64, 0xb8] : List UInt8)[i]? = some b) : vy_8 cJx4a65c_add_7a177 (40 + i) b := vy_in (n := 10) (by decide +kernel) h
theorem vyb_cJx4a65c_add_7a177_5 {i : Nat} {b : UInt8} (h : ([0x00, 0x70, 0x19, 0x04, 0x1b, 0x2c, 0x53, 0x2a, 0x1d, 0x04] : List UInt8)[i]? = some b) : vy_8 cJx4a65c_add_7a177 (50 + i) b := vy_in (n := 10) (by decide +kernel) h
theorem vyb_cJx4a65c_add_7a177_6 {i : Nat} {b : UInt8} (h : ([0x60, 0xb5, 0x00, 0x30, 0xb1] : List UInt8)[i]? = some b) : vy_8 cJx4a65c_add_7a177 (60 + i) b := vy_in (n := 5) (by decide +kernel) h
theorem dJx4a65c_add_7a177_0 : decode cJx4a65c_add_7a177 0 = Except.ok (Instr.aload_n 0, 1) := vyd_42 (vyb_cJx4a65c_add_7a177_0 (i := 0) rfl)
theorem dJx4a65c_add_7a177_1 : decode cJx4a65c_add_7a177 1 = Except.ok (Instr.iload_n 1, 1) := vyd_27 (vyb_cJx4a65c_add_7a177_0 (i := 1) rfl)
theorem dJx4a65c_add_7a177_2 : decode cJx4a65c_add_7a177 2 = Except.ok (Instr.invokevirtual 135, 3) := vyd_182 (vyb_cJx4a65c_add_7a177_0 (i := 2) rfl) (vyb_cJx4a65c_add_7a177_0 (i := 3) rfl) (vyb_cJx4a65c_add_7a177_0 (i := 4) rfl) rfl
theorem dJx4a65c_add_7a177_5 : decode cJx4a65c_add_7a177 5 = Except.ok (Instr.aload_n 0, 1) := vyd_42 (vyb_cJx4a65c_add_7a177_0 (i := 5) rfl)
theorem dJx4a65c_add_7a177_6 : decode cJx4a65c_add_7a177 6 = Except.ok (Instr.dup, 1) := vyd_89 (vyb_cJx4a65c_add_7a177_0 (i := 6) rfl)
theorem dJx4a65c_add_7a177_7 : decode cJx4a65c_add_7a177 7 = Except.ok (Instr.getfield 63, 3) := vyd_180 (vyb_cJx4a65c_add_7a177_0 (i := 7) rfl) (vyb_cJx4a65c_add_7a177_0 (i := 8) rfl) (vyb_cJx4a65c_add_7a177_0 (i := 9) rfl) rfl
theorem dJx4a65c_add_7a177_10 : decode cJx4a65c_add_7a177 10 = Except.ok (Instr.iconst 1, 1) := vyd_4 (vyb_cJx4a65c_add_7a177_1 (i := 0) rfl)
theorem dJx4a65c_add_7a177_11 : decode cJx4a65c_add_7a177 11 = Except.ok (Instr.iadd, 1) := vyd_96 (vyb_cJx4a65c_add_7a177_1 (i := 1) rfl)
theorem dJx4a65c_add_7a177_12 : decode cJx4a65c_add_7a177 12 = Except.ok (Instr.putfield 63, 3) := vyd_181 (vyb_cJx4a65c_add_7a177_1 (i := 2) rfl) (vyb_cJx4a65c_add_7a177_1 (i := 3) rfl) (vyb_cJx4a65c_add_7a177_1 (i := 4) rfl) rfl
theorem dJx4a65c_add_7a177_15 : decode cJx4a65c_add_7a177 15 = Except.ok (Instr.aload_n 0, 1) := vyd_42 (vyb_cJx4a65c_add_7a177_1 (i := 5) rfl)
theorem dJx4a65c_add_7a177_16 : decode cJx4a65c_add_7a177 16 = Except.ok (Instr.getfield 48, 3) := vyd_180 (vyb_cJx4a65c_add_7a177_1 (i := 6) rfl) (vyb_cJx4a65c_add_7a177_1 (i := 7) rfl) (vyb_cJx4a65c_add_7a177_1 (i := 8) rfl) rfl
theorem dJx4a65c_add_7a177_19 : decode cJx4a65c_add_7a177 19 = Except.ok (Instr.dup, 1) := vyd_89 (vyb_cJx4a65c_add_7a177_1 (i := 9) rfl)
theorem dJx4a65c_add_7a177_20 : decode cJx4a65c_add_7a177 20 = Except.ok (Instr.istore_n 3, 1) := vyd_62 (vyb_cJx4a65c_add_7a177_2 (i := 0) rfl)
theorem dJx4a65c_add_7a177_21 : decode cJx4a65c_add_7a177 21 = Except.ok (Instr.aload_n 0, 1) := vyd_42 (vyb_cJx4a65c_add_7a177_2 (i := 1) rfl)
theorem dJx4a65c_add_7a177_22 : decode cJx4a65c_add_7a177 22 = Except.ok (Instr.getfield 9, 3) := vyd_180 (vyb_cJx4a65c_add_7a177_2 (i := 2) rfl) (vyb_cJx4a65c_add_7a177_2 (i := 3) rfl) (vyb_cJx4a65c_add_7a177_2 (i := 4) rfl) rfl
theorem dJx4a65c_add_7a177_25 : decode cJx4a65c_add_7a177 25 = Except.ok (Instr.dup, 1) := vyd_89 (vyb_cJx4a65c_add_7a177_2 (i := 5) rfl)
theorem dJx4a65c_add_7a177_26 : decode cJx4a65c_add_7a177 26 = Except.ok (Instr.astore 4, 2) := vyd_58 (vyb_cJx4a65c_add_7a177_2 (i := 6) rfl) (vyb_cJx4a65c_add_7a177_2 (i := 7) rfl) rfl
theorem dJx4a65c_add_7a177_28 : decode cJx4a65c_add_7a177 28 = Except.ok (Instr.arraylength, 1) := vyd_190 (vyb_cJx4a65c_add_7a177_2 (i := 8) rfl)
theorem dJx4a65c_add_7a177_29 : decode cJx4a65c_add_7a177 29 = Except.ok (Instr.if_icmp .ne 9, 3) := vyd_160 (vyb_cJx4a65c_add_7a177_2 (i := 9) rfl) (vyb_cJx4a65c_add_7a177_3 (i := 0) rfl) (vyb_cJx4a65c_add_7a177_3 (i := 1) rfl) (by decide +kernel)
theorem dJx4a65c_add_7a177_32 : decode cJx4a65c_add_7a177 32 = Except.ok (Instr.aload_n 0, 1) := vyd_42 (vyb_cJx4a65c_add_7a177_3 (i := 2) rfl)
theorem dJx4a65c_add_7a177_33 : decode cJx4a65c_add_7a177 33 = Except.ok (Instr.invokevirtual 129, 3) := vyd_182 (vyb_cJx4a65c_add_7a177_3 (i := 3) rfl) (vyb_cJx4a65c_add_7a177_3 (i := 4) rfl) (vyb_cJx4a65c_add_7a177_3 (i := 5) rfl) rfl
theorem dJx4a65c_add_7a177_36 : decode cJx4a65c_add_7a177 36 = Except.ok (Instr.astore 4, 2) := vyd_58 (vyb_cJx4a65c_add_7a177_3 (i := 6) rfl) (vyb_cJx4a65c_add_7a177_3 (i := 7) rfl) rfl
theorem dJx4a65c_add_7a177_38 : decode cJx4a65c_add_7a177 38 = Except.ok (Instr.aload 4, 2) := vyd_25 (vyb_cJx4a65c_add_7a177_3 (i := 8) rfl) (vyb_cJx4a65c_add_7a177_3 (i := 9) rfl) rfl
theorem dJx4a65c_add_7a177_40 : decode cJx4a65c_add_7a177 40 = Except.ok (Instr.iload_n 1, 1) := vyd_27 (vyb_cJx4a65c_add_7a177_4 (i := 0) rfl)
theorem dJx4a65c_add_7a177_41 : decode cJx4a65c_add_7a177 41 = Except.ok (Instr.aload 4, 2) := vyd_25 (vyb_cJx4a65c_add_7a177_4 (i := 1) rfl) (vyb_cJx4a65c_add_7a177_4 (i := 2) rfl) rfl
theorem dJx4a65c_add_7a177_43 : decode cJx4a65c_add_7a177 43 = Except.ok (Instr.iload_n 1, 1) := vyd_27 (vyb_cJx4a65c_add_7a177_4 (i := 3) rfl)
theorem dJx4a65c_add_7a177_44 : decode cJx4a65c_add_7a177 44 = Except.ok (Instr.iconst 1, 1) := vyd_4 (vyb_cJx4a65c_add_7a177_4 (i := 4) rfl)
theorem dJx4a65c_add_7a177_45 : decode cJx4a65c_add_7a177 45 = Except.ok (Instr.iadd, 1) := vyd_96 (vyb_cJx4a65c_add_7a177_4 (i := 5) rfl)
theorem dJx4a65c_add_7a177_46 : decode cJx4a65c_add_7a177 46 = Except.ok (Instr.iload_n 3, 1) := vyd_29 (vyb_cJx4a65c_add_7a177_4 (i := 6) rfl)
theorem dJx4a65c_add_7a177_47 : decode cJx4a65c_add_7a177 47 = Except.ok (Instr.iload_n 1, 1) := vyd_27 (vyb_cJx4a65c_add_7a177_4 (i := 7) rfl)
theorem dJx4a65c_add_7a177_48 : decode cJx4a65c_add_7a177 48 = Except.ok (Instr.isub, 1) := vyd_100 (vyb_cJx4a65c_add_7a177_4 (i := 8) rfl)
theorem dJx4a65c_add_7a177_49 : decode cJx4a65c_add_7a177 49 = Except.ok (Instr.invokestatic 112, 3) := vyd_184 (vyb_cJx4a65c_add_7a177_4 (i := 9) rfl) (vyb_cJx4a65c_add_7a177_5 (i := 0) rfl) (vyb_cJx4a65c_add_7a177_5 (i := 1) rfl) rfl
theorem dJx4a65c_add_7a177_52 : decode cJx4a65c_add_7a177 52 = Except.ok (Instr.aload 4, 2) := vyd_25 (vyb_cJx4a65c_add_7a177_5 (i := 2) rfl) (vyb_cJx4a65c_add_7a177_5 (i := 3) rfl) rfl
theorem dJx4a65c_add_7a177_54 : decode cJx4a65c_add_7a177 54 = Except.ok (Instr.iload_n 1, 1) := vyd_27 (vyb_cJx4a65c_add_7a177_5 (i := 4) rfl)
theorem dJx4a65c_add_7a177_55 : decode cJx4a65c_add_7a177 55 = Except.ok (Instr.aload_n 2, 1) := vyd_44 (vyb_cJx4a65c_add_7a177_5 (i := 5) rfl)
theorem dJx4a65c_add_7a177_56 : decode cJx4a65c_add_7a177 56 = Except.ok (Instr.aastore, 1) := vyd_83 (vyb_cJx4a65c_add_7a177_5 (i := 6) rfl)
theorem dJx4a65c_add_7a177_57 : decode cJx4a65c_add_7a177 57 = Except.ok (Instr.aload_n 0, 1) := vyd_42 (vyb_cJx4a65c_add_7a177_5 (i := 7) rfl)
theorem dJx4a65c_add_7a177_58 : decode cJx4a65c_add_7a177 58 = Except.ok (Instr.iload_n 3, 1) := vyd_29 (vyb_cJx4a65c_add_7a177_5 (i := 8) rfl)
theorem dJx4a65c_add_7a177_59 : decode cJx4a65c_add_7a177 59 = Except.ok (Instr.iconst 1, 1) := vyd_4 (vyb_cJx4a65c_add_7a177_5 (i := 9) rfl)
theorem dJx4a65c_add_7a177_60 : decode cJx4a65c_add_7a177 60 = Except.ok (Instr.iadd, 1) := vyd_96 (vyb_cJx4a65c_add_7a177_6 (i := 0) rfl)
theorem dJx4a65c_add_7a177_61 : decode cJx4a65c_add_7a177 61 = Except.ok (Instr.putfield 48, 3) := vyd_181 (vyb_cJx4a65c_add_7a177_6 (i := 1) rfl) (vyb_cJx4a65c_add_7a177_6 (i := 2) rfl) (vyb_cJx4a65c_add_7a177_6 (i := 3) rfl) rfl
theorem dJx4a65c_add_7a177_64 : decode cJx4a65c_add_7a177 64 = Except.ok (Instr.return_, 1) := vyd_177 (vyb_cJx4a65c_add_7a177_6 (i := 4) rfl)
theorem vyb_cJx4a65c_remove_915e3_0 {i : Nat} {b : UInt8} (h : ([0x1b, 0x2a, 0xb4, 0x00, 0x30, 0xb8, 0x00, 0x76, 0x57, 0x2a] : List UInt8)[i]? = some b) : vy_8 cJx4a65c_remove_915e3 (0 + i) b := vy_in (n := 10) (by decide +kernel) h
theorem vyb_cJx4a65c_remove_915e3_1 {i : Nat} {b : UInt8} (h : ([0xb4, 0x00, 0x09, 0x4d, 0x2c, 0x1b, 0x32, 0x4e, 0x2a, 0x2c] : List UInt8)[i]? = some b) : vy_8 cJx4a65c_remove_915e3 (10 + i) b := vy_in (n := 10) (by decide +kernel) h
theorem vyb_cJx4a65c_remove_915e3_2 {i : Nat} {b : UInt8} (h : ([0x1b, 0xb6, 0x00, 0x90, 0x2d, 0xb0] : List UInt8)[i]? = some b) : vy_8 cJx4a65c_remove_915e3 (20 + i) b := vy_in (n := 6) (by decide +kernel) h
theorem dJx4a65c_remove_915e3_0 : decode cJx4a65c_remove_915e3 0 = Except.ok (Instr.iload_n 1, 1) := vyd_27 (vyb_cJx4a65c_remove_915e3_0 (i := 0) rfl)
theorem dJx4a65c_remove_915e3_1 : decode cJx4a65c_remove_915e3 1 = Except.ok (Instr.aload_n 0, 1) := vyd_42 (vyb_cJx4a65c_remove_915e3_0 (i := 1) rfl)
theorem dJx4a65c_remove_915e3_2 : decode cJx4a65c_remove_915e3 2 = Except.ok (Instr.getfield 48, 3) := vyd_180 (vyb_cJx4a65c_remove_915e3_0 (i := 2) rfl) (vyb_cJx4a65c_remove_915e3_0 (i := 3) rfl) (vyb_cJx4a65c_remove_915e3_0 (i := 4) rfl) rfl
theorem dJx4a65c_remove_915e3_5 : decode cJx4a65c_remove_915e3 5 = Except.ok (Instr.invokestatic 118, 3) := vyd_184 (vyb_cJx4a65c_remove_915e3_0 (i := 5) rfl) (vyb_cJx4a65c_remove_915e3_0 (i := 6) rfl) (vyb_cJx4a65c_remove_915e3_0 (i := 7) rfl) rfl
theorem dJx4a65c_remove_915e3_8 : decode cJx4a65c_remove_915e3 8 = Except.ok (Instr.pop, 1) := vyd_87 (vyb_cJx4a65c_remove_915e3_0 (i := 8) rfl)
theorem dJx4a65c_remove_915e3_9 : decode cJx4a65c_remove_915e3 9 = Except.ok (Instr.aload_n 0, 1) := vyd_42 (vyb_cJx4a65c_remove_915e3_0 (i := 9) rfl)
theorem dJx4a65c_remove_915e3_10 : decode cJx4a65c_remove_915e3 10 = Except.ok (Instr.getfield 9, 3) := vyd_180 (vyb_cJx4a65c_remove_915e3_1 (i := 0) rfl) (vyb_cJx4a65c_remove_915e3_1 (i := 1) rfl) (vyb_cJx4a65c_remove_915e3_1 (i := 2) rfl) rfl
theorem dJx4a65c_remove_915e3_13 : decode cJx4a65c_remove_915e3 13 = Except.ok (Instr.astore_n 2, 1) := vyd_77 (vyb_cJx4a65c_remove_915e3_1 (i := 3) rfl)
theorem dJx4a65c_remove_915e3_14 : decode cJx4a65c_remove_915e3 14 = Except.ok (Instr.aload_n 2, 1) := vyd_44 (vyb_cJx4a65c_remove_915e3_1 (i := 4) rfl)
theorem dJx4a65c_remove_915e3_15 : decode cJx4a65c_remove_915e3 15 = Except.ok (Instr.iload_n 1, 1) := vyd_27 (vyb_cJx4a65c_remove_915e3_1 (i := 5) rfl)
theorem dJx4a65c_remove_915e3_16 : decode cJx4a65c_remove_915e3 16 = Except.ok (Instr.aaload, 1) := vyd_50 (vyb_cJx4a65c_remove_915e3_1 (i := 6) rfl)
theorem dJx4a65c_remove_915e3_17 : decode cJx4a65c_remove_915e3 17 = Except.ok (Instr.astore_n 3, 1) := vyd_78 (vyb_cJx4a65c_remove_915e3_1 (i := 7) rfl)
theorem dJx4a65c_remove_915e3_18 : decode cJx4a65c_remove_915e3 18 = Except.ok (Instr.aload_n 0, 1) := vyd_42 (vyb_cJx4a65c_remove_915e3_1 (i := 8) rfl)
theorem dJx4a65c_remove_915e3_19 : decode cJx4a65c_remove_915e3 19 = Except.ok (Instr.aload_n 2, 1) := vyd_44 (vyb_cJx4a65c_remove_915e3_1 (i := 9) rfl)
theorem dJx4a65c_remove_915e3_20 : decode cJx4a65c_remove_915e3 20 = Except.ok (Instr.iload_n 1, 1) := vyd_27 (vyb_cJx4a65c_remove_915e3_2 (i := 0) rfl)
theorem dJx4a65c_remove_915e3_21 : decode cJx4a65c_remove_915e3 21 = Except.ok (Instr.invokevirtual 144, 3) := vyd_182 (vyb_cJx4a65c_remove_915e3_2 (i := 1) rfl) (vyb_cJx4a65c_remove_915e3_2 (i := 2) rfl) (vyb_cJx4a65c_remove_915e3_2 (i := 3) rfl) rfl
theorem dJx4a65c_remove_915e3_24 : decode cJx4a65c_remove_915e3 24 = Except.ok (Instr.aload_n 3, 1) := vyd_45 (vyb_cJx4a65c_remove_915e3_2 (i := 4) rfl)
theorem dJx4a65c_remove_915e3_25 : decode cJx4a65c_remove_915e3 25 = Except.ok (Instr.areturn, 1) := vyd_176 (vyb_cJx4a65c_remove_915e3_2 (i := 5) rfl)
theorem vyb_cJx4a65c_fastRemove_b59b0_0 {i : Nat} {b : UInt8} (h : ([0x2a, 0x59, 0xb4, 0x00, 0x3f, 0x04, 0x60, 0xb5, 0x00, 0x3f] : List UInt8)[i]? = some b) : vy_8 cJx4a65c_fastRemove_b59b0 (0 + i) b := vy_in (n := 10) (by decide +kernel) h
theorem vyb_cJx4a65c_fastRemove_b59b0_1 {i : Nat} {b : UInt8} (h : ([0x2a, 0xb4, 0x00, 0x30, 0x04, 0x64, 0x59, 0x3e, 0x1c, 0xa4] : List UInt8)[i]? = some b) : vy_8 cJx4a65c_fastRemove_b59b0 (10 + i) b := vy_in (n := 10) (by decide +kernel) h
theorem vyb_cJx4a65c_fastRemove_b59b0_2 {i : Nat} {b : UInt8} (h : ([0x00, 0x0f, 0x2b, 0x1c, 0x04, 0x60, 0x2b, 0x1c, 0x1d, 0x1c] : List UInt8)[i]? = some b) : vy_8 cJx4a65c_fastRemove_b59b0 (20 + i) b := vy_in (n := 10) (by decide +kernel) h
theorem vyb_cJx4a65c_fastRemove_b59b0_3 {i : Nat} {b : UInt8} (h : ([0x64, 0xb8, 0x00, 0x70, 0x2b, 0x2a, 0x1d, 0x5a, 0xb5, 0x00] : List UInt8)[i]? = some b) : vy_8 cJx4a65c_fastRemove_b59b0 (30 + i) b := vy_in (n := 10) (by decide +kernel) h
theorem vyb_cJx4a65c_fastRemove_b59b0_4 {i : Nat} {b : UInt8} (h : ([0x30, 0x01, 0x53, 0xb1] : List UInt8)[i]? = some b) : vy_8 cJx4a65c_fastRemove_b59b0 (40 + i) b := vy_in (n := 4) (by decide +kernel) h
theorem dJx4a65c_fastRemove_b59b0_0 : decode cJx4a65c_fastRemove_b59b0 0 = Except.ok (Instr.aload_n 0, 1) := vyd_42 (vyb_cJx4a65c_fastRemove_b59b0_0 (i := 0) rfl)
theorem dJx4a65c_fastRemove_b59b0_1 : decode cJx4a65c_fastRemove_b59b0 1 = Except.ok (Instr.dup, 1) := vyd_89 (vyb_cJx4a65c_fastRemove_b59b0_0 (i := 1) rfl)
theorem dJx4a65c_fastRemove_b59b0_2 : decode cJx4a65c_fastRemove_b59b0 2 = Except.ok (Instr.getfield 63, 3) := vyd_180 (vyb_cJx4a65c_fastRemove_b59b0_0 (i := 2) rfl) (vyb_cJx4a65c_fastRemove_b59b0_0 (i := 3) rfl) (vyb_cJx4a65c_fastRemove_b59b0_0 (i := 4) rfl) rfl
theorem dJx4a65c_fastRemove_b59b0_5 : decode cJx4a65c_fastRemove_b59b0 5 = Except.ok (Instr.iconst 1, 1) := vyd_4 (vyb_cJx4a65c_fastRemove_b59b0_0 (i := 5) rfl)
theorem dJx4a65c_fastRemove_b59b0_6 : decode cJx4a65c_fastRemove_b59b0 6 = Except.ok (Instr.iadd, 1) := vyd_96 (vyb_cJx4a65c_fastRemove_b59b0_0 (i := 6) rfl)
theorem dJx4a65c_fastRemove_b59b0_7 : decode cJx4a65c_fastRemove_b59b0 7 = Except.ok (Instr.putfield 63, 3) := vyd_181 (vyb_cJx4a65c_fastRemove_b59b0_0 (i := 7) rfl) (vyb_cJx4a65c_fastRemove_b59b0_0 (i := 8) rfl) (vyb_cJx4a65c_fastRemove_b59b0_0 (i := 9) rfl) rfl
theorem dJx4a65c_fastRemove_b59b0_10 : decode cJx4a65c_fastRemove_b59b0 10 = Except.ok (Instr.aload_n 0, 1) := vyd_42 (vyb_cJx4a65c_fastRemove_b59b0_1 (i := 0) rfl)
theorem dJx4a65c_fastRemove_b59b0_11 : decode cJx4a65c_fastRemove_b59b0 11 = Except.ok (Instr.getfield 48, 3) := vyd_180 (vyb_cJx4a65c_fastRemove_b59b0_1 (i := 1) rfl) (vyb_cJx4a65c_fastRemove_b59b0_1 (i := 2) rfl) (vyb_cJx4a65c_fastRemove_b59b0_1 (i := 3) rfl) rfl
theorem dJx4a65c_fastRemove_b59b0_14 : decode cJx4a65c_fastRemove_b59b0 14 = Except.ok (Instr.iconst 1, 1) := vyd_4 (vyb_cJx4a65c_fastRemove_b59b0_1 (i := 4) rfl)
theorem dJx4a65c_fastRemove_b59b0_15 : decode cJx4a65c_fastRemove_b59b0 15 = Except.ok (Instr.isub, 1) := vyd_100 (vyb_cJx4a65c_fastRemove_b59b0_1 (i := 5) rfl)
theorem dJx4a65c_fastRemove_b59b0_16 : decode cJx4a65c_fastRemove_b59b0 16 = Except.ok (Instr.dup, 1) := vyd_89 (vyb_cJx4a65c_fastRemove_b59b0_1 (i := 6) rfl)
theorem dJx4a65c_fastRemove_b59b0_17 : decode cJx4a65c_fastRemove_b59b0 17 = Except.ok (Instr.istore_n 3, 1) := vyd_62 (vyb_cJx4a65c_fastRemove_b59b0_1 (i := 7) rfl)
theorem dJx4a65c_fastRemove_b59b0_18 : decode cJx4a65c_fastRemove_b59b0 18 = Except.ok (Instr.iload_n 2, 1) := vyd_28 (vyb_cJx4a65c_fastRemove_b59b0_1 (i := 8) rfl)
theorem dJx4a65c_fastRemove_b59b0_19 : decode cJx4a65c_fastRemove_b59b0 19 = Except.ok (Instr.if_icmp .le 15, 3) := vyd_164 (vyb_cJx4a65c_fastRemove_b59b0_1 (i := 9) rfl) (vyb_cJx4a65c_fastRemove_b59b0_2 (i := 0) rfl) (vyb_cJx4a65c_fastRemove_b59b0_2 (i := 1) rfl) (by decide +kernel)
theorem dJx4a65c_fastRemove_b59b0_22 : decode cJx4a65c_fastRemove_b59b0 22 = Except.ok (Instr.aload_n 1, 1) := vyd_43 (vyb_cJx4a65c_fastRemove_b59b0_2 (i := 2) rfl)
theorem dJx4a65c_fastRemove_b59b0_23 : decode cJx4a65c_fastRemove_b59b0 23 = Except.ok (Instr.iload_n 2, 1) := vyd_28 (vyb_cJx4a65c_fastRemove_b59b0_2 (i := 3) rfl)
theorem dJx4a65c_fastRemove_b59b0_24 : decode cJx4a65c_fastRemove_b59b0 24 = Except.ok (Instr.iconst 1, 1) := vyd_4 (vyb_cJx4a65c_fastRemove_b59b0_2 (i := 4) rfl)
theorem dJx4a65c_fastRemove_b59b0_25 : decode cJx4a65c_fastRemove_b59b0 25 = Except.ok (Instr.iadd, 1) := vyd_96 (vyb_cJx4a65c_fastRemove_b59b0_2 (i := 5) rfl)
theorem dJx4a65c_fastRemove_b59b0_26 : decode cJx4a65c_fastRemove_b59b0 26 = Except.ok (Instr.aload_n 1, 1) := vyd_43 (vyb_cJx4a65c_fastRemove_b59b0_2 (i := 6) rfl)
theorem dJx4a65c_fastRemove_b59b0_27 : decode cJx4a65c_fastRemove_b59b0 27 = Except.ok (Instr.iload_n 2, 1) := vyd_28 (vyb_cJx4a65c_fastRemove_b59b0_2 (i := 7) rfl)
theorem dJx4a65c_fastRemove_b59b0_28 : decode cJx4a65c_fastRemove_b59b0 28 = Except.ok (Instr.iload_n 3, 1) := vyd_29 (vyb_cJx4a65c_fastRemove_b59b0_2 (i := 8) rfl)
theorem dJx4a65c_fastRemove_b59b0_29 : decode cJx4a65c_fastRemove_b59b0 29 = Except.ok (Instr.iload_n 2, 1) := vyd_28 (vyb_cJx4a65c_fastRemove_b59b0_2 (i := 9) rfl)
theorem dJx4a65c_fastRemove_b59b0_30 : decode cJx4a65c_fastRemove_b59b0 30 = Except.ok (Instr.isub, 1) := vyd_100 (vyb_cJx4a65c_fastRemove_b59b0_3 (i := 0) rfl)
theorem dJx4a65c_fastRemove_b59b0_31 : decode cJx4a65c_fastRemove_b59b0 31 = Except.ok (Instr.invokestatic 112, 3) := vyd_184 (vyb_cJx4a65c_fastRemove_b59b0_3 (i := 1) rfl) (vyb_cJx4a65c_fastRemove_b59b0_3 (i := 2) rfl) (vyb_cJx4a65c_fastRemove_b59b0_3 (i := 3) rfl) rfl
theorem dJx4a65c_fastRemove_b59b0_34 : decode cJx4a65c_fastRemove_b59b0 34 = Except.ok (Instr.aload_n 1, 1) := vyd_43 (vyb_cJx4a65c_fastRemove_b59b0_3 (i := 4) rfl)
theorem dJx4a65c_fastRemove_b59b0_35 : decode cJx4a65c_fastRemove_b59b0 35 = Except.ok (Instr.aload_n 0, 1) := vyd_42 (vyb_cJx4a65c_fastRemove_b59b0_3 (i := 5) rfl)
theorem dJx4a65c_fastRemove_b59b0_36 : decode cJx4a65c_fastRemove_b59b0 36 = Except.ok (Instr.iload_n 3, 1) := vyd_29 (vyb_cJx4a65c_fastRemove_b59b0_3 (i := 6) rfl)
theorem dJx4a65c_fastRemove_b59b0_37 : decode cJx4a65c_fastRemove_b59b0 37 = Except.ok (Instr.dup_x1, 1) := vyd_90 (vyb_cJx4a65c_fastRemove_b59b0_3 (i := 7) rfl)
theorem dJx4a65c_fastRemove_b59b0_38 : decode cJx4a65c_fastRemove_b59b0 38 = Except.ok (Instr.putfield 48, 3) := vyd_181 (vyb_cJx4a65c_fastRemove_b59b0_3 (i := 8) rfl) (vyb_cJx4a65c_fastRemove_b59b0_3 (i := 9) rfl) (vyb_cJx4a65c_fastRemove_b59b0_4 (i := 0) rfl) rfl
theorem dJx4a65c_fastRemove_b59b0_41 : decode cJx4a65c_fastRemove_b59b0 41 = Except.ok (Instr.aconst_null, 1) := vyd_1 (vyb_cJx4a65c_fastRemove_b59b0_4 (i := 1) rfl)
theorem dJx4a65c_fastRemove_b59b0_42 : decode cJx4a65c_fastRemove_b59b0 42 = Except.ok (Instr.aastore, 1) := vyd_83 (vyb_cJx4a65c_fastRemove_b59b0_4 (i := 2) rfl)
theorem dJx4a65c_fastRemove_b59b0_43 : decode cJx4a65c_fastRemove_b59b0 43 = Except.ok (Instr.return_, 1) := vyd_177 (vyb_cJx4a65c_fastRemove_b59b0_4 (i := 3) rfl)
theorem vyb_cJx4a65c_clear_da8c8_0 {i : Nat} {b : UInt8} (h : ([0x2a, 0x59, 0xb4, 0x00, 0x3f, 0x04, 0x60, 0xb5, 0x00, 0x3f] : List UInt8)[i]? = some b) : vy_8 cJx4a65c_clear_da8c8 (0 + i) b := vy_in (n := 10) (by decide +kernel) h
theorem vyb_cJx4a65c_clear_da8c8_1 {i : Nat} {b : UInt8} (h : ([0x2a, 0xb4, 0x00, 0x09, 0x4c, 0x2a, 0xb4, 0x00, 0x30, 0x3d] : List UInt8)[i]? = some b) : vy_8 cJx4a65c_clear_da8c8 (10 + i) b := vy_in (n := 10) (by decide +kernel) h
theorem vyb_cJx4a65c_clear_da8c8_2 {i : Nat} {b : UInt8} (h : ([0x2a, 0x03, 0x5a, 0xb5, 0x00, 0x30, 0x3e, 0x1d, 0x1c, 0xa2] : List UInt8)[i]? = some b) : vy_8 cJx4a65c_clear_da8c8 (20 + i) b := vy_in (n := 10) (by decide +kernel) h
theorem vyb_cJx4a65c_clear_da8c8_3 {i : Nat} {b : UInt8} (h : ([0x00, 0x0d, 0x2b, 0x1d, 0x01, 0x53, 0x84, 0x03, 0x01, 0xa7] : List UInt8)[i]? = some b) : vy_8 cJx4a65c_clear_da8c8 (30 + i) b := vy_in (n := 10) (by decide +kernel) h
theorem vyb_cJx4a65c_clear_da8c8_4 {i : Nat} {b : UInt8} (h : ([0xff, 0xf4, 0xb1] : List UInt8)[i]? = some b) : vy_8 cJx4a65c_clear_da8c8 (40 + i) b := vy_in (n := 3) (by decide +kernel) h
theorem dJx4a65c_clear_da8c8_0 : decode cJx4a65c_clear_da8c8 0 = Except.ok (Instr.aload_n 0, 1) := vyd_42 (vyb_cJx4a65c_clear_da8c8_0 (i := 0) rfl)
theorem dJx4a65c_clear_da8c8_1 : decode cJx4a65c_clear_da8c8 1 = Except.ok (Instr.dup, 1) := vyd_89 (vyb_cJx4a65c_clear_da8c8_0 (i := 1) rfl)
theorem dJx4a65c_clear_da8c8_2 : decode cJx4a65c_clear_da8c8 2 = Except.ok (Instr.getfield 63, 3) := vyd_180 (vyb_cJx4a65c_clear_da8c8_0 (i := 2) rfl) (vyb_cJx4a65c_clear_da8c8_0 (i := 3) rfl) (vyb_cJx4a65c_clear_da8c8_0 (i := 4) rfl) rfl
theorem dJx4a65c_clear_da8c8_5 : decode cJx4a65c_clear_da8c8 5 = Except.ok (Instr.iconst 1, 1) := vyd_4 (vyb_cJx4a65c_clear_da8c8_0 (i := 5) rfl)
theorem dJx4a65c_clear_da8c8_6 : decode cJx4a65c_clear_da8c8 6 = Except.ok (Instr.iadd, 1) := vyd_96 (vyb_cJx4a65c_clear_da8c8_0 (i := 6) rfl)
theorem dJx4a65c_clear_da8c8_7 : decode cJx4a65c_clear_da8c8 7 = Except.ok (Instr.putfield 63, 3) := vyd_181 (vyb_cJx4a65c_clear_da8c8_0 (i := 7) rfl) (vyb_cJx4a65c_clear_da8c8_0 (i := 8) rfl) (vyb_cJx4a65c_clear_da8c8_0 (i := 9) rfl) rfl
theorem dJx4a65c_clear_da8c8_10 : decode cJx4a65c_clear_da8c8 10 = Except.ok (Instr.aload_n 0, 1) := vyd_42 (vyb_cJx4a65c_clear_da8c8_1 (i := 0) rfl)
theorem dJx4a65c_clear_da8c8_11 : decode cJx4a65c_clear_da8c8 11 = Except.ok (Instr.getfield 9, 3) := vyd_180 (vyb_cJx4a65c_clear_da8c8_1 (i := 1) rfl) (vyb_cJx4a65c_clear_da8c8_1 (i := 2) rfl) (vyb_cJx4a65c_clear_da8c8_1 (i := 3) rfl) rfl
theorem dJx4a65c_clear_da8c8_14 : decode cJx4a65c_clear_da8c8 14 = Except.ok (Instr.astore_n 1, 1) := vyd_76 (vyb_cJx4a65c_clear_da8c8_1 (i := 4) rfl)
theorem dJx4a65c_clear_da8c8_15 : decode cJx4a65c_clear_da8c8 15 = Except.ok (Instr.aload_n 0, 1) := vyd_42 (vyb_cJx4a65c_clear_da8c8_1 (i := 5) rfl)
theorem dJx4a65c_clear_da8c8_16 : decode cJx4a65c_clear_da8c8 16 = Except.ok (Instr.getfield 48, 3) := vyd_180 (vyb_cJx4a65c_clear_da8c8_1 (i := 6) rfl) (vyb_cJx4a65c_clear_da8c8_1 (i := 7) rfl) (vyb_cJx4a65c_clear_da8c8_1 (i := 8) rfl) rfl
theorem dJx4a65c_clear_da8c8_19 : decode cJx4a65c_clear_da8c8 19 = Except.ok (Instr.istore_n 2, 1) := vyd_61 (vyb_cJx4a65c_clear_da8c8_1 (i := 9) rfl)
theorem dJx4a65c_clear_da8c8_20 : decode cJx4a65c_clear_da8c8 20 = Except.ok (Instr.aload_n 0, 1) := vyd_42 (vyb_cJx4a65c_clear_da8c8_2 (i := 0) rfl)
theorem dJx4a65c_clear_da8c8_21 : decode cJx4a65c_clear_da8c8 21 = Except.ok (Instr.iconst 0, 1) := vyd_3 (vyb_cJx4a65c_clear_da8c8_2 (i := 1) rfl)
theorem dJx4a65c_clear_da8c8_22 : decode cJx4a65c_clear_da8c8 22 = Except.ok (Instr.dup_x1, 1) := vyd_90 (vyb_cJx4a65c_clear_da8c8_2 (i := 2) rfl)
theorem dJx4a65c_clear_da8c8_23 : decode cJx4a65c_clear_da8c8 23 = Except.ok (Instr.putfield 48, 3) := vyd_181 (vyb_cJx4a65c_clear_da8c8_2 (i := 3) rfl) (vyb_cJx4a65c_clear_da8c8_2 (i := 4) rfl) (vyb_cJx4a65c_clear_da8c8_2 (i := 5) rfl) rfl
theorem dJx4a65c_clear_da8c8_26 : decode cJx4a65c_clear_da8c8 26 = Except.ok (Instr.istore_n 3, 1) := vyd_62 (vyb_cJx4a65c_clear_da8c8_2 (i := 6) rfl)
theorem dJx4a65c_clear_da8c8_27 : decode cJx4a65c_clear_da8c8 27 = Except.ok (Instr.iload_n 3, 1) := vyd_29 (vyb_cJx4a65c_clear_da8c8_2 (i := 7) rfl)
theorem dJx4a65c_clear_da8c8_28 : decode cJx4a65c_clear_da8c8 28 = Except.ok (Instr.iload_n 2, 1) := vyd_28 (vyb_cJx4a65c_clear_da8c8_2 (i := 8) rfl)
theorem dJx4a65c_clear_da8c8_29 : decode cJx4a65c_clear_da8c8 29 = Except.ok (Instr.if_icmp .ge 13, 3) := vyd_162 (vyb_cJx4a65c_clear_da8c8_2 (i := 9) rfl) (vyb_cJx4a65c_clear_da8c8_3 (i := 0) rfl) (vyb_cJx4a65c_clear_da8c8_3 (i := 1) rfl) (by decide +kernel)
theorem dJx4a65c_clear_da8c8_32 : decode cJx4a65c_clear_da8c8 32 = Except.ok (Instr.aload_n 1, 1) := vyd_43 (vyb_cJx4a65c_clear_da8c8_3 (i := 2) rfl)
theorem dJx4a65c_clear_da8c8_33 : decode cJx4a65c_clear_da8c8 33 = Except.ok (Instr.iload_n 3, 1) := vyd_29 (vyb_cJx4a65c_clear_da8c8_3 (i := 3) rfl)
theorem dJx4a65c_clear_da8c8_34 : decode cJx4a65c_clear_da8c8 34 = Except.ok (Instr.aconst_null, 1) := vyd_1 (vyb_cJx4a65c_clear_da8c8_3 (i := 4) rfl)
theorem dJx4a65c_clear_da8c8_35 : decode cJx4a65c_clear_da8c8 35 = Except.ok (Instr.aastore, 1) := vyd_83 (vyb_cJx4a65c_clear_da8c8_3 (i := 5) rfl)
theorem dJx4a65c_clear_da8c8_36 : decode cJx4a65c_clear_da8c8 36 = .ok (.iinc 3 1, 3) := by decide +kernel
theorem dJx4a65c_clear_da8c8_39 : decode cJx4a65c_clear_da8c8 39 = Except.ok (Instr.goto (-12), 3) := vyd_167 (vyb_cJx4a65c_clear_da8c8_3 (i := 9) rfl) (vyb_cJx4a65c_clear_da8c8_4 (i := 0) rfl) (vyb_cJx4a65c_clear_da8c8_4 (i := 1) rfl) (by decide +kernel)
theorem dJx4a65c_clear_da8c8_42 : decode cJx4a65c_clear_da8c8 42 = Except.ok (Instr.return_, 1) := vyd_177 (vyb_cJx4a65c_clear_da8c8_4 (i := 2) rfl)
theorem vyb_cJx4a65c_rangeCheckForAdd_d00df_0 {i : Nat} {b : UInt8} (h : ([0x1b, 0x2a, 0xb4, 0x00, 0x30, 0xa3, 0x00, 0x07, 0x1b, 0x9c] : List UInt8)[i]? = some b) : vy_8 cJx4a65c_rangeCheckForAdd_d00df (0 + i) b := vy_in (n := 10) (by decide +kernel) h
theorem vyb_cJx4a65c_rangeCheckForAdd_d00df_1 {i : Nat} {b : UInt8} (h : ([0x00, 0x10, 0xbb, 0x00, 0xbb, 0x59, 0x2a, 0x1b, 0xb6, 0x00] : List UInt8)[i]? = some b) : vy_8 cJx4a65c_rangeCheckForAdd_d00df (10 + i) b := vy_in (n := 10) (by decide +kernel) h
theorem vyb_cJx4a65c_rangeCheckForAdd_d00df_2 {i : Nat} {b : UInt8} (h : ([0xc6, 0xb7, 0x00, 0xc1, 0xbf, 0xb1] : List UInt8)[i]? = some b) : vy_8 cJx4a65c_rangeCheckForAdd_d00df (20 + i) b := vy_in (n := 6) (by decide +kernel) h
theorem dJx4a65c_rangeCheckForAdd_d00df_0 : decode cJx4a65c_rangeCheckForAdd_d00df 0 = Except.ok (Instr.iload_n 1, 1) := vyd_27 (vyb_cJx4a65c_rangeCheckForAdd_d00df_0 (i := 0) rfl)
theorem dJx4a65c_rangeCheckForAdd_d00df_1 : decode cJx4a65c_rangeCheckForAdd_d00df 1 = Except.ok (Instr.aload_n 0, 1) := vyd_42 (vyb_cJx4a65c_rangeCheckForAdd_d00df_0 (i := 1) rfl)
theorem dJx4a65c_rangeCheckForAdd_d00df_2 : decode cJx4a65c_rangeCheckForAdd_d00df 2 = Except.ok (Instr.getfield 48, 3) := vyd_180 (vyb_cJx4a65c_rangeCheckForAdd_d00df_0 (i := 2) rfl) (vyb_cJx4a65c_rangeCheckForAdd_d00df_0 (i := 3) rfl) (vyb_cJx4a65c_rangeCheckForAdd_d00df_0 (i := 4) rfl) rfl
theorem dJx4a65c_rangeCheckForAdd_d00df_5 : decode cJx4a65c_rangeCheckForAdd_d00df 5 = Except.ok (Instr.if_icmp .gt 7, 3) := vyd_163 (vyb_cJx4a65c_rangeCheckForAdd_d00df_0 (i := 5) rfl) (vyb_cJx4a65c_rangeCheckForAdd_d00df_0 (i := 6) rfl) (vyb_cJx4a65c_rangeCheckForAdd_d00df_0 (i := 7) rfl) (by decide +kernel)
theorem dJx4a65c_rangeCheckForAdd_d00df_8 : decode cJx4a65c_rangeCheckForAdd_d00df 8 = Except.ok (Instr.iload_n 1, 1) := vyd_27 (vyb_cJx4a65c_rangeCheckForAdd_d00df_0 (i := 8) rfl)
theorem dJx4a65c_rangeCheckForAdd_d00df_9 : decode cJx4a65c_rangeCheckForAdd_d00df 9 = Except.ok (Instr.ifCond .ge 16, 3) := vyd_156 (vyb_cJx4a65c_rangeCheckForAdd_d00df_0 (i := 9) rfl) (vyb_cJx4a65c_rangeCheckForAdd_d00df_1 (i := 0) rfl) (vyb_cJx4a65c_rangeCheckForAdd_d00df_1 (i := 1) rfl) (by decide +kernel)
theorem dJx4a65c_rangeCheckForAdd_d00df_25 : decode cJx4a65c_rangeCheckForAdd_d00df 25 = Except.ok (Instr.return_, 1) := vyd_177 (vyb_cJx4a65c_rangeCheckForAdd_d00df_2 (i := 5) rfl)
theorem vyb_cJx4a65c_iterator_32c93_0 {i : Nat} {b : UInt8} (h : ([0xbb, 0x01, 0x0b, 0x59, 0x2a, 0xb7, 0x01, 0x0d, 0xb0] : List UInt8)[i]? = some b) : vy_8 cJx4a65c_iterator_32c93 (0 + i) b := vy_in (n := 9) (by decide +kernel) h
theorem dJx4a65c_iterator_32c93_0 : decode cJx4a65c_iterator_32c93 0 = Except.ok (Instr.new 267, 3) := vyd_187 (vyb_cJx4a65c_iterator_32c93_0 (i := 0) rfl) (vyb_cJx4a65c_iterator_32c93_0 (i := 1) rfl) (vyb_cJx4a65c_iterator_32c93_0 (i := 2) rfl) rfl
theorem dJx4a65c_iterator_32c93_3 : decode cJx4a65c_iterator_32c93 3 = Except.ok (Instr.dup, 1) := vyd_89 (vyb_cJx4a65c_iterator_32c93_0 (i := 3) rfl)
theorem dJx4a65c_iterator_32c93_4 : decode cJx4a65c_iterator_32c93 4 = Except.ok (Instr.aload_n 0, 1) := vyd_42 (vyb_cJx4a65c_iterator_32c93_0 (i := 4) rfl)
theorem dJx4a65c_iterator_32c93_5 : decode cJx4a65c_iterator_32c93 5 = Except.ok (Instr.invokespecial 269, 3) := vyd_183 (vyb_cJx4a65c_iterator_32c93_0 (i := 5) rfl) (vyb_cJx4a65c_iterator_32c93_0 (i := 6) rfl) (vyb_cJx4a65c_iterator_32c93_0 (i := 7) rfl) rfl
theorem dJx4a65c_iterator_32c93_8 : decode cJx4a65c_iterator_32c93 8 = Except.ok (Instr.areturn, 1) := vyd_176 (vyb_cJx4a65c_iterator_32c93_0 (i := 8) rfl)
theorem vyb_cJ7_copyOf_1904c_0 {i : Nat} {b : UInt8} (h : ([0x2a, 0x1b, 0x2a, 0xb6, 0x00, 0x56, 0xb8, 0x01, 0x2c, 0xb0] : List UInt8)[i]? = some b) : vy_8 cJ7_copyOf_1904c (0 + i) b := vy_in (n := 10) (by decide +kernel) h
theorem dJ7_copyOf_1904c_0 : decode cJ7_copyOf_1904c 0 = Except.ok (Instr.aload_n 0, 1) := vyd_42 (vyb_cJ7_copyOf_1904c_0 (i := 0) rfl)
theorem dJ7_copyOf_1904c_1 : decode cJ7_copyOf_1904c 1 = Except.ok (Instr.iload_n 1, 1) := vyd_27 (vyb_cJ7_copyOf_1904c_0 (i := 1) rfl)
theorem dJ7_copyOf_1904c_2 : decode cJ7_copyOf_1904c 2 = Except.ok (Instr.aload_n 0, 1) := vyd_42 (vyb_cJ7_copyOf_1904c_0 (i := 2) rfl)
theorem dJ7_copyOf_1904c_3 : decode cJ7_copyOf_1904c 3 = Except.ok (Instr.invokevirtual 86, 3) := vyd_182 (vyb_cJ7_copyOf_1904c_0 (i := 3) rfl) (vyb_cJ7_copyOf_1904c_0 (i := 4) rfl) (vyb_cJ7_copyOf_1904c_0 (i := 5) rfl) rfl
theorem dJ7_copyOf_1904c_6 : decode cJ7_copyOf_1904c 6 = Except.ok (Instr.invokestatic 300, 3) := vyd_184 (vyb_cJ7_copyOf_1904c_0 (i := 6) rfl) (vyb_cJ7_copyOf_1904c_0 (i := 7) rfl) (vyb_cJ7_copyOf_1904c_0 (i := 8) rfl) rfl
theorem dJ7_copyOf_1904c_9 : decode cJ7_copyOf_1904c 9 = Except.ok (Instr.areturn, 1) := vyd_176 (vyb_cJ7_copyOf_1904c_0 (i := 9) rfl)
theorem vyb_cJ7_copyOf_6403c_0 {i : Nat} {b : UInt8} (h : ([0x2c, 0x12, 0x6e, 0xa6, 0x00, 0x0a, 0x1b, 0xbd, 0x00, 0x02] : List UInt8)[i]? = some b) : vy_8 cJ7_copyOf_6403c (0 + i) b := vy_in (n := 10) (by decide +kernel) h
theorem vyb_cJ7_copyOf_6403c_1 {i : Nat} {b : UInt8} (h : ([0xa7, 0x00, 0x0e, 0x2c, 0xb6, 0x00, 0x5a, 0x1b, 0xb8, 0x00] : List UInt8)[i]? = some b) : vy_8 cJ7_copyOf_6403c (10 + i) b := vy_in (n := 10) (by decide +kernel) h
theorem vyb_cJ7_copyOf_6403c_2 {i : Nat} {b : UInt8} (h : ([0x5f, 0xc0, 0x00, 0x6e, 0x4e, 0x2a, 0x03, 0x2d, 0x03, 0x2a] : List UInt8)[i]? = some b) : vy_8 cJ7_copyOf_6403c (20 + i) b := vy_in (n := 10) (by decide +kernel) h
theorem vyb_cJ7_copyOf_6403c_3 {i : Nat} {b : UInt8} (h : ([0xbe, 0x1b, 0xb8, 0x01, 0x30, 0xb8, 0x00, 0x96, 0x2d, 0xb0] : List UInt8)[i]? = some b) : vy_8 cJ7_copyOf_6403c (30 + i) b := vy_in (n := 10) (by decide +kernel) h
theorem dJ7_copyOf_6403c_0 : decode cJ7_copyOf_6403c 0 = Except.ok (Instr.aload_n 2, 1) := vyd_44 (vyb_cJ7_copyOf_6403c_0 (i := 0) rfl)
theorem dJ7_copyOf_6403c_1 : decode cJ7_copyOf_6403c 1 = Except.ok (Instr.ldc 110, 2) := vyd_18 (vyb_cJ7_copyOf_6403c_0 (i := 1) rfl) (vyb_cJ7_copyOf_6403c_0 (i := 2) rfl) rfl
theorem dJ7_copyOf_6403c_3 : decode cJ7_copyOf_6403c 3 = Except.ok (Instr.if_acmp .ne 10, 3) := vyd_166 (vyb_cJ7_copyOf_6403c_0 (i := 3) rfl) (vyb_cJ7_copyOf_6403c_0 (i := 4) rfl) (vyb_cJ7_copyOf_6403c_0 (i := 5) rfl) (by decide +kernel)
theorem dJ7_copyOf_6403c_6 : decode cJ7_copyOf_6403c 6 = Except.ok (Instr.iload_n 1, 1) := vyd_27 (vyb_cJ7_copyOf_6403c_0 (i := 6) rfl)
theorem dJ7_copyOf_6403c_7 : decode cJ7_copyOf_6403c 7 = Except.ok (Instr.anewarray 2, 3) := vyd_189 (vyb_cJ7_copyOf_6403c_0 (i := 7) rfl) (vyb_cJ7_copyOf_6403c_0 (i := 8) rfl) (vyb_cJ7_copyOf_6403c_0 (i := 9) rfl) rfl
theorem dJ7_copyOf_6403c_10 : decode cJ7_copyOf_6403c 10 = Except.ok (Instr.goto 14, 3) := vyd_167 (vyb_cJ7_copyOf_6403c_1 (i := 0) rfl) (vyb_cJ7_copyOf_6403c_1 (i := 1) rfl) (vyb_cJ7_copyOf_6403c_1 (i := 2) rfl) (by decide +kernel)
theorem dJ7_copyOf_6403c_24 : decode cJ7_copyOf_6403c 24 = Except.ok (Instr.astore_n 3, 1) := vyd_78 (vyb_cJ7_copyOf_6403c_2 (i := 4) rfl)
theorem dJ7_copyOf_6403c_25 : decode cJ7_copyOf_6403c 25 = Except.ok (Instr.aload_n 0, 1) := vyd_42 (vyb_cJ7_copyOf_6403c_2 (i := 5) rfl)
theorem dJ7_copyOf_6403c_26 : decode cJ7_copyOf_6403c 26 = Except.ok (Instr.iconst 0, 1) := vyd_3 (vyb_cJ7_copyOf_6403c_2 (i := 6) rfl)
theorem dJ7_copyOf_6403c_27 : decode cJ7_copyOf_6403c 27 = Except.ok (Instr.aload_n 3, 1) := vyd_45 (vyb_cJ7_copyOf_6403c_2 (i := 7) rfl)
theorem dJ7_copyOf_6403c_28 : decode cJ7_copyOf_6403c 28 = Except.ok (Instr.iconst 0, 1) := vyd_3 (vyb_cJ7_copyOf_6403c_2 (i := 8) rfl)
theorem dJ7_copyOf_6403c_29 : decode cJ7_copyOf_6403c 29 = Except.ok (Instr.aload_n 0, 1) := vyd_42 (vyb_cJ7_copyOf_6403c_2 (i := 9) rfl)
theorem dJ7_copyOf_6403c_30 : decode cJ7_copyOf_6403c 30 = Except.ok (Instr.arraylength, 1) := vyd_190 (vyb_cJ7_copyOf_6403c_3 (i := 0) rfl)
theorem dJ7_copyOf_6403c_31 : decode cJ7_copyOf_6403c 31 = Except.ok (Instr.iload_n 1, 1) := vyd_27 (vyb_cJ7_copyOf_6403c_3 (i := 1) rfl)
theorem dJ7_copyOf_6403c_32 : decode cJ7_copyOf_6403c 32 = Except.ok (Instr.invokestatic 304, 3) := vyd_184 (vyb_cJ7_copyOf_6403c_3 (i := 2) rfl) (vyb_cJ7_copyOf_6403c_3 (i := 3) rfl) (vyb_cJ7_copyOf_6403c_3 (i := 4) rfl) rfl
theorem dJ7_copyOf_6403c_35 : decode cJ7_copyOf_6403c 35 = Except.ok (Instr.invokestatic 150, 3) := vyd_184 (vyb_cJ7_copyOf_6403c_3 (i := 5) rfl) (vyb_cJ7_copyOf_6403c_3 (i := 6) rfl) (vyb_cJ7_copyOf_6403c_3 (i := 7) rfl) rfl
theorem dJ7_copyOf_6403c_38 : decode cJ7_copyOf_6403c 38 = Except.ok (Instr.aload_n 3, 1) := vyd_45 (vyb_cJ7_copyOf_6403c_3 (i := 8) rfl)
theorem dJ7_copyOf_6403c_39 : decode cJ7_copyOf_6403c 39 = Except.ok (Instr.areturn, 1) := vyd_176 (vyb_cJ7_copyOf_6403c_3 (i := 9) rfl)
theorem vyb_cJ7_copyOf_9075b_0 {i : Nat} {b : UInt8} (h : ([0x1b, 0x2a, 0xbe, 0xa0, 0x00, 0x0b, 0x2a, 0xb6, 0x01, 0x36] : List UInt8)[i]? = some b) : vy_8 cJ7_copyOf_9075b (0 + i) b := vy_in (n := 10) (by decide +kernel) h
theorem vyb_cJ7_copyOf_9075b_1 {i : Nat} {b : UInt8} (h : ([0xc0, 0x01, 0x37, 0xb0, 0x1b, 0xbc, 0x08, 0x4d, 0x2a, 0x03] : List UInt8)[i]? = some b) : vy_8 cJ7_copyOf_9075b (10 + i) b := vy_in (n := 10) (by decide +kernel) h
theorem vyb_cJ7_copyOf_9075b_2 {i : Nat} {b : UInt8} (h : ([0x2c, 0x03, 0x2a, 0xbe, 0x1b, 0xb8, 0x01, 0x30, 0xb8, 0x00] : List UInt8)[i]? = some b) : vy_8 cJ7_copyOf_9075b (20 + i) b := vy_in (n := 10) (by decide +kernel) h
theorem vyb_cJ7_copyOf_9075b_3 {i : Nat} {b : UInt8} (h : ([0x96, 0x2c, 0xb0] : List UInt8)[i]? = some b) : vy_8 cJ7_copyOf_9075b (30 + i) b := vy_in (n := 3) (by decide +kernel) h
theorem dJ7_copyOf_9075b_0 : decode cJ7_copyOf_9075b 0 = Except.ok (Instr.iload_n 1, 1) := vyd_27 (vyb_cJ7_copyOf_9075b_0 (i := 0) rfl)
theorem dJ7_copyOf_9075b_1 : decode cJ7_copyOf_9075b 1 = Except.ok (Instr.aload_n 0, 1) := vyd_42 (vyb_cJ7_copyOf_9075b_0 (i := 1) rfl)
theorem dJ7_copyOf_9075b_2 : decode cJ7_copyOf_9075b 2 = Except.ok (Instr.arraylength, 1) := vyd_190 (vyb_cJ7_copyOf_9075b_0 (i := 2) rfl)
theorem dJ7_copyOf_9075b_3 : decode cJ7_copyOf_9075b 3 = Except.ok (Instr.if_icmp .ne 11, 3) := vyd_160 (vyb_cJ7_copyOf_9075b_0 (i := 3) rfl) (vyb_cJ7_copyOf_9075b_0 (i := 4) rfl) (vyb_cJ7_copyOf_9075b_0 (i := 5) rfl) (by decide +kernel)
theorem dJ7_copyOf_9075b_14 : decode cJ7_copyOf_9075b 14 = Except.ok (Instr.iload_n 1, 1) := vyd_27 (vyb_cJ7_copyOf_9075b_1 (i := 4) rfl)
theorem dJ7_copyOf_9075b_15 : decode cJ7_copyOf_9075b 15 = .ok (.newarray .byte, 2) := by decide +kernel
theorem dJ7_copyOf_9075b_17 : decode cJ7_copyOf_9075b 17 = Except.ok (Instr.astore_n 2, 1) := vyd_77 (vyb_cJ7_copyOf_9075b_1 (i := 7) rfl)
theorem dJ7_copyOf_9075b_18 : decode cJ7_copyOf_9075b 18 = Except.ok (Instr.aload_n 0, 1) := vyd_42 (vyb_cJ7_copyOf_9075b_1 (i := 8) rfl)
theorem dJ7_copyOf_9075b_19 : decode cJ7_copyOf_9075b 19 = Except.ok (Instr.iconst 0, 1) := vyd_3 (vyb_cJ7_copyOf_9075b_1 (i := 9) rfl)
theorem dJ7_copyOf_9075b_20 : decode cJ7_copyOf_9075b 20 = Except.ok (Instr.aload_n 2, 1) := vyd_44 (vyb_cJ7_copyOf_9075b_2 (i := 0) rfl)
theorem dJ7_copyOf_9075b_21 : decode cJ7_copyOf_9075b 21 = Except.ok (Instr.iconst 0, 1) := vyd_3 (vyb_cJ7_copyOf_9075b_2 (i := 1) rfl)
theorem dJ7_copyOf_9075b_22 : decode cJ7_copyOf_9075b 22 = Except.ok (Instr.aload_n 0, 1) := vyd_42 (vyb_cJ7_copyOf_9075b_2 (i := 2) rfl)
theorem dJ7_copyOf_9075b_23 : decode cJ7_copyOf_9075b 23 = Except.ok (Instr.arraylength, 1) := vyd_190 (vyb_cJ7_copyOf_9075b_2 (i := 3) rfl)
theorem dJ7_copyOf_9075b_24 : decode cJ7_copyOf_9075b 24 = Except.ok (Instr.iload_n 1, 1) := vyd_27 (vyb_cJ7_copyOf_9075b_2 (i := 4) rfl)
theorem dJ7_copyOf_9075b_25 : decode cJ7_copyOf_9075b 25 = Except.ok (Instr.invokestatic 304, 3) := vyd_184 (vyb_cJ7_copyOf_9075b_2 (i := 5) rfl) (vyb_cJ7_copyOf_9075b_2 (i := 6) rfl) (vyb_cJ7_copyOf_9075b_2 (i := 7) rfl) rfl
theorem dJ7_copyOf_9075b_28 : decode cJ7_copyOf_9075b 28 = Except.ok (Instr.invokestatic 150, 3) := vyd_184 (vyb_cJ7_copyOf_9075b_2 (i := 8) rfl) (vyb_cJ7_copyOf_9075b_2 (i := 9) rfl) (vyb_cJ7_copyOf_9075b_3 (i := 0) rfl) rfl
theorem dJ7_copyOf_9075b_31 : decode cJ7_copyOf_9075b 31 = Except.ok (Instr.aload_n 2, 1) := vyd_44 (vyb_cJ7_copyOf_9075b_3 (i := 1) rfl)
theorem dJ7_copyOf_9075b_32 : decode cJ7_copyOf_9075b 32 = Except.ok (Instr.areturn, 1) := vyd_176 (vyb_cJ7_copyOf_9075b_3 (i := 2) rfl)
theorem vyb_cJ7_checkLength_df160_0 {i : Nat} {b : UInt8} (h : ([0x1b, 0x1a, 0xa2, 0x00, 0x23, 0xbb, 0x00, 0x2b, 0x59, 0xbb] : List UInt8)[i]? = some b) : vy_8 cJ7_checkLength_df160 (0 + i) b := vy_in (n := 10) (by decide +kernel) h
theorem vyb_cJ7_checkLength_df160_1 {i : Nat} {b : UInt8} (h : ([0x00, 0x2d, 0x59, 0xb7, 0x00, 0x2f, 0x1a, 0xb6, 0x00, 0x36] : List UInt8)[i]? = some b) : vy_8 cJ7_checkLength_df160 (10 + i) b := vy_in (n := 10) (by decide +kernel) h
theorem vyb_cJ7_checkLength_df160_2 {i : Nat} {b : UInt8} (h : ([0x13, 0x01, 0x51, 0xb6, 0x00, 0x32, 0x1b, 0xb6, 0x00, 0x36] : List UInt8)[i]? = some b) : vy_8 cJ7_checkLength_df160 (20 + i) b := vy_in (n := 10) (by decide +kernel) h
theorem vyb_cJ7_checkLength_df160_3 {i : Nat} {b : UInt8} (h : ([0xb6, 0x00, 0x3d, 0xb7, 0x00, 0x41, 0xbf, 0xb1] : List UInt8)[i]? = some b) : vy_8 cJ7_checkLength_df160 (30 + i) b := vy_in (n := 8) (by decide +kernel) h
theorem dJ7_checkLength_df160_0 : decode cJ7_checkLength_df160 0 = Except.ok (Instr.iload_n 1, 1) := vyd_27 (vyb_cJ7_checkLength_df160_0 (i := 0) rfl)
theorem dJ7_checkLength_df160_1 : decode cJ7_checkLength_df160 1 = Except.ok (Instr.iload_n 0, 1) := vyd_26 (vyb_cJ7_checkLength_df160_0 (i := 1) rfl)
theorem dJ7_checkLength_df160_2 : decode cJ7_checkLength_df160 2 = Except.ok (Instr.if_icmp .ge 35, 3) := vyd_162 (vyb_cJ7_checkLength_df160_0 (i := 2) rfl) (vyb_cJ7_checkLength_df160_0 (i := 3) rfl) (vyb_cJ7_checkLength_df160_0 (i := 4) rfl) (by decide +kernel)
theorem dJ7_checkLength_df160_37 : decode cJ7_checkLength_df160 37 = Except.ok (Instr.return_, 1) := vyd_177 (vyb_cJ7_checkLength_df160_3 (i := 7) rfl)
theorem vyb_cJ7_copyOfRange_39247_0 {i : Nat} {b : UInt8} (h : ([0x1b, 0x9a, 0x00, 0x09, 0x1c, 0x2a, 0xbe, 0x9f, 0x00, 0x0a] : List UInt8)[i]? = some b) : vy_8 cJ7_copyOfRange_39247 (0 + i) b := vy_in (n := 10) (by decide +kernel) h
theorem vyb_cJ7_copyOfRange_39247_1 {i : Nat} {b : UInt8} (h : ([0x2a, 0x1b, 0x1c, 0xb8, 0x01, 0x53, 0xb0, 0x2a, 0xb6, 0x01] : List UInt8)[i]? = some b) : vy_8 cJ7_copyOfRange_39247 (10 + i) b := vy_in (n := 10) (by decide +kernel) h
theorem vyb_cJ7_copyOfRange_39247_2 {i : Nat} {b : UInt8} (h : ([0x36, 0xc0, 0x01, 0x37, 0xb0] : List UInt8)[i]? = some b) : vy_8 cJ7_copyOfRange_39247 (20 + i) b := vy_in (n := 5) (by decide +kernel) h
theorem dJ7_copyOfRange_39247_0 : decode cJ7_copyOfRange_39247 0 = Except.ok (Instr.iload_n 1, 1) := vyd_27 (vyb_cJ7_copyOfRange_39247_0 (i := 0) rfl)
theorem dJ7_copyOfRange_39247_1 : decode cJ7_copyOfRange_39247 1 = Except.ok (Instr.ifCond .ne 9, 3) := vyd_154 (vyb_cJ7_copyOfRange_39247_0 (i := 1) rfl) (vyb_cJ7_copyOfRange_39247_0 (i := 2) rfl) (vyb_cJ7_copyOfRange_39247_0 (i := 3) rfl) (by decide +kernel)
theorem dJ7_copyOfRange_39247_4 : decode cJ7_copyOfRange_39247 4 = Except.ok (Instr.iload_n 2, 1) := vyd_28 (vyb_cJ7_copyOfRange_39247_0 (i := 4) rfl)
theorem dJ7_copyOfRange_39247_5 : decode cJ7_copyOfRange_39247 5 = Except.ok (Instr.aload_n 0, 1) := vyd_42 (vyb_cJ7_copyOfRange_39247_0 (i := 5) rfl)
theorem dJ7_copyOfRange_39247_6 : decode cJ7_copyOfRange_39247 6 = Except.ok (Instr.arraylength, 1) := vyd_190 (vyb_cJ7_copyOfRange_39247_0 (i := 6) rfl)
theorem dJ7_copyOfRange_39247_7 : decode cJ7_copyOfRange_39247 7 = Except.ok (Instr.if_icmp .eq 10, 3) := vyd_159 (vyb_cJ7_copyOfRange_39247_0 (i := 7) rfl) (vyb_cJ7_copyOfRange_39247_0 (i := 8) rfl) (vyb_cJ7_copyOfRange_39247_0 (i := 9) rfl) (by decide +kernel)
theorem dJ7_copyOfRange_39247_10 : decode cJ7_copyOfRange_39247 10 = Except.ok (Instr.aload_n 0, 1) := vyd_42 (vyb_cJ7_copyOfRange_39247_1 (i := 0) rfl)
theorem dJ7_copyOfRange_39247_11 : decode cJ7_copyOfRange_39247 11 = Except.ok (Instr.iload_n 1, 1) := vyd_27 (vyb_cJ7_copyOfRange_39247_1 (i := 1) rfl)
theorem dJ7_copyOfRange_39247_12 : decode cJ7_copyOfRange_39247 12 = Except.ok (Instr.iload_n 2, 1) := vyd_28 (vyb_cJ7_copyOfRange_39247_1 (i := 2) rfl)
theorem dJ7_copyOfRange_39247_13 : decode cJ7_copyOfRange_39247 13 = Except.ok (Instr.invokestatic 339, 3) := vyd_184 (vyb_cJ7_copyOfRange_39247_1 (i := 3) rfl) (vyb_cJ7_copyOfRange_39247_1 (i := 4) rfl) (vyb_cJ7_copyOfRange_39247_1 (i := 5) rfl) rfl
theorem dJ7_copyOfRange_39247_16 : decode cJ7_copyOfRange_39247 16 = Except.ok (Instr.areturn, 1) := vyd_176 (vyb_cJ7_copyOfRange_39247_1 (i := 6) rfl)
theorem dJ7_copyOfRange_39247_17 : decode cJ7_copyOfRange_39247 17 = Except.ok (Instr.aload_n 0, 1) := vyd_42 (vyb_cJ7_copyOfRange_39247_1 (i := 7) rfl)
theorem dJ7_copyOfRange_39247_18 : decode cJ7_copyOfRange_39247 18 = Except.ok (Instr.invokevirtual 310, 3) := vyd_182 (vyb_cJ7_copyOfRange_39247_1 (i := 8) rfl) (vyb_cJ7_copyOfRange_39247_1 (i := 9) rfl) (vyb_cJ7_copyOfRange_39247_2 (i := 0) rfl) rfl
theorem dJ7_copyOfRange_39247_21 : decode cJ7_copyOfRange_39247 21 = Except.ok (Instr.checkcast 311, 3) := vyd_192 (vyb_cJ7_copyOfRange_39247_2 (i := 1) rfl) (vyb_cJ7_copyOfRange_39247_2 (i := 2) rfl) (vyb_cJ7_copyOfRange_39247_2 (i := 3) rfl) rfl
theorem dJ7_copyOfRange_39247_24 : decode cJ7_copyOfRange_39247 24 = Except.ok (Instr.areturn, 1) := vyd_176 (vyb_cJ7_copyOfRange_39247_2 (i := 4) rfl)
theorem vyb_cJ7_copyOfRangeByte_39247_0 {i : Nat} {b : UInt8} (h : ([0x1b, 0x1c, 0xb8, 0x01, 0x57, 0x1c, 0x1b, 0x64, 0x3e, 0x1d] : List UInt8)[i]? = some b) : vy_8 cJ7_copyOfRangeByte_39247 (0 + i) b := vy_in (n := 10) (by decide +kernel) h
theorem vyb_cJ7_copyOfRangeByte_39247_1 {i : Nat} {b : UInt8} (h : ([0xbc, 0x08, 0x3a, 0x04, 0x2a, 0x1b, 0x19, 0x04, 0x03, 0x2a] : List UInt8)[i]? = some b) : vy_8 cJ7_copyOfRangeByte_39247 (10 + i) b := vy_in (n := 10) (by decide +kernel) h
theorem vyb_cJ7_copyOfRangeByte_39247_2 {i : Nat} {b : UInt8} (h : ([0xbe, 0x1b, 0x64, 0x1d, 0xb8, 0x01, 0x30, 0xb8, 0x00, 0x96] : List UInt8)[i]? = some b) : vy_8 cJ7_copyOfRangeByte_39247 (20 + i) b := vy_in (n := 10) (by decide +kernel) h
theorem vyb_cJ7_copyOfRangeByte_39247_3 {i : Nat} {b : UInt8} (h : ([0x19, 0x04, 0xb0] : List UInt8)[i]? = some b) : vy_8 cJ7_copyOfRangeByte_39247 (30 + i) b := vy_in (n := 3) (by decide +kernel) h
theorem dJ7_copyOfRangeByte_39247_0 : decode cJ7_copyOfRangeByte_39247 0 = Except.ok (Instr.iload_n 1, 1) := vyd_27 (vyb_cJ7_copyOfRangeByte_39247_0 (i := 0) rfl)
theorem dJ7_copyOfRangeByte_39247_1 : decode cJ7_copyOfRangeByte_39247 1 = Except.ok (Instr.iload_n 2, 1) := vyd_28 (vyb_cJ7_copyOfRangeByte_39247_0 (i := 1) rfl)
theorem dJ7_copyOfRangeByte_39247_2 : decode cJ7_copyOfRangeByte_39247 2 = Except.ok (Instr.invokestatic 343, 3) := vyd_184 (vyb_cJ7_copyOfRangeByte_39247_0 (i := 2) rfl) (vyb_cJ7_copyOfRangeByte_39247_0 (i := 3) rfl) (vyb_cJ7_copyOfRangeByte_39247_0 (i := 4) rfl) rfl
theorem dJ7_copyOfRangeByte_39247_5 : decode cJ7_copyOfRangeByte_39247 5 = Except.ok (Instr.iload_n 2, 1) := vyd_28 (vyb_cJ7_copyOfRangeByte_39247_0 (i := 5) rfl)
theorem dJ7_copyOfRangeByte_39247_6 : decode cJ7_copyOfRangeByte_39247 6 = Except.ok (Instr.iload_n 1, 1) := vyd_27 (vyb_cJ7_copyOfRangeByte_39247_0 (i := 6) rfl)
theorem dJ7_copyOfRangeByte_39247_7 : decode cJ7_copyOfRangeByte_39247 7 = Except.ok (Instr.isub, 1) := vyd_100 (vyb_cJ7_copyOfRangeByte_39247_0 (i := 7) rfl)
theorem dJ7_copyOfRangeByte_39247_8 : decode cJ7_copyOfRangeByte_39247 8 = Except.ok (Instr.istore_n 3, 1) := vyd_62 (vyb_cJ7_copyOfRangeByte_39247_0 (i := 8) rfl)
theorem dJ7_copyOfRangeByte_39247_9 : decode cJ7_copyOfRangeByte_39247 9 = Except.ok (Instr.iload_n 3, 1) := vyd_29 (vyb_cJ7_copyOfRangeByte_39247_0 (i := 9) rfl)
theorem dJ7_copyOfRangeByte_39247_10 : decode cJ7_copyOfRangeByte_39247 10 = .ok (.newarray .byte, 2) := by decide +kernel
theorem dJ7_copyOfRangeByte_39247_12 : decode cJ7_copyOfRangeByte_39247 12 = Except.ok (Instr.astore 4, 2) := vyd_58 (vyb_cJ7_copyOfRangeByte_39247_1 (i := 2) rfl) (vyb_cJ7_copyOfRangeByte_39247_1 (i := 3) rfl) rfl
theorem dJ7_copyOfRangeByte_39247_14 : decode cJ7_copyOfRangeByte_39247 14 = Except.ok (Instr.aload_n 0, 1) := vyd_42 (vyb_cJ7_copyOfRangeByte_39247_1 (i := 4) rfl)
theorem dJ7_copyOfRangeByte_39247_15 : decode cJ7_copyOfRangeByte_39247 15 = Except.ok (Instr.iload_n 1, 1) := vyd_27 (vyb_cJ7_copyOfRangeByte_39247_1 (i := 5) rfl)
theorem dJ7_copyOfRangeByte_39247_16 : decode cJ7_copyOfRangeByte_39247 16 = Except.ok (Instr.aload 4, 2) := vyd_25 (vyb_cJ7_copyOfRangeByte_39247_1 (i := 6) rfl) (vyb_cJ7_copyOfRangeByte_39247_1 (i := 7) rfl) rfl
theorem dJ7_copyOfRangeByte_39247_18 : decode cJ7_copyOfRangeByte_39247 18 = Except.ok (Instr.iconst 0, 1) := vyd_3 (vyb_cJ7_copyOfRangeByte_39247_1 (i := 8) rfl)
theorem dJ7_copyOfRangeByte_39247_19 : decode cJ7_copyOfRangeByte_39247 19 = Except.ok (Instr.aload_n 0, 1) := vyd_42 (vyb_cJ7_copyOfRangeByte_39247_1 (i := 9) rfl)
theorem dJ7_copyOfRangeByte_39247_20 : decode cJ7_copyOfRangeByte_39247 20 = Except.ok (Instr.arraylength, 1) := vyd_190 (vyb_cJ7_copyOfRangeByte_39247_2 (i := 0) rfl)
theorem dJ7_copyOfRangeByte_39247_21 : decode cJ7_copyOfRangeByte_39247 21 = Except.ok (Instr.iload_n 1, 1) := vyd_27 (vyb_cJ7_copyOfRangeByte_39247_2 (i := 1) rfl)
theorem dJ7_copyOfRangeByte_39247_22 : decode cJ7_copyOfRangeByte_39247 22 = Except.ok (Instr.isub, 1) := vyd_100 (vyb_cJ7_copyOfRangeByte_39247_2 (i := 2) rfl)
theorem dJ7_copyOfRangeByte_39247_23 : decode cJ7_copyOfRangeByte_39247 23 = Except.ok (Instr.iload_n 3, 1) := vyd_29 (vyb_cJ7_copyOfRangeByte_39247_2 (i := 3) rfl)
theorem dJ7_copyOfRangeByte_39247_24 : decode cJ7_copyOfRangeByte_39247 24 = Except.ok (Instr.invokestatic 304, 3) := vyd_184 (vyb_cJ7_copyOfRangeByte_39247_2 (i := 4) rfl) (vyb_cJ7_copyOfRangeByte_39247_2 (i := 5) rfl) (vyb_cJ7_copyOfRangeByte_39247_2 (i := 6) rfl) rfl
theorem dJ7_copyOfRangeByte_39247_27 : decode cJ7_copyOfRangeByte_39247 27 = Except.ok (Instr.invokestatic 150, 3) := vyd_184 (vyb_cJ7_copyOfRangeByte_39247_2 (i := 7) rfl) (vyb_cJ7_copyOfRangeByte_39247_2 (i := 8) rfl) (vyb_cJ7_copyOfRangeByte_39247_2 (i := 9) rfl) rfl
theorem dJ7_copyOfRangeByte_39247_30 : decode cJ7_copyOfRangeByte_39247 30 = Except.ok (Instr.aload 4, 2) := vyd_25 (vyb_cJ7_copyOfRangeByte_39247_3 (i := 0) rfl) (vyb_cJ7_copyOfRangeByte_39247_3 (i := 1) rfl) rfl
theorem dJ7_copyOfRangeByte_39247_32 : decode cJ7_copyOfRangeByte_39247 32 = Except.ok (Instr.areturn, 1) := vyd_176 (vyb_cJ7_copyOfRangeByte_39247_3 (i := 2) rfl)
theorem vyb_cJ15_checkIndex_7cf53_0 {i : Nat} {b : UInt8} (h : ([0x1a, 0x1b, 0x01, 0xb8, 0x00, 0x69, 0xac] : List UInt8)[i]? = some b) : vy_8 cJ15_checkIndex_7cf53 (0 + i) b := vy_in (n := 7) (by decide +kernel) h
theorem dJ15_checkIndex_7cf53_0 : decode cJ15_checkIndex_7cf53 0 = Except.ok (Instr.iload_n 0, 1) := vyd_26 (vyb_cJ15_checkIndex_7cf53_0 (i := 0) rfl)
theorem dJ15_checkIndex_7cf53_1 : decode cJ15_checkIndex_7cf53 1 = Except.ok (Instr.iload_n 1, 1) := vyd_27 (vyb_cJ15_checkIndex_7cf53_0 (i := 1) rfl)
theorem dJ15_checkIndex_7cf53_2 : decode cJ15_checkIndex_7cf53 2 = Except.ok (Instr.aconst_null, 1) := vyd_1 (vyb_cJ15_checkIndex_7cf53_0 (i := 2) rfl)
theorem dJ15_checkIndex_7cf53_3 : decode cJ15_checkIndex_7cf53 3 = Except.ok (Instr.invokestatic 105, 3) := vyd_184 (vyb_cJ15_checkIndex_7cf53_0 (i := 3) rfl) (vyb_cJ15_checkIndex_7cf53_0 (i := 4) rfl) (vyb_cJ15_checkIndex_7cf53_0 (i := 5) rfl) rfl
theorem dJ15_checkIndex_7cf53_6 : decode cJ15_checkIndex_7cf53 6 = Except.ok (Instr.ireturn, 1) := vyd_172 (vyb_cJ15_checkIndex_7cf53_0 (i := 6) rfl)
theorem vyb_cJ8_newLength_cabcc_0 {i : Nat} {b : UInt8} (h : ([0x1a, 0x1b, 0x1c, 0xb8, 0x00, 0xc2, 0x60, 0x3e, 0x03, 0x1d] : List UInt8)[i]? = some b) : vy_8 cJ8_newLength_cabcc (0 + i) b := vy_in (n := 10) (by decide +kernel) h
theorem vyb_cJ8_newLength_cabcc_1 {i : Nat} {b : UInt8} (h : ([0xa2, 0x00, 0x0b, 0x1d, 0x12, 0xc8, 0xa3, 0x00, 0x05, 0x1d] : List UInt8)[i]? = some b) : vy_8 cJ8_newLength_cabcc (10 + i) b := vy_in (n := 10) (by decide +kernel) h
theorem vyb_cJ8_newLength_cabcc_2 {i : Nat} {b : UInt8} (h : ([0xac, 0x1a, 0x1b, 0xb8, 0x00, 0xc9, 0xac] : List UInt8)[i]? = some b) : vy_8 cJ8_newLength_cabcc (20 + i) b := vy_in (n := 7) (by decide +kernel) h
theorem dJ8_newLength_cabcc_0 : decode cJ8_newLength_cabcc 0 = Except.ok (Instr.iload_n 0, 1) := vyd_26 (vyb_cJ8_newLength_cabcc_0 (i := 0) rfl)
theorem dJ8_newLength_cabcc_1 : decode cJ8_newLength_cabcc 1 = Except.ok (Instr.iload_n 1, 1) := vyd_27 (vyb_cJ8_newLength_cabcc_0 (i := 1) rfl)
theorem dJ8_newLength_cabcc_2 : decode cJ8_newLength_cabcc 2 = Except.ok (Instr.iload_n 2, 1) := vyd_28 (vyb_cJ8_newLength_cabcc_0 (i := 2) rfl)
theorem dJ8_newLength_cabcc_3 : decode cJ8_newLength_cabcc 3 = Except.ok (Instr.invokestatic 194, 3) := vyd_184 (vyb_cJ8_newLength_cabcc_0 (i := 3) rfl) (vyb_cJ8_newLength_cabcc_0 (i := 4) rfl) (vyb_cJ8_newLength_cabcc_0 (i := 5) rfl) rfl
theorem dJ8_newLength_cabcc_6 : decode cJ8_newLength_cabcc 6 = Except.ok (Instr.iadd, 1) := vyd_96 (vyb_cJ8_newLength_cabcc_0 (i := 6) rfl)
theorem dJ8_newLength_cabcc_7 : decode cJ8_newLength_cabcc 7 = Except.ok (Instr.istore_n 3, 1) := vyd_62 (vyb_cJ8_newLength_cabcc_0 (i := 7) rfl)
theorem dJ8_newLength_cabcc_8 : decode cJ8_newLength_cabcc 8 = Except.ok (Instr.iconst 0, 1) := vyd_3 (vyb_cJ8_newLength_cabcc_0 (i := 8) rfl)
theorem dJ8_newLength_cabcc_9 : decode cJ8_newLength_cabcc 9 = Except.ok (Instr.iload_n 3, 1) := vyd_29 (vyb_cJ8_newLength_cabcc_0 (i := 9) rfl)
theorem dJ8_newLength_cabcc_10 : decode cJ8_newLength_cabcc 10 = Except.ok (Instr.if_icmp .ge 11, 3) := vyd_162 (vyb_cJ8_newLength_cabcc_1 (i := 0) rfl) (vyb_cJ8_newLength_cabcc_1 (i := 1) rfl) (vyb_cJ8_newLength_cabcc_1 (i := 2) rfl) (by decide +kernel)
theorem dJ8_newLength_cabcc_13 : decode cJ8_newLength_cabcc 13 = Except.ok (Instr.iload_n 3, 1) := vyd_29 (vyb_cJ8_newLength_cabcc_1 (i := 3) rfl)
theorem dJ8_newLength_cabcc_14 : decode cJ8_newLength_cabcc 14 = Except.ok (Instr.ldc 200, 2) := vyd_18 (vyb_cJ8_newLength_cabcc_1 (i := 4) rfl) (vyb_cJ8_newLength_cabcc_1 (i := 5) rfl) rfl
theorem dJ8_newLength_cabcc_16 : decode cJ8_newLength_cabcc 16 = Except.ok (Instr.if_icmp .gt 5, 3) := vyd_163 (vyb_cJ8_newLength_cabcc_1 (i := 6) rfl) (vyb_cJ8_newLength_cabcc_1 (i := 7) rfl) (vyb_cJ8_newLength_cabcc_1 (i := 8) rfl) (by decide +kernel)
theorem dJ8_newLength_cabcc_19 : decode cJ8_newLength_cabcc 19 = Except.ok (Instr.iload_n 3, 1) := vyd_29 (vyb_cJ8_newLength_cabcc_1 (i := 9) rfl)
theorem dJ8_newLength_cabcc_20 : decode cJ8_newLength_cabcc 20 = Except.ok (Instr.ireturn, 1) := vyd_172 (vyb_cJ8_newLength_cabcc_2 (i := 0) rfl)
theorem vyb_cJ3_checkIndex_8e157_0 {i : Nat} {b : UInt8} (h : ([0x1a, 0x9b, 0x00, 0x08, 0x1a, 0x1b, 0xa1, 0x00, 0x0a, 0x2c] : List UInt8)[i]? = some b) : vy_8 cJ3_checkIndex_8e157 (0 + i) b := vy_in (n := 10) (by decide +kernel) h
theorem vyb_cJ3_checkIndex_8e157_1 {i : Nat} {b : UInt8} (h : ([0x1a, 0x1b, 0xb8, 0x00, 0x5f, 0xbf, 0x1a, 0xac] : List UInt8)[i]? = some b) : vy_8 cJ3_checkIndex_8e157 (10 + i) b := vy_in (n := 8) (by decide +kernel) h
theorem dJ3_checkIndex_8e157_0 : decode cJ3_checkIndex_8e157 0 = Except.ok (Instr.iload_n 0, 1) := vyd_26 (vyb_cJ3_checkIndex_8e157_0 (i := 0) rfl)
theorem dJ3_checkIndex_8e157_1 : decode cJ3_checkIndex_8e157 1 = Except.ok (Instr.ifCond .lt 8, 3) := vyd_155 (vyb_cJ3_checkIndex_8e157_0 (i := 1) rfl) (vyb_cJ3_checkIndex_8e157_0 (i := 2) rfl) (vyb_cJ3_checkIndex_8e157_0 (i := 3) rfl) (by decide +kernel)
theorem dJ3_checkIndex_8e157_4 : decode cJ3_checkIndex_8e157 4 = Except.ok (Instr.iload_n 0, 1) := vyd_26 (vyb_cJ3_checkIndex_8e157_0 (i := 4) rfl)
theorem dJ3_checkIndex_8e157_5 : decode cJ3_checkIndex_8e157 5 = Except.ok (Instr.iload_n 1, 1) := vyd_27 (vyb_cJ3_checkIndex_8e157_0 (i := 5) rfl)
theorem dJ3_checkIndex_8e157_6 : decode cJ3_checkIndex_8e157 6 = Except.ok (Instr.if_icmp .lt 10, 3) := vyd_161 (vyb_cJ3_checkIndex_8e157_0 (i := 6) rfl) (vyb_cJ3_checkIndex_8e157_0 (i := 7) rfl) (vyb_cJ3_checkIndex_8e157_0 (i := 8) rfl) (by decide +kernel)
theorem dJ3_checkIndex_8e157_16 : decode cJ3_checkIndex_8e157 16 = Except.ok (Instr.iload_n 0, 1) := vyd_26 (vyb_cJ3_checkIndex_8e157_1 (i := 6) rfl)
theorem dJ3_checkIndex_8e157_17 : decode cJ3_checkIndex_8e157 17 = Except.ok (Instr.ireturn, 1) := vyd_172 (vyb_cJ3_checkIndex_8e157_1 (i := 7) rfl)
end
section
/-! ArrayList, Integer: contracts over the pool -/
theorem met_mono {l : Launch} {y : MethodName} {ws : List Cond} {rm : Room} {Pc : Array Value → State → Prop} {Qc Qc' : Array Value → State → Outcome → State → Prop} {mc ms : Nat} {free : Addr → Prop} (h : Met l y ws rm Pc Qc mc ms free) (hq : ∀ a st o t, Qc a st o t → Qc' a st o t) : Met l y ws rm Pc Qc' mc ms free := by
  intro p e a b c s m args below hf ha hP hK
  obtain ⟨n, o, h1, h2, h3, h4, h5⟩ := h p e a b c s m args below hf ha hP hK
  exact ⟨n, o, h1, h2, h3, hq _ _ _ _ h4, h5⟩
theorem MtI.imp {l : Launch} {D : va_G} {cl : List vw_C} {tys : List (ClassId × FieldType)} {ζ : Nat → Nat} {y : MethodName} {bytes : ByteArray} {n d mc ms : Nat} {rt : Option FieldType} {av : List Value} {L : List Nat} {F : Nat → va_E} {post post' : Int32 → List Nat → (Nat → va_E) → Prop} (h : MtI l D cl tys ζ y bytes n rt d mc ms av L F post) (hp : ∀ r L' F', post r L' F' → post' r L' F') : MtI l D cl tys ζ y bytes n rt d mc ms av L F post' :=
  fun sz => met_mono (h sz) (fun a st o t hq => by obtain ⟨⟨r, u, h1, h2, h3⟩, h4⟩ := hq; exact ⟨⟨r, u, h1, hp _ _ _ h2, h3⟩, h4⟩)
theorem MtV.imp {l : Launch} {D : va_G} {cl : List vw_C} {tys : List (ClassId × FieldType)} {ζ : Nat → Nat} {y : MethodName} {bytes : ByteArray} {n d mc ms : Nat} {rt : Option FieldType} {av : List Value} {L : List Nat} {F : Nat → va_E} {post post' : List Nat → (Nat → va_E) → Prop} (h : MtV l D cl tys ζ y bytes n rt d mc ms av L F post) (hp : ∀ L' F', post L' F' → post' L' F') : MtV l D cl tys ζ y bytes n rt d mc ms av L F post' :=
  fun sz => met_mono (h sz) (fun a st o t hq => by obtain ⟨⟨u, h1, h2, h3⟩, h4⟩ := hq; exact ⟨⟨u, h1, hp _ _ h2, h3⟩, h4⟩)
theorem MtR.imp {l : Launch} {D : va_G} {cl : List vw_C} {tys : List (ClassId × FieldType)} {ζ : Nat → Nat} {y : MethodName} {bytes : ByteArray} {n d mc ms : Nat} {rt : Option FieldType} {av : List Value} {L : List Nat} {F : Nat → va_E} {post post' : Nat → List Nat → (Nat → va_E) → Prop} (h : MtR l D cl tys ζ y bytes n rt d mc ms av L F post) (hp : ∀ r L' F', post r L' F' → post' r L' F') : MtR l D cl tys ζ y bytes n rt d mc ms av L F post' :=
  fun sz => met_mono (h sz) (fun a st o t hq => by obtain ⟨⟨u, r, h1, h2, h3, h5⟩, h4⟩ := hq; exact ⟨⟨u, r, h1, h2, hp _ _ _ h3, h5⟩, h4⟩)
def RA (κ : Nat → ClassId) (h ar n : Nat) (f : Nat → Option Nat) (md sz : Int32) (L : List Nat) (F : Nat → va_E) : Prop := h ∈ L ∧ F h = .inr (4, [.int md, .ref ar, .int sz]) ∧ ar ∈ L ∧ h ≠ ar ∧ F ar = rfA (κ 3) n f
def RE (ζ : Nat → Nat) (h : Nat) (md sz : Int32) (L : List Nat) (F : Nat → va_E) : Prop := h ∈ L ∧ F h = .inr (4, [.int md, .ref (ζ 256), .int sz])
theorem bx_cell {D : va_G} {tys : List (ClassId × FieldType)} {s : State} {H : Heap} {locs : List Loc} {L0 L : List Nat} {F : Nat → va_E} {ζ : Nat → Nat} (hK : va_K D cls tys s) (hW : HW D cls L0 s H locs L F) (hST : ST ζ (AL L0 s.heap.size) s s.heap) {y : Nat} {v : Int32} (hb : bx ζ L F y v) : ∃ cellV : Cell, H[y]? = some cellV ∧ cellV.vm.isStatics = false ∧ s.vm.findClass "java/lang/Integer" = some cellV.cls := by
  rcases hb with ⟨h1, h2⟩ | ⟨k, hk, rfl, -⟩
  · exact pk_recv (r := (RJ6, TJ6, 1)) hK hW h1 h2 rfl
  · obtain ⟨cell, h1, h2, h3, h4⟩ := hST.2.cache.1 k hk
    have hlt : ζ k < s.heap.size := (Array.getElem?_eq_some_iff.mp h1).1
    exact ⟨cell, (hW.2.2.2.1 _ hlt h4).trans h1, h2, h3⟩

theorem mc_J3_checkIndex_8e157 : MCode yJ3_checkIndex_8e157 cJ3_checkIndex_8e157 3 (some .int) := ⟨wd_906, wd_22, by decide, by decide⟩
theorem np_J3_checkIndex_8e157 : (parseMethodDescriptor yJ3_checkIndex_8e157.desc).map (fun d => d.parameters.length) = some 3 := by decide +kernel
set_option maxHeartbeats 4000000 in
set_option maxRecDepth 100000 in
theorem c_J3_checkIndex_8e157 {l : Launch} {D : va_G} {κ : Nat → ClassId} {ζ : Nat → Nat} {L : List Nat} {F : Nat → va_E} {i len : Int32} (h0 : ¬ i < 0) (h1 : i < len) : MtI l D cls (ty5 κ) ζ yJ3_checkIndex_8e157 cJ3_checkIndex_8e157 3 (some .int) 1 0 0 ([.int i, .int len, .null] : List Value) L F (fun r L' F' => L = L' ∧ F = F' ∧ i = r) := by
  refine MtI.of (by decide) (Nat.le_of_ble_eq_true rfl) ?_
  intro p e s m below meth c S hr hlk hini hK hW hST ls hl
  have hl : lv_has ls 3 [(0, .int i), (1, .int len), (2, .null)] := hl
  refine lv_iload_n S.1 S.2.1 dJ3_checkIndex_8e157_0 rfl (lv_at hl 0 rfl) ?_
  refine lv_if_lt (tgt := 9) S.1 S.2.1 dJ3_checkIndex_8e157_1 (by decide) (fun c1 => absurd c1 h0) (fun _ => ?_)
  refine lv_iload_n S.1 S.2.1 dJ3_checkIndex_8e157_4 rfl (lv_at hl 0 rfl) ?_
  refine lv_iload_n S.1 S.2.1 dJ3_checkIndex_8e157_5 rfl (lv_at hl 1 rfl) ?_
  refine lv_icmp_lt (tgt := 16) S.1 S.2.1 dJ3_checkIndex_8e157_6 (by decide) (fun _ => ?_) (fun c1 => absurd h1 c1)
  refine lv_iload_n S.1 S.2.1 dJ3_checkIndex_8e157_16 rfl (lv_at hl 0 rfl) ?_
  exact pk_iret S hr hlk hW ⟨rfl, rfl, rfl⟩ (by decide) (by decide) dJ3_checkIndex_8e157_17
theorem mc_J15_checkIndex_7cf53 : MCode yJ15_checkIndex_7cf53 cJ15_checkIndex_7cf53 2 (some .int) := ⟨wd_1209, wd_21, by decide, by decide⟩
theorem np_J15_checkIndex_7cf53 : (parseMethodDescriptor yJ15_checkIndex_7cf53.desc).map (fun d => d.parameters.length) = some 2 := by decide +kernel
set_option maxHeartbeats 4000000 in
set_option maxRecDepth 100000 in
theorem c_J15_checkIndex_7cf53 {l : Launch} {D : va_G} {κ : Nat → ClassId} {ζ : Nat → Nat} {L : List Nat} {F : Nat → va_E} {i len : Int32} (h0 : ¬ i < 0) (h1 : i < len) : MtI l D cls (ty5 κ) ζ yJ15_checkIndex_7cf53 cJ15_checkIndex_7cf53 2 (some .int) 2 0 0 ([.int i, .int len] : List Value) L F (fun r L' F' => L = L' ∧ F = F' ∧ i = r) := by
  refine MtI.of (by decide) (Nat.le_of_ble_eq_true rfl) ?_
  intro p e s m below meth c S hr hlk hini hK hW hST ls hl
  have hl : lv_has ls 2 [(0, .int i), (1, .int len)] := hl
  refine lv_iload_n S.1 S.2.1 dJ15_checkIndex_7cf53_0 rfl (lv_at hl 0 rfl) ?_
  refine lv_iload_n S.1 S.2.1 dJ15_checkIndex_7cf53_1 rfl (lv_at hl 1 rfl) ?_
  refine lv_null S.1 S.2.1 dJ15_checkIndex_7cf53_2 ?_
  refine pk_cSI (As := [.int i, .int len, .null]) (rest := []) S hK hST hW (c_J3_checkIndex_8e157 h0 h1) mc_J3_checkIndex_8e157 wd_1210 wd_905 np_J3_checkIndex_8e157 rfl hl.1 rfl (Nat.le_of_ble_eq_true rfl) dJ15_checkIndex_7cf53_3 ⟨by decide, by decide⟩ ⟨by decide, by decide⟩ (fun r L_1 F_2 H_3 l_4 hp hW => ?_)
  obtain ⟨rfl, rfl, rfl⟩ := hp
  exact pk_iret S hr hlk hW ⟨rfl, rfl, rfl⟩ (by decide) (by decide) dJ15_checkIndex_7cf53_6
theorem mc_Jx4a65c_size_8abf5 : MCode yJx4a65c_size_8abf5 cJx4a65c_size_8abf5 1 (some .int) := ⟨wd_1218, wd_8, by decide, by decide⟩
theorem np_Jx4a65c_size_8abf5 : (parseMethodDescriptor yJx4a65c_size_8abf5.desc).map (fun d => d.parameters.length) = some 0 := by decide +kernel
set_option maxHeartbeats 4000000 in
set_option maxRecDepth 100000 in
theorem c_Jx4a65c_size_8abf5 {l : Launch} {D : va_G} {κ : Nat → ClassId} {ζ : Nat → Nat} {L : List Nat} {F : Nat → va_E} {h : Nat} {md sz : Int32} {rr : Nat} (m_h : h ∈ L) (e_h : F h = .inr (4, [.int md, .ref rr, .int sz])) : MtI l D cls (ty5 κ) ζ yJx4a65c_size_8abf5 cJx4a65c_size_8abf5 1 (some .int) 1 0 0 ([.ref h] : List Value) L F (fun r L' F' => L = L' ∧ F = F' ∧ sz = r) := by
  refine MtI.of (by decide) (Nat.le_of_ble_eq_true rfl) ?_
  intro p e s m below meth c S hr hlk hini hK hW hST ls hl
  have hl : lv_has ls 1 [(0, .ref h)] := hl
  refine lv_aload_n S.1 S.2.1 dJx4a65c_size_8abf5_0 rfl (lv_at hl 0 rfl) ?_
  refine pk_get S hK hW 2 m_h e_h rfl hinJx4a65c (by decide) wd_1085 rfl dJx4a65c_size_8abf5_1 ?_
  exact pk_iret S hr hlk hW ⟨rfl, rfl, rfl⟩ (by decide) (by decide) dJx4a65c_size_8abf5_4
theorem mc_Jx4a65c_isEmpty_aae02 : MCode yJx4a65c_isEmpty_aae02 cJx4a65c_isEmpty_aae02 1 (some .boolean) := ⟨wd_1357, wd_8, by decide, by decide⟩
theorem np_Jx4a65c_isEmpty_aae02 : (parseMethodDescriptor yJx4a65c_isEmpty_aae02.desc).map (fun d => d.parameters.length) = some 0 := by decide +kernel
set_option maxHeartbeats 4000000 in
set_option maxRecDepth 100000 in
theorem c_Jx4a65c_isEmpty_aae02 {l : Launch} {D : va_G} {κ : Nat → ClassId} {ζ : Nat → Nat} {L : List Nat} {F : Nat → va_E} {h : Nat} {md sz : Int32} {rr : Nat} (m_h : h ∈ L) (e_h : F h = .inr (4, [.int md, .ref rr, .int sz])) : MtI l D cls (ty5 κ) ζ yJx4a65c_isEmpty_aae02 cJx4a65c_isEmpty_aae02 1 (some .boolean) 1 0 0 ([.ref h] : List Value) L F (fun r L' F' => L = L' ∧ F = F' ∧ (if sz = 0 then (1 : Int32) else 0) = r) := by
  refine MtI.of (by decide) (Nat.le_of_ble_eq_true rfl) ?_
  intro p e s m below meth c S hr hlk hini hK hW hST ls hl
  have hl : lv_has ls 1 [(0, .ref h)] := hl
  refine lv_aload_n S.1 S.2.1 dJx4a65c_isEmpty_aae02_0 rfl (lv_at hl 0 rfl) ?_
  refine pk_get S hK hW 2 m_h e_h rfl hinJx4a65c (by decide) wd_1085 rfl dJx4a65c_isEmpty_aae02_1 ?_
  refine lv_if_ne (tgt := 11) S.1 S.2.1 dJx4a65c_isEmpty_aae02_4 (by decide) (fun c1 => ?_) (fun c1 => ?_)
  · refine lv_iconst (v := 0) S.1 S.2.1 dJx4a65c_isEmpty_aae02_11 (by decide) ?_
    exact pk_zret S hr hlk hW (by decide) ⟨rfl, rfl, by rw [if_neg c1]⟩ (by decide) (by decide) dJx4a65c_isEmpty_aae02_12
  · refine lv_iconst (v := 1) S.1 S.2.1 dJx4a65c_isEmpty_aae02_7 (by decide) ?_
    refine lv_goto (tgt := 12) S.1 S.2.1 dJx4a65c_isEmpty_aae02_8 (by decide) ?_
    exact pk_zret S hr hlk hW (by decide) ⟨rfl, rfl, by rw [if_pos c1]⟩ (by decide) (by decide) dJx4a65c_isEmpty_aae02_12
theorem mc_Jx4a65c_elementData_915e3 : MCode yJx4a65c_elementData_915e3 cJx4a65c_elementData_915e3 2 (some (.object "java/lang/Object")) := ⟨wd_1214, wd_8, by decide, by decide⟩
theorem np_Jx4a65c_elementData_915e3 : (parseMethodDescriptor yJx4a65c_elementData_915e3.desc).map (fun d => d.parameters.length) = some 1 := by decide +kernel
set_option maxHeartbeats 4000000 in
set_option maxRecDepth 100000 in
theorem c_Jx4a65c_elementData_915e3 {l : Launch} {D : va_G} {κ : Nat → ClassId} {ζ : Nat → Nat} {L : List Nat} {F : Nat → va_E} {h ar n : Nat} {f : Nat → Option Nat} {md sz : Int32} (hR : RA κ h ar n f md sz L F) {i : Int32} {y : Nat} (hin : vp_in i n) (hv : f i.toNatClampNeg = some y) : MtR l D cls (ty5 κ) ζ yJx4a65c_elementData_915e3 cJx4a65c_elementData_915e3 2 (some (.object "java/lang/Object")) 1 0 0 ([.ref h, .int i] : List Value) L F (fun r L' F' => L = L' ∧ F = F' ∧ y = r) := by
  refine MtR.of (by decide) (Nat.le_of_ble_eq_true rfl) ?_
  intro p e s m below meth c S hr hlk hini hK hW hST ls hl
  have hl : lv_has ls 2 [(0, .ref h), (1, .int i)] := hl
  obtain ⟨m_h, e_h, m_ar, n_h_ar, e_ar⟩ := hR
  refine lv_aload_n S.1 S.2.1 dJx4a65c_elementData_915e3_0 rfl (lv_at hl 0 rfl) ?_
  refine pk_get S hK hW 1 m_h e_h rfl hinJx4a65c (by decide) wd_1083 rfl dJx4a65c_elementData_915e3_1 ?_
  refine lv_iload_n S.1 S.2.1 dJx4a65c_elementData_915e3_4 rfl (lv_at hl 1 rfl) ?_
  refine pk_aald S hK hW 3 m_ar e_ar rfl hin hv dJx4a65c_elementData_915e3_5 ?_
  exact pk_rret S hr (Or.inl ⟨_, rfl⟩) hlk hW ⟨rfl, rfl, rfl⟩ (by decide) (by decide) dJx4a65c_elementData_915e3_6
theorem mc_Jx4a65c_get_915e3 : MCode yJx4a65c_get_915e3 cJx4a65c_get_915e3 2 (some (.object "java/lang/Object")) := ⟨wd_1206, wd_8, by decide, by decide⟩
theorem np_Jx4a65c_get_915e3 : (parseMethodDescriptor yJx4a65c_get_915e3.desc).map (fun d => d.parameters.length) = some 1 := by decide +kernel
set_option maxHeartbeats 4000000 in
set_option maxRecDepth 100000 in
theorem c_Jx4a65c_get_915e3 {l : Launch} {D : va_G} {κ : Nat → ClassId} {ζ : Nat → Nat} {L : List Nat} {F : Nat → va_E} {h ar n : Nat} {f : Nat → Option Nat} {md sz : Int32} (hR : RA κ h ar n f md sz L F) {i : Int32} {y : Nat} (h0 : ¬ i < 0) (h1 : i < sz) (hin : vp_in i n) (hv : f i.toNatClampNeg = some y) : MtR l D cls (ty5 κ) ζ yJx4a65c_get_915e3 cJx4a65c_get_915e3 2 (some (.object "java/lang/Object")) 3 0 0 ([.ref h, .int i] : List Value) L F (fun r L' F' => L = L' ∧ F = F' ∧ y = r) := by
  refine MtR.of (by decide) (Nat.le_of_ble_eq_true rfl) ?_
  intro p e s m below meth c S hr hlk hini hK hW hST ls hl
  have hl : lv_has ls 2 [(0, .ref h), (1, .int i)] := hl
  obtain ⟨m_h, e_h, m_ar, n_h_ar, e_ar⟩ := hR
  refine lv_iload_n S.1 S.2.1 dJx4a65c_get_915e3_0 rfl (lv_at hl 1 rfl) ?_
  refine lv_aload_n S.1 S.2.1 dJx4a65c_get_915e3_1 rfl (lv_at hl 0 rfl) ?_
  refine pk_get S hK hW 2 m_h e_h rfl hinJx4a65c (by decide) wd_1085 rfl dJx4a65c_get_915e3_2 ?_
  refine pk_cSI (As := [.int i, .int sz]) (rest := []) S hK hST hW (c_J15_checkIndex_7cf53 h0 h1) mc_J15_checkIndex_7cf53 wd_1207 wd_1208 np_J15_checkIndex_7cf53 rfl hl.1 rfl (Nat.le_of_ble_eq_true rfl) dJx4a65c_get_915e3_5 ⟨by decide, by decide⟩ ⟨by decide, by decide⟩ (fun r L_1 F_2 H_3 l_4 hp hW => ?_)
  obtain ⟨rfl, rfl, rfl⟩ := hp
  refine lv_pop S.1 S.2.1 dJx4a65c_get_915e3_8 rfl ?_
  refine lv_aload_n S.1 S.2.1 dJx4a65c_get_915e3_9 rfl (lv_at hl 0 rfl) ?_
  refine lv_iload_n S.1 S.2.1 dJx4a65c_get_915e3_10 rfl (lv_at hl 1 rfl) ?_
  refine pk_cVR (As := [.int i]) (rest := []) S hK hST hW (c_Jx4a65c_elementData_915e3 ⟨m_h, e_h, m_ar, n_h_ar, e_ar⟩ hin hv) mc_Jx4a65c_elementData_915e3 wd_1211 wd_1212 wd_1213 rfl np_Jx4a65c_elementData_915e3 m_h e_h rfl rfl hl.1 rfl (Nat.le_of_ble_eq_true rfl) dJx4a65c_get_915e3_11 ⟨by decide, by decide⟩ ⟨by decide, by decide⟩ (fun r L_5 F_6 H_7 l_8 hp hW => ?_)
  obtain ⟨rfl, rfl, rfl⟩ := hp
  exact pk_rret S hr (Or.inl ⟨_, rfl⟩) hlk hW ⟨rfl, rfl, rfl⟩ (by decide) (by decide) dJx4a65c_get_915e3_14
theorem mc_Jx4a65c_set_bcc79 : MCode yJx4a65c_set_bcc79 cJx4a65c_set_bcc79 4 (some (.object "java/lang/Object")) := ⟨wd_1448, wd_8, by decide, by decide⟩
theorem np_Jx4a65c_set_bcc79 : (parseMethodDescriptor yJx4a65c_set_bcc79.desc).map (fun d => d.parameters.length) = some 2 := by decide +kernel
set_option maxHeartbeats 4000000 in
set_option maxRecDepth 100000 in
theorem c_Jx4a65c_set_bcc79 {l : Launch} {D : va_G} {κ : Nat → ClassId} {ζ : Nat → Nat} {L : List Nat} {F : Nat → va_E} {h ar n : Nat} {f : Nat → Option Nat} {md sz : Int32} (hR : RA κ h ar n f md sz L F) {i : Int32} {y : Nat} (h0 : ¬ i < 0) (h1 : i < sz) (hin : vp_in i n) (hv : f i.toNatClampNeg = some y) {y2 : Nat} {v2 : Int32} (hb2 : bx ζ L F y2 v2) : MtR l D cls (ty5 κ) ζ yJx4a65c_set_bcc79 cJx4a65c_set_bcc79 4 (some (.object "java/lang/Object")) 3 0 0 ([.ref h, .int i, .ref y2] : List Value) L F (fun r L' F' => L = L' ∧ y = r ∧ RA κ h ar n (va_up f i.toNatClampNeg (some y2)) md sz L F' ∧ FrR h ar F F') := by
  refine MtR.of (by decide) (Nat.le_of_ble_eq_true rfl) ?_
  intro p e s m below meth c S hr hlk hini hK hW hST ls hl
  have hl : lv_has ls 4 [(0, .ref h), (1, .int i), (2, .ref y2)] := hl
  obtain ⟨m_h, e_h, m_ar, n_h_ar, e_ar⟩ := hR
  have hfr : ∀ q, q ≠ h → q ≠ ar → F q = F q := fun _ _ _ => rfl
  refine lv_iload_n S.1 S.2.1 dJx4a65c_set_bcc79_0 rfl (lv_at hl 1 rfl) ?_
  refine lv_aload_n S.1 S.2.1 dJx4a65c_set_bcc79_1 rfl (lv_at hl 0 rfl) ?_
  refine pk_get S hK hW 2 m_h e_h rfl hinJx4a65c (by decide) wd_1085 rfl dJx4a65c_set_bcc79_2 ?_
  refine pk_cSI (As := [.int i, .int sz]) (rest := []) S hK hST hW (c_J15_checkIndex_7cf53 h0 h1) mc_J15_checkIndex_7cf53 wd_1207 wd_1208 np_J15_checkIndex_7cf53 rfl hl.1 rfl (Nat.le_of_ble_eq_true rfl) dJx4a65c_set_bcc79_5 ⟨by decide, by decide⟩ ⟨by decide, by decide⟩ (fun r L_1 F_2 H_3 l_4 hp hW => ?_)
  obtain ⟨rfl, rfl, rfl⟩ := hp
  refine lv_pop S.1 S.2.1 dJx4a65c_set_bcc79_8 rfl ?_
  refine lv_aload_n S.1 S.2.1 dJx4a65c_set_bcc79_9 rfl (lv_at hl 0 rfl) ?_
  refine lv_iload_n S.1 S.2.1 dJx4a65c_set_bcc79_10 rfl (lv_at hl 1 rfl) ?_
  refine pk_cVR (As := [.int i]) (rest := []) S hK hST hW (c_Jx4a65c_elementData_915e3 ⟨m_h, e_h, m_ar, n_h_ar, e_ar⟩ hin hv) mc_Jx4a65c_elementData_915e3 wd_1211 wd_1212 wd_1213 rfl np_Jx4a65c_elementData_915e3 m_h e_h rfl rfl hl.1 rfl (Nat.le_of_ble_eq_true rfl) dJx4a65c_set_bcc79_11 ⟨by decide, by decide⟩ ⟨by decide, by decide⟩ (fun r L_5 F_6 H_7 l_8 hp hW => ?_)
  obtain ⟨rfl, rfl, rfl⟩ := hp
  refine lv_astore_n (lv' := [(3, .ref y), (0, .ref h), (1, .int i), (2, .ref y2)]) S.1 S.2.1 dJx4a65c_set_bcc79_14 rfl hl (Nat.le_of_ble_eq_true rfl) rfl (fun ls hl => ?_)
  refine lv_aload_n S.1 S.2.1 dJx4a65c_set_bcc79_15 rfl (lv_at hl 1 rfl) ?_
  refine pk_get S hK hW 1 m_h e_h rfl hinJx4a65c (by decide) wd_1083 rfl dJx4a65c_set_bcc79_16 ?_
  refine lv_iload_n S.1 S.2.1 dJx4a65c_set_bcc79_19 rfl (lv_at hl 2 rfl) ?_
  refine lv_aload_n S.1 S.2.1 dJx4a65c_set_bcc79_20 rfl (lv_at hl 3 rfl) ?_
  refine pk_aast S hK hW 3 m_ar e_ar rfl (bx_cell hK hW hST hb2) (hST.1.1 _ wn_26) hin dJx4a65c_set_bcc79_21 (fun H_9 l_10 hW => ?_)
  have e_h : (va_up F ar (rfA (κ 3) n (va_up f i.toNatClampNeg (some y2)))) h = .inr (4, [.int md, .ref ar, .int sz]) := (up_ne n_h_ar).trans e_h
  have e_ar : (va_up F ar (rfA (κ 3) n (va_up f i.toNatClampNeg (some y2)))) ar = rfA (κ 3) n (va_up f i.toNatClampNeg (some y2)) := up_eq
  have hfr : ∀ q, q ≠ h → q ≠ ar → (va_up F ar (rfA (κ 3) n (va_up f i.toNatClampNeg (some y2)))) q = F q := fun q q1 q2 => (up_ne q2).trans (hfr q q1 q2)
  generalize va_up F ar (rfA (κ 3) n (va_up f i.toNatClampNeg (some y2))) = F_11 at hW e_h e_ar hfr
  refine lv_aload_n S.1 S.2.1 dJx4a65c_set_bcc79_22 rfl (lv_at hl 0 rfl) ?_
  exact pk_rret S hr (Or.inl ⟨_, rfl⟩) hlk hW ⟨rfl, rfl, ⟨m_h, e_h, m_ar, n_h_ar, e_ar⟩, hfr⟩ (by decide) (by decide) dJx4a65c_set_bcc79_23
end
section
/-! ArrayList: growing, adding, removing -/
section CQ
variable {p : Program} {l : Launch} {e : Env} {R : Room} {s : State} {m : MethodId} {args : Array Value} {below : List Frame} {meth : Method} {c : Code} {cc : ByteArray} {nL : Nat} {own : String} {H : Heap} {locs : List Loc} {cells slots : Nat} {Q : State → Prop} {D : va_G} {tys : List (ClassId × FieldType)} {pc : Nat} {ls : Array Slot} {rest : List Value} {L0 L : List Nat} {F : Nat → va_E} {ζ : Nat → Nat}
theorem pk_copyq (S : CallFix p m c cc nL s args Gw own) (hK : va_K D cls tys s) (hST : ST ζ (AL L0 s.heap.size) s s.heap) (hW : HW D cls L0 s H locs L F) {index : Nat} (hlink : Cond.methodLink own index arraycopyName ∈ Gw) (hnat : Cond.native arraycopyName ∈ Gw) (hsta : Cond.static arraycopyName ∈ Gw) (hini : Cond.initialized "java/lang/System" ∈ Gw) (hsz : ls.size = nL)
    {a0 a1 n0 n1 : Nat} {c0 : ClassId} {f g : Nat → Option Nat} (t0 : Nat) (ht : tys[t0]? = some (c0, .object "java/lang/Object")) (m0 : a0 ∈ L) (e0 : F a0 = rfA c0 n0 f) (m1 : a1 ∈ L) (e1 : F a1 = rfA c0 n1 g) {sp dp n : Int32} (i j k : Nat) (hsp : sp = nI i) (hdp : dp = nI j) (hn : n = nI k) (h4 : i + k ≤ n0) (h5 : j + k ≤ n1) (hb0 : n0 < 2147483648) (hb1 : n1 < 2147483648) (hel : ∀ q : Nat, q < k → ∀ y : Nat, f (i + q) = some y → ∃ v, bx ζ L F y v)
    (hfr : 1 ≤ R.frames) (hlo : (rest.map fun v => v.category).sum + (nativeFrameWords "java/lang/System" "arraycopy" 5 + 11) ≤ R.locals) (hdg : decode cc pc = .ok (.invokestatic index, 3))
    (kk : ∀ (H1 : Heap) (locs1 : List Loc), HW D cls L0 s H1 locs1 L (va_up F a1 (rfA c0 n1 (va_cpy f g i j k))) → W p l e R s m args below meth c H1 locs1 cells slots Q (F0 m (pc + 3) ls rest)) : W p l e R s m args below meth c H locs cells slots Q (F0 m pc ls (.int n :: .int dp :: .ref a1 :: .int sp :: .ref a0 :: rest)) := by
  obtain ⟨k0, hk0⟩ := pl_get m0 e0
  obtain ⟨k1, hk1⟩ := pl_get (F := F) m1 rfl
  have ci : (nI i).toNatClampNeg = i := nI_clamp (by omega)
  have cj : (nI j).toNatClampNeg = j := nI_clamp (by omega)
  have ck : (nI k).toNatClampNeg = k := nI_clamp (by omega)
  subst hsp hdp hn
  refine va_copyq (C := "java/lang/Integer") S.1 S.2.1 (S.2.2.1.trans hsz.symm) S.2.2.2.1 (S.2.2.2.2 _ hlink) (S.2.2.2.2 _ hnat) (S.2.2.2.2 _ hsta) (S.2.2.2.2 _ hini) hK hW.1 hW.2.1 hW.2.2 k0 k1 t0 t0 hk0 (hk1.trans (congrArg (fun ee => some (a1, ee)) e1)) ht ht (nI_pos (by omega)) (nI_pos (by omega)) (nI_pos (by omega)) (by rw [ci, ck]; exact h4) (by rw [cj, ck]; exact h5) ?_ (vb_asgC (hST.1.1 _ wn_26)) hfr hlo hdg ?_
  · intro q hq y hy
    rw [ck] at hq
    rw [ci] at hy
    obtain ⟨v, hv⟩ := hel q hq y hy
    exact bx_cell hK hW hST hv
  · intro H1 locs1 h1 h2 h3
    rw [ci, cj, ck] at h1 h2
    exact kk H1 locs1 (hW.set (e0 := F a1) m1 _ hk1 h1 h2 h3)
theorem pk_arrC {n : Nat} {f : Nat → Option Nat} {a : Nat} {c0 : ClassId} (hK : va_K D cls tys s) (hW : HW D cls L0 s H locs L F) (t0 : Nat) (ht : tys[t0]? = some (c0, .object "java/lang/Object")) (ha : a ∈ L) (he : F a = rfA c0 n f) : ∃ cell : Cell, H[a]? = some cell ∧ cell.vm.isStatics = false ∧ s.vm.findClass "[Ljava/lang/Object;" = some cell.cls := by
  obtain ⟨k0, hk0⟩ := pl_get ha he
  obtain ⟨_, _, _, _, _, e1⟩ := (hK.2 t0 _ ht).2
  exact ⟨_, hW.1 k0 _ hk0, rfl, e1⟩
end CQ
theorem bx.keep {ζ : Nat → Nat} {L L' : List Nat} {F F' : Nat → va_E} {h : Nat} {w : List Value} {y : Nat} {v : Int32} (hb : bx ζ L F y v) (hh : F h = .inr (4, w)) (hsub : ∀ x ∈ L, x ∈ L') (hfr : ∀ x ∈ L, x ≠ h → F' x = F x) : bx ζ L' F' y v := by
  rcases hb with ⟨h1, h2⟩ | h
  · refine Or.inl ⟨hsub y h1, ?_⟩
    have hne : y ≠ h := fun e => by rw [e, hh] at h2; cases h2
    rw [hfr y h1 hne]; exact h2
  · exact Or.inr h
theorem cl0 : (0 : Int32).toNatClampNeg = 0 := rfl

theorem bx.keep0 {ζ : Nat → Nat} {L L' : List Nat} {F F' : Nat → va_E} {y : Nat} {v : Int32} (hb : bx ζ L F y v) (hsub : ∀ x ∈ L, x ∈ L') (hfr : ∀ x ∈ L, F' x = F x) : bx ζ L' F' y v := by
  rcases hb with ⟨h1, h2⟩ | h
  · exact Or.inl ⟨hsub y h1, by rw [hfr y h1]; exact h2⟩
  · exact Or.inr h
theorem mc_J8_newLength_cabcc : MCode yJ8_newLength_cabcc cJ8_newLength_cabcc 4 (some .int) := ⟨wd_838, wd_10, by decide, by decide⟩
theorem np_J8_newLength_cabcc : (parseMethodDescriptor yJ8_newLength_cabcc.desc).map (fun d => d.parameters.length) = some 3 := by decide +kernel
set_option maxHeartbeats 4000000 in
set_option maxRecDepth 100000 in
theorem c_J8_newLength_cabcc {l : Launch} {D : va_G} {κ : Nat → ClassId} {ζ : Nat → Nat} {L : List Nat} {F : Nat → va_E} {i1 i2 i3 : Int32} (hp1 : ¬ i1 + (if i2 < i3 then i3 else i2) ≤ 0) (hp2 : ¬ 2147483639 < i1 + (if i2 < i3 then i3 else i2)) : MtI l D cls (ty5 κ) ζ yJ8_newLength_cabcc cJ8_newLength_cabcc 4 (some .int) 2 0 0 ([.int i1, .int i2, .int i3] : List Value) L F (fun r L' F' => L = L' ∧ F = F' ∧ i1 + (if i2 < i3 then i3 else i2) = r) := by
  refine MtI.of (by decide) (Nat.le_of_ble_eq_true rfl) ?_
  intro p e s m below meth c S hr hlk hini hK hW hST ls hl
  have hl : lv_has ls 4 [(0, .int i1), (1, .int i2), (2, .int i3)] := hl
  refine lv_iload_n S.1 S.2.1 dJ8_newLength_cabcc_0 rfl (lv_at hl 0 rfl) ?_
  refine lv_iload_n S.1 S.2.1 dJ8_newLength_cabcc_1 rfl (lv_at hl 1 rfl) ?_
  refine lv_iload_n S.1 S.2.1 dJ8_newLength_cabcc_2 rfl (lv_at hl 2 rfl) ?_
  refine va_mmax S.1 S.2.1 (S.2.2.1.trans hl.1.symm) S.2.2.2.1 (S.2.2.2.2 _ wd_839) (S.2.2.2.2 _ wd_301) (S.2.2.2.2 _ wd_11) (S.2.2.2.2 _ wd_302) (by decide) (Nat.le_of_ble_eq_true rfl) (by decide) (by decide) dJ8_newLength_cabcc_3 ?_
  refine lv_topi (fun y_1 ey_1 => ?_)
  have ey_1 : y_1 = if i2 < i3 then i3 else i2 := ey_1.trans (rfl)
  subst ey_1
  refine lv_iadd S.1 S.2.1 dJ8_newLength_cabcc_6 ?_
  refine lv_istore_n (lv' := [(3, .int (i1 + (if i2 < i3 then i3 else i2))), (0, .int i1), (1, .int i2), (2, .int i3)]) S.1 S.2.1 dJ8_newLength_cabcc_7 rfl hl (Nat.le_of_ble_eq_true rfl) rfl (fun ls hl => ?_)
  refine lv_iconst (v := 0) S.1 S.2.1 dJ8_newLength_cabcc_8 (by decide) ?_
  refine lv_iload_n S.1 S.2.1 dJ8_newLength_cabcc_9 rfl (lv_at hl 0 rfl) ?_
  refine lv_icmp_ge (tgt := 21) S.1 S.2.1 dJ8_newLength_cabcc_10 (by decide) (fun c1 => absurd c1 hp1) (fun _ => ?_)
  refine lv_iload_n S.1 S.2.1 dJ8_newLength_cabcc_13 rfl (lv_at hl 0 rfl) ?_
  refine lv_ldc (v := 2147483639) S.1 S.2.1 S.2.2.2.1 (S.2.2.2.2 _ wd_840) dJ8_newLength_cabcc_14 ?_
  refine lv_icmp_gt (tgt := 21) S.1 S.2.1 dJ8_newLength_cabcc_16 (by decide) (fun c1 => absurd c1 hp2) (fun _ => ?_)
  refine lv_iload_n S.1 S.2.1 dJ8_newLength_cabcc_19 rfl (lv_at hl 0 rfl) ?_
  exact pk_iret S hr hlk hW ⟨rfl, rfl, rfl⟩ (by decide) (by decide) dJ8_newLength_cabcc_20
theorem mc_J7_copyOf_6403c : MCode yJ7_copyOf_6403c cJ7_copyOf_6403c 4 (some (.array (.object "java/lang/Object"))) := ⟨wd_1149, wd_12, by decide, by decide⟩
theorem np_J7_copyOf_6403c : (parseMethodDescriptor yJ7_copyOf_6403c.desc).map (fun d => d.parameters.length) = some 3 := by decide +kernel
set_option maxHeartbeats 4000000 in
set_option maxRecDepth 100000 in
theorem c_J7_copyOf_6403c {l : Launch} {D : va_G} {κ : Nat → ClassId} {ζ : Nat → Nat} {L : List Nat} {F : Nat → va_E} {ar n N : Nat} {f : Nat → Option Nat} (m_ar : ar ∈ L) (e_ar : F ar = rfA (κ 3) n f) (hnN : n ≤ N) (hN : N ≤ 32) (hel : ∀ i, i < n → ∀ y, f i = some y → ∃ v, bx ζ L F y v) : MtR l D cls (ty5 κ) ζ yJ7_copyOf_6403c cJ7_copyOf_6403c 4 (some (.array (.object "java/lang/Object"))) 2 1 32 ([.ref ar, .int (nI N), .ref (ζ 260)] : List Value) L F (fun r L' F' => (∀ x ∈ L, x ∈ L') ∧ r ∈ L' ∧ r ∉ L ∧ F' r = rfA (κ 3) N (va_cpy f (fun _ => none) 0 0 n) ∧ ∀ x ∈ L, F' x = F x) := by
  refine MtR.of (by decide) (Nat.le_of_ble_eq_true rfl) ?_
  intro p e s m below meth c S hr hlk hini hK hW hST ls hl
  have hl : lv_has ls 4 [(0, .ref ar), (1, .int (nI N)), (2, .ref (ζ 260))] := hl
  have hsub : ∀ x ∈ L, x ∈ L := fun x hx => hx
  have hfr : ∀ x ∈ L, True → F x = F x := fun _ _ _ => rfl
  refine lv_aload_n S.1 S.2.1 dJ7_copyOf_6403c_0 rfl (lv_at hl 2 rfl) ?_
  refine va_ldcM S.1 S.2.1 S.2.2.2.1 (S.2.2.2.2 _ wd_1150) hST.2.mirror dJ7_copyOf_6403c_1 ?_
  refine lv_acmp_ne (rx := some (ζ 260)) (ry := some (ζ 260)) (tgt := 13) S.1 S.2.1 dJ7_copyOf_6403c_3 (by decide) (fun c1 => absurd rfl c1) (fun _ => ?_)
  refine lv_iload_n S.1 S.2.1 dJ7_copyOf_6403c_6 rfl (lv_at hl 1 rfl) ?_
  refine pk_newq (N' := N) S hK hW 3 rfl wd_1152 hST.2.aoObj (nI_pos (by omega)) (nI_clamp (by omega)) (by omega) (by decide) (by show 0 + N ≤ 32; omega) dJ7_copyOf_6403c_7 (fun q H_1 hq_q hW => ?_)
  have n_ar_q : ar ≠ q := fun ee => hq_q (ee ▸ m_ar)
  have e_ar : (va_up F q (rfA (κ 3) N (fun _ => none))) ar = rfA (κ 3) n f := (up_ne n_ar_q).trans e_ar
  have m_ar := List.mem_append_left [q] m_ar
  have e_q : (va_up F q (rfA (κ 3) N (fun _ => none))) q = rfA (κ 3) N (fun _ => none) := up_eq
  have m_q : q ∈ L ++ [q] := List.mem_append_right _ (List.mem_singleton.mpr rfl)
  have hnw_q : q ∉ L := fun ee => hq_q (hsub _ ee)
  have hfr : ∀ x ∈ L, True → (va_up F q (rfA (κ 3) N (fun _ => none))) x = F x := fun x hx ht => (up_ne (fun (ee : x = q) => hnw_q (ee ▸ hx))).trans (hfr x hx ht)
  have hsub : ∀ x ∈ L, x ∈ L ++ [q] := fun x hx => List.mem_append_left _ (hsub x hx)
  generalize va_up F q (rfA (κ 3) N (fun _ => none)) = F_2 at hW e_ar e_q hfr
  generalize L ++ [q] = L_3 at hW m_ar m_q hsub
  refine lv_goto (tgt := 24) S.1 S.2.1 dJ7_copyOf_6403c_10 (by decide) ?_
  refine lv_astore_n (lv' := [(3, .ref q), (0, .ref ar), (1, .int (nI N)), (2, .ref (ζ 260))]) S.1 S.2.1 dJ7_copyOf_6403c_24 rfl hl (Nat.le_of_ble_eq_true rfl) rfl (fun ls hl => ?_)
  refine lv_aload_n S.1 S.2.1 dJ7_copyOf_6403c_25 rfl (lv_at hl 1 rfl) ?_
  refine lv_iconst (v := 0) S.1 S.2.1 dJ7_copyOf_6403c_26 (by decide) ?_
  refine lv_aload_n S.1 S.2.1 dJ7_copyOf_6403c_27 rfl (lv_at hl 0 rfl) ?_
  refine lv_iconst (v := 0) S.1 S.2.1 dJ7_copyOf_6403c_28 (by decide) ?_
  refine lv_aload_n S.1 S.2.1 dJ7_copyOf_6403c_29 rfl (lv_at hl 1 rfl) ?_
  refine pk_alen S hK hW 3 m_ar e_ar rfl rfl dJ7_copyOf_6403c_30 ?_
  refine lv_iload_n S.1 S.2.1 dJ7_copyOf_6403c_31 rfl (lv_at hl 2 rfl) ?_
  refine va_mmin S.1 S.2.1 (S.2.2.1.trans hl.1.symm) S.2.2.2.1 (S.2.2.2.2 _ wd_854) (S.2.2.2.2 _ wd_648) (S.2.2.2.2 _ wd_11) (S.2.2.2.2 _ wd_649) (by decide) (Nat.le_of_ble_eq_true rfl) (by decide) (by show 0 + N ≤ 32; omega) dJ7_copyOf_6403c_32 ?_
  refine lv_topi (fun y_4 ey_4 => ?_)
  have ey_4 : y_4 = nI n := ey_4.trans (if_neg (nI_nlt hnN (by omega)))
  subst ey_4
  refine pk_copyq S hK hST hW wd_855 wd_857 wd_856 wd_13 hl.1 3 rfl m_ar e_ar m_q e_q 0 0 n rfl rfl rfl (by omega) (by omega) (by omega) (by omega) (fun i hi y hy => by obtain ⟨v, hv⟩ := hel i hi y (by rw [← hy, Nat.zero_add]); exact ⟨v, hv.keep0 hsub (fun x hx => hfr x hx trivial)⟩) (by decide) (Nat.le_of_ble_eq_true rfl) dJ7_copyOf_6403c_35 (fun H_5 l_6 hW => ?_)
  have e_ar : (va_up F_2 q (rfA (κ 3) N (va_cpy f (fun _ => none) 0 0 n))) ar = rfA (κ 3) n f := (up_ne n_ar_q).trans e_ar
  have e_q : (va_up F_2 q (rfA (κ 3) N (va_cpy f (fun _ => none) 0 0 n))) q = rfA (κ 3) N (va_cpy f (fun _ => none) 0 0 n) := up_eq
  have hfr : ∀ x ∈ L, True → (va_up F_2 q (rfA (κ 3) N (va_cpy f (fun _ => none) 0 0 n))) x = F x := fun x hx ht => (up_ne (fun (ee : x = q) => hnw_q (ee ▸ hx))).trans (hfr x hx ht)
  generalize va_up F_2 q (rfA (κ 3) N (va_cpy f (fun _ => none) 0 0 n)) = F_7 at hW e_ar e_q hfr
  refine lv_aload_n S.1 S.2.1 dJ7_copyOf_6403c_38 rfl (lv_at hl 0 rfl) ?_
  exact pk_rret S hr (Or.inr ⟨_, rfl⟩) hlk hW ⟨hsub, m_q, hnw_q, e_q, fun x hx => hfr x hx trivial⟩ (by decide) (by show 0 + N ≤ 32; omega) dJ7_copyOf_6403c_39
theorem mc_J7_copyOf_1904c : MCode yJ7_copyOf_1904c cJ7_copyOf_1904c 2 (some (.array (.object "java/lang/Object"))) := ⟨wd_1127, wd_12, by decide, by decide⟩
theorem np_J7_copyOf_1904c : (parseMethodDescriptor yJ7_copyOf_1904c.desc).map (fun d => d.parameters.length) = some 2 := by decide +kernel
set_option maxHeartbeats 4000000 in
set_option maxRecDepth 100000 in
theorem c_J7_copyOf_1904c {l : Launch} {D : va_G} {κ : Nat → ClassId} {ζ : Nat → Nat} {L : List Nat} {F : Nat → va_E} {ar n N : Nat} {f : Nat → Option Nat} (m_ar : ar ∈ L) (e_ar : F ar = rfA (κ 3) n f) (hnN : n ≤ N) (hN : N ≤ 32) (hel : ∀ i, i < n → ∀ y, f i = some y → ∃ v, bx ζ L F y v) : MtR l D cls (ty5 κ) ζ yJ7_copyOf_1904c cJ7_copyOf_1904c 2 (some (.array (.object "java/lang/Object"))) 3 1 32 ([.ref ar, .int (nI N)] : List Value) L F (fun r L' F' => (∀ x ∈ L, x ∈ L') ∧ r ∈ L' ∧ r ∉ L ∧ F' r = rfA (κ 3) N (va_cpy f (fun _ => none) 0 0 n) ∧ ∀ x ∈ L, F' x = F x) := by
  refine MtR.of (by decide) (Nat.le_of_ble_eq_true rfl) ?_
  intro p e s m below meth c S hr hlk hini hK hW hST ls hl
  have hl : lv_has ls 2 [(0, .ref ar), (1, .int (nI N))] := hl
  refine lv_aload_n S.1 S.2.1 dJ7_copyOf_1904c_0 rfl (lv_at hl 0 rfl) ?_
  refine lv_iload_n S.1 S.2.1 dJ7_copyOf_1904c_1 rfl (lv_at hl 1 rfl) ?_
  refine lv_aload_n S.1 S.2.1 dJ7_copyOf_1904c_2 rfl (lv_at hl 0 rfl) ?_
  refine va_getC S.1 S.2.1 (S.2.2.1.trans hl.1.symm) S.2.2.2.1 (S.2.2.2.2 _ wd_1128) (va_Dc.use hST.2.decl) (S.2.2.2.2 _ wd_1663) (S.2.2.2.2 _ wd_1129) (S.2.2.2.2 _ wd_1146) hST.2.mirror (pk_arrC hK hW 3 rfl m_ar e_ar) (by decide) (Nat.le_of_ble_eq_true rfl) dJ7_copyOf_1904c_3 ?_
  refine pk_cSR (As := [.ref ar, .int (nI N), .ref (ζ 260)]) (rest := []) S hK hST hW (c_J7_copyOf_6403c m_ar e_ar hnN hN hel) mc_J7_copyOf_6403c wd_1147 wd_1148 np_J7_copyOf_6403c rfl hl.1 rfl (Nat.le_of_ble_eq_true rfl) dJ7_copyOf_1904c_6 ⟨by decide, by decide⟩ ⟨by decide, by decide⟩ (fun r L_1 F_2 H_3 l_4 hp hW => ?_)
  obtain ⟨h1, h2, h3, h4, h5⟩ := hp
  exact pk_rret S hr (Or.inr ⟨_, rfl⟩) hlk hW ⟨h1, h2, h3, h4, h5⟩ (by decide) (by decide) dJ7_copyOf_1904c_9
end
section
/-! ArrayList: grow and add -/
theorem grow_N {n : Nat} (h : n ≤ 21) : nI n + (if nI 1 < nI (n / 2) then nI (n / 2) else nI 1) = nI (n + max 1 (n / 2)) := by
  by_cases hc : 1 < n / 2
  · rw [if_pos ((nI_ltI (by omega) (by omega)).mpr hc), nI_add]
    congr 1
    omega
  · rw [if_neg (fun q => hc ((nI_ltI (by omega) (by omega)).mp q)), nI_add]
    congr 1
    omega
theorem pos_nI {n : Nat} (h : 0 < n) (h2 : n < 2147483648) : (0 : Int32) < nI n := by
  have := (nI_ltI (a := 0) (b := n) (by omega) h2).mpr h
  rwa [nI_0] at this
theorem mc_Jx4a65c_grow_92f84 : MCode yJx4a65c_grow_92f84 cJx4a65c_grow_92f84 4 (some (.array (.object "java/lang/Object"))) := ⟨wd_1123, wd_8, by decide, by decide⟩
theorem np_Jx4a65c_grow_92f84 : (parseMethodDescriptor yJx4a65c_grow_92f84.desc).map (fun d => d.parameters.length) = some 1 := by decide +kernel
set_option maxHeartbeats 4000000 in
set_option maxRecDepth 100000 in
theorem c_Jx4a65c_grow_92f84_own {l : Launch} {D : va_G} {κ : Nat → ClassId} {ζ : Nat → Nat} {L : List Nat} {F : Nat → va_E} {h ar n : Nat} {f : Nat → Option Nat} {md sz : Int32} (hR : RA κ h ar n f md sz L F) (hn0 : 0 < n) (hn1 : n ≤ 21) (hel : ∀ i, i < n → ∀ y, f i = some y → ∃ v, bx ζ L F y v) : MtR l D cls (ty5 κ) ζ yJx4a65c_grow_92f84 cJx4a65c_grow_92f84 4 (some (.array (.object "java/lang/Object"))) 4 1 32 ([.ref h, .int (nI (n + 1))] : List Value) L F (fun r L' F' => (∀ x ∈ L, x ∈ L') ∧ r ∉ L ∧ RA κ h r (n + max 1 (n / 2)) (va_cpy f (fun _ => none) 0 0 n) md sz L' F' ∧ ∀ x ∈ L, x ≠ h → F' x = F x) := by
  refine MtR.of (by decide) (Nat.le_of_ble_eq_true rfl) ?_
  intro p e s m below meth c S hr hlk hini hK hW hST ls hl
  have hl : lv_has ls 4 [(0, .ref h), (1, .int (nI (n + 1)))] := hl
  obtain ⟨m_h, e_h, m_ar, n_h_ar, e_ar⟩ := hR
  refine lv_aload_n S.1 S.2.1 dJx4a65c_grow_92f84_0 rfl (lv_at hl 0 rfl) ?_
  refine pk_get S hK hW 1 m_h e_h rfl hinJx4a65c (by decide) wd_1083 rfl dJx4a65c_grow_92f84_1 ?_
  refine pk_alen S hK hW 3 m_ar e_ar rfl rfl dJx4a65c_grow_92f84_4 ?_
  refine lv_istore_n (lv' := [(2, .int (nI n)), (0, .ref h), (1, .int (nI (n + 1)))]) S.1 S.2.1 dJx4a65c_grow_92f84_5 rfl hl (Nat.le_of_ble_eq_true rfl) rfl (fun ls hl => ?_)
  refine lv_iload_n S.1 S.2.1 dJx4a65c_grow_92f84_6 rfl (lv_at hl 0 rfl) ?_
  refine lv_if_gt (tgt := 20) S.1 S.2.1 dJx4a65c_grow_92f84_7 (by decide) (fun _ => ?_) (fun c1 => absurd (pos_nI hn0 (by omega)) c1)
  refine lv_iload_n S.1 S.2.1 dJx4a65c_grow_92f84_20 rfl (lv_at hl 0 rfl) ?_
  refine lv_iload_n S.1 S.2.1 dJx4a65c_grow_92f84_21 rfl (lv_at hl 2 rfl) ?_
  refine lv_iload_n S.1 S.2.1 dJx4a65c_grow_92f84_22 rfl (lv_at hl 0 rfl) ?_
  refine lv_isub S.1 S.2.1 dJx4a65c_grow_92f84_23 ?_
  refine lv_topi (fun y_1 ey_1 => ?_)
  have ey_1 : y_1 = nI 1 := ey_1.trans ((pk_sub (by omega)).trans (by rw [show n + 1 - n = 1 by omega]))
  subst ey_1
  refine lv_iload_n S.1 S.2.1 dJx4a65c_grow_92f84_24 rfl (lv_at hl 0 rfl) ?_
  refine lv_iconst (v := 1) S.1 S.2.1 dJx4a65c_grow_92f84_25 (by decide) ?_
  refine lv_ishr S.1 S.2.1 dJx4a65c_grow_92f84_26 ?_
  refine lv_topi (fun y_2 ey_2 => ?_)
  have ey_2 : y_2 = nI (n / 2) := ey_2.trans (pk_shrN (by omega) _ 1 (by decide))
  subst ey_2
  have hNe := grow_N (n := n) (by omega)
  refine pk_cSI (As := [.int (nI n), .int (nI 1), .int (nI (n / 2))]) (rest := []) S hK hST hW (c_J8_newLength_cabcc (by rw [hNe]; exact nI_nle (by omega) (by omega)) (by rw [hNe]; exact nI_nlt (a := 2147483639) (by omega) (by omega))) mc_J8_newLength_cabcc wd_1124 wd_837 np_J8_newLength_cabcc rfl hl.1 rfl (Nat.le_of_ble_eq_true rfl) dJx4a65c_grow_92f84_27 ⟨by decide, by decide⟩ ⟨by decide, by decide⟩ (fun r L_3 F_4 H_5 l_6 hp hW => ?_)
  obtain ⟨rfl, rfl, rfl⟩ := hp
  refine lv_topi (fun y_7 ey_7 => ?_)
  have ey_7 : y_7 = nI (n + max 1 (n / 2)) := ey_7.trans (hNe)
  subst ey_7
  refine lv_istore_n (lv' := [(3, .int (nI (n + max 1 (n / 2)))), (2, .int (nI n)), (0, .ref h), (1, .int (nI (n + 1)))]) S.1 S.2.1 dJx4a65c_grow_92f84_30 rfl hl (Nat.le_of_ble_eq_true rfl) rfl (fun ls hl => ?_)
  refine lv_aload_n S.1 S.2.1 dJx4a65c_grow_92f84_31 rfl (lv_at hl 2 rfl) ?_
  refine lv_aload_n S.1 S.2.1 dJx4a65c_grow_92f84_32 rfl (lv_at hl 2 rfl) ?_
  refine pk_get S hK hW 1 m_h e_h rfl hinJx4a65c (by decide) wd_1083 rfl dJx4a65c_grow_92f84_33 ?_
  refine lv_iload_n S.1 S.2.1 dJx4a65c_grow_92f84_36 rfl (lv_at hl 0 rfl) ?_
  refine pk_cSR (As := [.ref ar, .int (nI (n + max 1 (n / 2)))]) (rest := [.ref h]) S hK hST hW (c_J7_copyOf_1904c (N := (n + max 1 (n / 2))) m_ar e_ar (by omega) (by omega) hel) mc_J7_copyOf_1904c wd_1125 wd_1126 np_J7_copyOf_1904c rfl hl.1 rfl (Nat.le_of_ble_eq_true rfl) dJx4a65c_grow_92f84_37 ⟨by decide, by decide⟩ ⟨by decide, by decide⟩ (fun q L1 F1 H1 l1 hp hW => ?_)
  obtain ⟨hsub1, m_q, hq_q, e_q, hfr1⟩ := hp
  have n_h_q : h ≠ q := fun ee => hq_q (ee ▸ m_h)
  have n_ar_q : ar ≠ q := fun ee => hq_q (ee ▸ m_ar)
  have e_h : F1 h = .inr (4, [.int md, .ref ar, .int sz]) := (hfr1 h m_h).trans e_h
  have e_ar : F1 ar = rfA (κ 3) n f := (hfr1 ar m_ar).trans e_ar
  have m_h := hsub1 _ m_h
  have m_ar := hsub1 _ m_ar
  have hfr : ∀ x ∈ L, x ≠ h → F1 x = F x := fun x hx _ => hfr1 x hx
  refine lv_dup_x1 S.1 S.2.1 dJx4a65c_grow_92f84_40 rfl rfl ?_
  refine pk_put (v := .ref q) S hK hW 1 m_h e_h rfl hinJx4a65c tyJx4a65c_ok nmJx4a65c (by decide) wd_1083 rfl rfl rfl rfl (Nat.le_of_ble_eq_true rfl) dJx4a65c_grow_92f84_41 (fun H_8 l_9 hW => ?_)
  have e_h : (va_up F1 h (.inr (4, ([.int md, .ref ar, .int sz] : List Value).set 1 (.ref q)))) h = .inr (4, [.int md, .ref q, .int sz]) := up_eq
  have e_ar : (va_up F1 h (.inr (4, ([.int md, .ref ar, .int sz] : List Value).set 1 (.ref q)))) ar = rfA (κ 3) n f := (up_ne n_h_ar.symm).trans e_ar
  have e_q : (va_up F1 h (.inr (4, ([.int md, .ref ar, .int sz] : List Value).set 1 (.ref q)))) q = rfA (κ 3) (n + max 1 (n / 2)) (va_cpy f (fun _ => none) 0 0 n) := (up_ne n_h_q.symm).trans e_q
  have hfr : ∀ x ∈ L, x ≠ h → (va_up F1 h (.inr (4, ([.int md, .ref ar, .int sz] : List Value).set 1 (.ref q)))) x = F x := fun x hx xh => (up_ne xh).trans (hfr x hx xh)
  generalize va_up F1 h (.inr (4, ([.int md, .ref ar, .int sz] : List Value).set 1 (.ref q))) = F_10 at hW e_h e_ar e_q hfr
  exact pk_rret S hr (Or.inr ⟨_, rfl⟩) hlk hW ⟨hsub1, hq_q, ⟨m_h, e_h, m_q, n_h_q, e_q⟩, hfr⟩ (by decide) (by decide) dJx4a65c_grow_92f84_44
set_option maxHeartbeats 4000000 in
set_option maxRecDepth 100000 in
theorem c_Jx4a65c_grow_92f84_new {l : Launch} {D : va_G} {κ : Nat → ClassId} {ζ : Nat → Nat} {L : List Nat} {F : Nat → va_E} {h : Nat} {md sz : Int32} (hR : RE ζ h md sz L F) : MtR l D cls (ty5 κ) ζ yJx4a65c_grow_92f84 cJx4a65c_grow_92f84 4 (some (.array (.object "java/lang/Object"))) 4 1 32 ([.ref h, .int (nI 1)] : List Value) L F (fun r L' F' => (∀ x ∈ L, x ∈ L') ∧ r ∉ L ∧ RA κ h r 10 (fun _ => none) md sz L' F' ∧ ∀ x ∈ L, x ≠ h → F' x = F x) := by
  refine MtR.of (by decide) (Nat.le_of_ble_eq_true rfl) ?_
  intro p e s m below meth c S hr hlk hini hK hW hST ls hl
  have hl : lv_has ls 4 [(0, .ref h), (1, .int (nI 1))] := hl
  obtain ⟨m_h, e_h⟩ := hR
  have hsub : ∀ x ∈ L, x ∈ L := fun x hx => hx
  have hfr : ∀ x ∈ L, x ≠ h → F x = F x := fun _ _ _ => rfl
  refine lv_aload_n S.1 S.2.1 dJx4a65c_grow_92f84_0 rfl (lv_at hl 0 rfl) ?_
  refine pk_get S hK hW 1 m_h e_h rfl hinJx4a65c (by decide) wd_1083 rfl dJx4a65c_grow_92f84_1 ?_
  refine va_tlen (v := 0) S.1 S.2.1 hST.2.tEmpty hW.2.2 rfl dJx4a65c_grow_92f84_4 ?_
  refine lv_istore_n (lv' := [(2, .int 0), (0, .ref h), (1, .int (nI 1))]) S.1 S.2.1 dJx4a65c_grow_92f84_5 rfl hl (Nat.le_of_ble_eq_true rfl) rfl (fun ls hl => ?_)
  refine lv_iload_n S.1 S.2.1 dJx4a65c_grow_92f84_6 rfl (lv_at hl 0 rfl) ?_
  refine lv_if_gt (tgt := 20) S.1 S.2.1 dJx4a65c_grow_92f84_7 (by decide) (fun c1 => absurd c1 (by decide)) (fun _ => ?_)
  refine lv_aload_n S.1 S.2.1 dJx4a65c_grow_92f84_10 rfl (lv_at hl 1 rfl) ?_
  refine pk_get S hK hW 1 m_h e_h rfl hinJx4a65c (by decide) wd_1083 rfl dJx4a65c_grow_92f84_11 ?_
  refine pk_gets S hW hST.2.zEmpty wd_1082 dJx4a65c_grow_92f84_14 ?_
  refine lv_acmp_eq (rx := some (ζ 256)) (ry := some (ζ 256)) (tgt := 45) S.1 S.2.1 dJx4a65c_grow_92f84_17 (by decide) (fun _ => ?_) (fun c1 => absurd rfl c1)
  refine lv_aload_n S.1 S.2.1 dJx4a65c_grow_92f84_45 rfl (lv_at hl 1 rfl) ?_
  refine lv_bipush (v := 10) S.1 S.2.1 dJx4a65c_grow_92f84_46 (by decide) ?_
  refine lv_iload_n S.1 S.2.1 dJx4a65c_grow_92f84_48 rfl (lv_at hl 2 rfl) ?_
  refine va_mmax S.1 S.2.1 (S.2.2.1.trans hl.1.symm) S.2.2.2.1 (S.2.2.2.2 _ wd_1153) (S.2.2.2.2 _ wd_301) (S.2.2.2.2 _ wd_11) (S.2.2.2.2 _ wd_302) (by decide) (Nat.le_of_ble_eq_true rfl) (by decide) (by decide) dJx4a65c_grow_92f84_49 ?_
  refine lv_topi (fun y_1 ey_1 => ?_)
  have ey_1 : y_1 = 10 := ey_1.trans (if_neg (by decide))
  subst ey_1
  refine pk_newq (N' := 10) S hK hW 3 rfl wd_1154 hST.2.aoObj (by decide) (by decide) (by decide) (by decide) (by decide) dJx4a65c_grow_92f84_52 (fun q H_2 hq_q hW => ?_)
  have n_h_q : h ≠ q := fun ee => hq_q (ee ▸ m_h)
  have e_h : (va_up F q (rfA (κ 3) 10 (fun _ => none))) h = .inr (4, [.int md, .ref (ζ 256), .int sz]) := (up_ne n_h_q).trans e_h
  have m_h := List.mem_append_left [q] m_h
  have e_q : (va_up F q (rfA (κ 3) 10 (fun _ => none))) q = rfA (κ 3) 10 (fun _ => none) := up_eq
  have m_q : q ∈ L ++ [q] := List.mem_append_right _ (List.mem_singleton.mpr rfl)
  have hnw_q : q ∉ L := fun ee => hq_q (hsub _ ee)
  have hfr : ∀ x ∈ L, x ≠ h → (va_up F q (rfA (κ 3) 10 (fun _ => none))) x = F x := fun x hx hxh => (up_ne (fun (ee : x = q) => hnw_q (ee ▸ hx))).trans (hfr x hx hxh)
  have hsub : ∀ x ∈ L, x ∈ L ++ [q] := fun x hx => List.mem_append_left _ (hsub x hx)
  generalize va_up F q (rfA (κ 3) 10 (fun _ => none)) = F_3 at hW e_h e_q hfr
  generalize L ++ [q] = L_4 at hW m_h m_q hsub
  refine lv_dup_x1 S.1 S.2.1 dJx4a65c_grow_92f84_55 rfl rfl ?_
  refine pk_put (v := .ref q) S hK hW 1 m_h e_h rfl hinJx4a65c tyJx4a65c_ok nmJx4a65c (by decide) wd_1083 rfl rfl rfl rfl (Nat.le_of_ble_eq_true rfl) dJx4a65c_grow_92f84_56 (fun H_5 l_6 hW => ?_)
  have e_h : (va_up F_3 h (.inr (4, ([.int md, .ref (ζ 256), .int sz] : List Value).set 1 (.ref q)))) h = .inr (4, [.int md, .ref q, .int sz]) := up_eq
  have e_q : (va_up F_3 h (.inr (4, ([.int md, .ref (ζ 256), .int sz] : List Value).set 1 (.ref q)))) q = rfA (κ 3) 10 (fun _ => none) := (up_ne n_h_q.symm).trans e_q
  have hfr : ∀ x ∈ L, x ≠ h → (va_up F_3 h (.inr (4, ([.int md, .ref (ζ 256), .int sz] : List Value).set 1 (.ref q)))) x = F x := fun x hx hxh => (up_ne hxh).trans (hfr x hx hxh)
  generalize va_up F_3 h (.inr (4, ([.int md, .ref (ζ 256), .int sz] : List Value).set 1 (.ref q))) = F_7 at hW e_h e_q hfr
  exact pk_rret S hr (Or.inr ⟨_, rfl⟩) hlk hW ⟨hsub, hnw_q, ⟨m_h, e_h, m_q, n_h_q, e_q⟩, hfr⟩ (by decide) (by decide) dJx4a65c_grow_92f84_59
theorem mc_Jx4a65c_grow_d5877 : MCode yJx4a65c_grow_d5877 cJx4a65c_grow_d5877 1 (some (.array (.object "java/lang/Object"))) := ⟨wd_1119, wd_8, by decide, by decide⟩
theorem np_Jx4a65c_grow_d5877 : (parseMethodDescriptor yJx4a65c_grow_d5877.desc).map (fun d => d.parameters.length) = some 0 := by decide +kernel
set_option maxHeartbeats 4000000 in
set_option maxRecDepth 100000 in
theorem c_Jx4a65c_grow_d5877_own {l : Launch} {D : va_G} {κ : Nat → ClassId} {ζ : Nat → Nat} {L : List Nat} {F : Nat → va_E} {h ar n : Nat} {f : Nat → Option Nat} {md : Int32} (hR : RA κ h ar n f md (nI n) L F) (hn0 : 0 < n) (hn1 : n ≤ 21) (hel : ∀ i, i < n → ∀ y, f i = some y → ∃ v, bx ζ L F y v) : MtR l D cls (ty5 κ) ζ yJx4a65c_grow_d5877 cJx4a65c_grow_d5877 1 (some (.array (.object "java/lang/Object"))) 5 1 32 ([.ref h] : List Value) L F (fun r L' F' => (∀ x ∈ L, x ∈ L') ∧ r ∉ L ∧ RA κ h r (n + max 1 (n / 2)) (va_cpy f (fun _ => none) 0 0 n) md (nI n) L' F' ∧ ∀ x ∈ L, x ≠ h → F' x = F x) := by
  refine MtR.of (by decide) (Nat.le_of_ble_eq_true rfl) ?_
  intro p e s m below meth c S hr hlk hini hK hW hST ls hl
  have hl : lv_has ls 1 [(0, .ref h)] := hl
  obtain ⟨m_h, e_h, m_ar, n_h_ar, e_ar⟩ := hR
  refine lv_aload_n S.1 S.2.1 dJx4a65c_grow_d5877_0 rfl (lv_at hl 0 rfl) ?_
  refine lv_aload_n S.1 S.2.1 dJx4a65c_grow_d5877_1 rfl (lv_at hl 0 rfl) ?_
  refine pk_get S hK hW 2 m_h e_h rfl hinJx4a65c (by decide) wd_1085 rfl dJx4a65c_grow_d5877_2 ?_
  refine lv_iconst (v := 1) S.1 S.2.1 dJx4a65c_grow_d5877_5 (by decide) ?_
  refine lv_iadd S.1 S.2.1 dJx4a65c_grow_d5877_6 ?_
  refine lv_topi (fun y_1 ey_1 => ?_)
  have ey_1 : y_1 = nI (n + 1) := ey_1.trans (nI_1 n)
  subst ey_1
  refine pk_cVR (As := [.int (nI (n + 1))]) (rest := []) S hK hST hW (c_Jx4a65c_grow_92f84_own ⟨m_h, e_h, m_ar, n_h_ar, e_ar⟩ hn0 hn1 hel) mc_Jx4a65c_grow_92f84 wd_1120 wd_1122 wd_1699 rfl np_Jx4a65c_grow_92f84 m_h e_h rfl rfl hl.1 rfl (Nat.le_of_ble_eq_true rfl) dJx4a65c_grow_d5877_7 ⟨by decide, by decide⟩ ⟨by decide, by decide⟩ (fun r L_2 F_3 H_4 l_5 hp hW => ?_)
  obtain ⟨h1, h2, h3, h4⟩ := hp
  exact pk_rret S hr (Or.inr ⟨_, rfl⟩) hlk hW ⟨h1, h2, h3, h4⟩ (by decide) (by decide) dJx4a65c_grow_d5877_10
set_option maxHeartbeats 4000000 in
set_option maxRecDepth 100000 in
theorem c_Jx4a65c_grow_d5877_new {l : Launch} {D : va_G} {κ : Nat → ClassId} {ζ : Nat → Nat} {L : List Nat} {F : Nat → va_E} {h : Nat} {md : Int32} (hR : RE ζ h md 0 L F) : MtR l D cls (ty5 κ) ζ yJx4a65c_grow_d5877 cJx4a65c_grow_d5877 1 (some (.array (.object "java/lang/Object"))) 5 1 32 ([.ref h] : List Value) L F (fun r L' F' => (∀ x ∈ L, x ∈ L') ∧ r ∉ L ∧ RA κ h r 10 (fun _ => none) md 0 L' F' ∧ ∀ x ∈ L, x ≠ h → F' x = F x) := by
  refine MtR.of (by decide) (Nat.le_of_ble_eq_true rfl) ?_
  intro p e s m below meth c S hr hlk hini hK hW hST ls hl
  have hl : lv_has ls 1 [(0, .ref h)] := hl
  obtain ⟨m_h, e_h⟩ := hR
  refine lv_aload_n S.1 S.2.1 dJx4a65c_grow_d5877_0 rfl (lv_at hl 0 rfl) ?_
  refine lv_aload_n S.1 S.2.1 dJx4a65c_grow_d5877_1 rfl (lv_at hl 0 rfl) ?_
  refine pk_get S hK hW 2 m_h e_h rfl hinJx4a65c (by decide) wd_1085 rfl dJx4a65c_grow_d5877_2 ?_
  refine lv_iconst (v := 1) S.1 S.2.1 dJx4a65c_grow_d5877_5 (by decide) ?_
  refine lv_iadd S.1 S.2.1 dJx4a65c_grow_d5877_6 ?_
  refine lv_topi (fun y_1 ey_1 => ?_)
  have ey_1 : y_1 = nI 1 := ey_1.trans (rfl)
  subst ey_1
  refine pk_cVR (As := [.int (nI 1)]) (rest := []) S hK hST hW (c_Jx4a65c_grow_92f84_new ⟨m_h, e_h⟩) mc_Jx4a65c_grow_92f84 wd_1120 wd_1122 wd_1699 rfl np_Jx4a65c_grow_92f84 m_h e_h rfl rfl hl.1 rfl (Nat.le_of_ble_eq_true rfl) dJx4a65c_grow_d5877_7 ⟨by decide, by decide⟩ ⟨by decide, by decide⟩ (fun r L_2 F_3 H_4 l_5 hp hW => ?_)
  obtain ⟨h1, h2, h3, h4⟩ := hp
  exact pk_rret S hr (Or.inr ⟨_, rfl⟩) hlk hW ⟨h1, h2, h3, h4⟩ (by decide) (by decide) dJx4a65c_grow_d5877_10
theorem mc_Jx4a65c_add_72be8 : MCode yJx4a65c_add_72be8 cJx4a65c_add_72be8 4 none := ⟨wd_1115, wd_8, by decide, by decide⟩
theorem np_Jx4a65c_add_72be8 : (parseMethodDescriptor yJx4a65c_add_72be8.desc).map (fun d => d.parameters.length) = some 3 := by decide +kernel
set_option maxHeartbeats 4000000 in
set_option maxRecDepth 100000 in
theorem c_Jx4a65c_add_72be8_fitI {l : Launch} {D : va_G} {κ : Nat → ClassId} {ζ : Nat → Nat} {L : List Nat} {F : Nat → va_E} {h ar n k : Nat} {f : Nat → Option Nat} {md sz : Int32} (hR : RA κ h ar n f md sz L F) (hk : k < n) (hn : n ≤ 32) {y : Nat} {v : Int32} (hb : bx ζ L F y v) : MtV l D cls (ty5 κ) ζ yJx4a65c_add_72be8 cJx4a65c_add_72be8 4 none 6 1 32 ([.ref h, .ref y, .ref ar, .int (nI k)] : List Value) L F (fun L' F' => L = L' ∧ RA κ h ar n (va_up f k (some y)) md (nI (k + 1)) L F' ∧ FrR h ar F F') := by
  refine MtV.of (by decide) (Nat.le_of_ble_eq_true rfl) ?_
  intro p e s m below meth c S hr hlk hini hK hW hST ls hl
  have hl : lv_has ls 4 [(0, .ref h), (1, .ref y), (2, .ref ar), (3, .int (nI k))] := hl
  obtain ⟨m_h, e_h, m_ar, n_h_ar, e_ar⟩ := hR
  have hfr : ∀ q, q ≠ h → q ≠ ar → F q = F q := fun _ _ _ => rfl
  refine lv_iload_n S.1 S.2.1 dJx4a65c_add_72be8_0 rfl (lv_at hl 3 rfl) ?_
  refine lv_aload_n S.1 S.2.1 dJx4a65c_add_72be8_1 rfl (lv_at hl 2 rfl) ?_
  refine pk_alen S hK hW 3 m_ar e_ar rfl rfl dJx4a65c_add_72be8_2 ?_
  refine lv_icmp_ne (tgt := 11) S.1 S.2.1 dJx4a65c_add_72be8_3 (by decide) (fun _ => ?_) (fun c1 => absurd c1 (fun ee => absurd ((nI_eq (by omega) (by omega)).mp ee) (by omega)))
  refine lv_aload_n S.1 S.2.1 dJx4a65c_add_72be8_11 rfl (lv_at hl 2 rfl) ?_
  refine lv_iload_n S.1 S.2.1 dJx4a65c_add_72be8_12 rfl (lv_at hl 3 rfl) ?_
  refine lv_aload_n S.1 S.2.1 dJx4a65c_add_72be8_13 rfl (lv_at hl 1 rfl) ?_
  refine pk_aast S hK hW 3 m_ar e_ar rfl (bx_cell hK hW hST hb) (hST.1.1 _ wn_26) (vp_in_nI (by omega) (by omega)) dJx4a65c_add_72be8_14 (fun H_1 l_2 hW => ?_)
  rw [show (nI k).toNatClampNeg = k from nI_clamp (by omega)] at hW
  have e_h : (va_up F ar (rfA (κ 3) n (va_up f k (some y)))) h = .inr (4, [.int md, .ref ar, .int sz]) := (up_ne n_h_ar).trans e_h
  have e_ar : (va_up F ar (rfA (κ 3) n (va_up f k (some y)))) ar = rfA (κ 3) n (va_up f k (some y)) := up_eq
  have hfr : ∀ q, q ≠ h → q ≠ ar → (va_up F ar (rfA (κ 3) n (va_up f k (some y)))) q = F q := fun q q1 q2 => (up_ne q2).trans (hfr q q1 q2)
  generalize va_up F ar (rfA (κ 3) n (va_up f k (some y))) = F_3 at hW e_h e_ar hfr
  refine lv_aload_n S.1 S.2.1 dJx4a65c_add_72be8_15 rfl (lv_at hl 0 rfl) ?_
  refine lv_iload_n S.1 S.2.1 dJx4a65c_add_72be8_16 rfl (lv_at hl 3 rfl) ?_
  refine lv_iconst (v := 1) S.1 S.2.1 dJx4a65c_add_72be8_17 (by decide) ?_
  refine lv_iadd S.1 S.2.1 dJx4a65c_add_72be8_18 ?_
  refine lv_topi (fun y_4 ey_4 => ?_)
  have ey_4 : y_4 = nI (k + 1) := ey_4.trans (nI_1 k)
  subst ey_4
  refine pk_put (v := .int (nI (k + 1))) S hK hW 2 m_h e_h rfl hinJx4a65c tyJx4a65c_ok nmJx4a65c (by decide) wd_1085 rfl rfl rfl rfl (Nat.le_of_ble_eq_true rfl) dJx4a65c_add_72be8_19 (fun H_5 l_6 hW => ?_)
  have e_h : (va_up F_3 h (.inr (4, ([.int md, .ref ar, .int sz] : List Value).set 2 (.int (nI (k + 1)))))) h = .inr (4, [.int md, .ref ar, .int (nI (k + 1))]) := up_eq
  have e_ar : (va_up F_3 h (.inr (4, ([.int md, .ref ar, .int sz] : List Value).set 2 (.int (nI (k + 1)))))) ar = rfA (κ 3) n (va_up f k (some y)) := (up_ne n_h_ar.symm).trans e_ar
  have hfr : ∀ q, q ≠ h → q ≠ ar → (va_up F_3 h (.inr (4, ([.int md, .ref ar, .int sz] : List Value).set 2 (.int (nI (k + 1)))))) q = F q := fun q q1 q2 => (up_ne q1).trans (hfr q q1 q2)
  generalize va_up F_3 h (.inr (4, ([.int md, .ref ar, .int sz] : List Value).set 2 (.int (nI (k + 1))))) = F_7 at hW e_h e_ar hfr
  exact pk_vret S hr hlk hW ⟨rfl, ⟨m_h, e_h, m_ar, n_h_ar, e_ar⟩, hfr⟩ (by decide) (by decide) dJx4a65c_add_72be8_22
set_option maxHeartbeats 4000000 in
set_option maxRecDepth 100000 in
theorem c_Jx4a65c_add_72be8_fitL {l : Launch} {D : va_G} {κ : Nat → ClassId} {ζ : Nat → Nat} {L : List Nat} {F : Nat → va_E} {h ar n k : Nat} {f : Nat → Option Nat} {md sz : Int32} (hR : RA κ h ar n f md sz L F) (hk : k < n) (hn : n ≤ 32) {y : Nat} {w : List Value} (hb : y ∈ L ∧ F y = .inr (4, w)) : MtV l D cls (ty5 κ) ζ yJx4a65c_add_72be8 cJx4a65c_add_72be8 4 none 6 1 32 ([.ref h, .ref y, .ref ar, .int (nI k)] : List Value) L F (fun L' F' => L = L' ∧ RA κ h ar n (va_up f k (some y)) md (nI (k + 1)) L F' ∧ FrR h ar F F') := by
  refine MtV.of (by decide) (Nat.le_of_ble_eq_true rfl) ?_
  intro p e s m below meth c S hr hlk hini hK hW hST ls hl
  have hl : lv_has ls 4 [(0, .ref h), (1, .ref y), (2, .ref ar), (3, .int (nI k))] := hl
  obtain ⟨m_h, e_h, m_ar, n_h_ar, e_ar⟩ := hR
  have hfr : ∀ q, q ≠ h → q ≠ ar → F q = F q := fun _ _ _ => rfl
  refine lv_iload_n S.1 S.2.1 dJx4a65c_add_72be8_0 rfl (lv_at hl 3 rfl) ?_
  refine lv_aload_n S.1 S.2.1 dJx4a65c_add_72be8_1 rfl (lv_at hl 2 rfl) ?_
  refine pk_alen S hK hW 3 m_ar e_ar rfl rfl dJx4a65c_add_72be8_2 ?_
  refine lv_icmp_ne (tgt := 11) S.1 S.2.1 dJx4a65c_add_72be8_3 (by decide) (fun _ => ?_) (fun c1 => absurd c1 (fun ee => absurd ((nI_eq (by omega) (by omega)).mp ee) (by omega)))
  refine lv_aload_n S.1 S.2.1 dJx4a65c_add_72be8_11 rfl (lv_at hl 2 rfl) ?_
  refine lv_iload_n S.1 S.2.1 dJx4a65c_add_72be8_12 rfl (lv_at hl 3 rfl) ?_
  refine lv_aload_n S.1 S.2.1 dJx4a65c_add_72be8_13 rfl (lv_at hl 1 rfl) ?_
  refine pk_aast S hK hW 3 m_ar e_ar rfl (pk_recv (r := (RJx4a65c, TJx4a65c, 3)) hK hW hb.1 hb.2 rfl) (hST.1.1 _ wn_32) (vp_in_nI (by omega) (by omega)) dJx4a65c_add_72be8_14 (fun H_1 l_2 hW => ?_)
  rw [show (nI k).toNatClampNeg = k from nI_clamp (by omega)] at hW
  have e_h : (va_up F ar (rfA (κ 3) n (va_up f k (some y)))) h = .inr (4, [.int md, .ref ar, .int sz]) := (up_ne n_h_ar).trans e_h
  have e_ar : (va_up F ar (rfA (κ 3) n (va_up f k (some y)))) ar = rfA (κ 3) n (va_up f k (some y)) := up_eq
  have hfr : ∀ q, q ≠ h → q ≠ ar → (va_up F ar (rfA (κ 3) n (va_up f k (some y)))) q = F q := fun q q1 q2 => (up_ne q2).trans (hfr q q1 q2)
  generalize va_up F ar (rfA (κ 3) n (va_up f k (some y))) = F_3 at hW e_h e_ar hfr
  refine lv_aload_n S.1 S.2.1 dJx4a65c_add_72be8_15 rfl (lv_at hl 0 rfl) ?_
  refine lv_iload_n S.1 S.2.1 dJx4a65c_add_72be8_16 rfl (lv_at hl 3 rfl) ?_
  refine lv_iconst (v := 1) S.1 S.2.1 dJx4a65c_add_72be8_17 (by decide) ?_
  refine lv_iadd S.1 S.2.1 dJx4a65c_add_72be8_18 ?_
  refine lv_topi (fun y_4 ey_4 => ?_)
  have ey_4 : y_4 = nI (k + 1) := ey_4.trans (nI_1 k)
  subst ey_4
  refine pk_put (v := .int (nI (k + 1))) S hK hW 2 m_h e_h rfl hinJx4a65c tyJx4a65c_ok nmJx4a65c (by decide) wd_1085 rfl rfl rfl rfl (Nat.le_of_ble_eq_true rfl) dJx4a65c_add_72be8_19 (fun H_5 l_6 hW => ?_)
  have e_h : (va_up F_3 h (.inr (4, ([.int md, .ref ar, .int sz] : List Value).set 2 (.int (nI (k + 1)))))) h = .inr (4, [.int md, .ref ar, .int (nI (k + 1))]) := up_eq
  have e_ar : (va_up F_3 h (.inr (4, ([.int md, .ref ar, .int sz] : List Value).set 2 (.int (nI (k + 1)))))) ar = rfA (κ 3) n (va_up f k (some y)) := (up_ne n_h_ar.symm).trans e_ar
  have hfr : ∀ q, q ≠ h → q ≠ ar → (va_up F_3 h (.inr (4, ([.int md, .ref ar, .int sz] : List Value).set 2 (.int (nI (k + 1)))))) q = F q := fun q q1 q2 => (up_ne q1).trans (hfr q q1 q2)
  generalize va_up F_3 h (.inr (4, ([.int md, .ref ar, .int sz] : List Value).set 2 (.int (nI (k + 1))))) = F_7 at hW e_h e_ar hfr
  exact pk_vret S hr hlk hW ⟨rfl, ⟨m_h, e_h, m_ar, n_h_ar, e_ar⟩, hfr⟩ (by decide) (by decide) dJx4a65c_add_72be8_22
set_option maxHeartbeats 4000000 in
set_option maxRecDepth 100000 in
theorem c_Jx4a65c_add_72be8_full {l : Launch} {D : va_G} {κ : Nat → ClassId} {ζ : Nat → Nat} {L : List Nat} {F : Nat → va_E} {h ar n : Nat} {f : Nat → Option Nat} {md : Int32} (hR : RA κ h ar n f md (nI n) L F) (hn0 : 0 < n) (hn1 : n ≤ 21) (hel : ∀ i, i < n → ∀ y, f i = some y → ∃ v, bx ζ L F y v) {y : Nat} {v : Int32} (hb : bx ζ L F y v) : MtV l D cls (ty5 κ) ζ yJx4a65c_add_72be8 cJx4a65c_add_72be8 4 none 6 1 32 ([.ref h, .ref y, .ref ar, .int (nI n)] : List Value) L F (fun L' F' => (∀ x ∈ L, x ∈ L') ∧ ∃ q, q ∉ L ∧ RA κ h q (n + max 1 (n / 2)) (va_up (va_cpy f (fun _ => none) 0 0 n) n (some y)) md (nI (n + 1)) L' F' ∧ ∀ x ∈ L, x ≠ h → F' x = F x) := by
  refine MtV.of (by decide) (Nat.le_of_ble_eq_true rfl) ?_
  intro p e s m below meth c S hr hlk hini hK hW hST ls hl
  have hl : lv_has ls 4 [(0, .ref h), (1, .ref y), (2, .ref ar), (3, .int (nI n))] := hl
  obtain ⟨m_h, e_h, m_ar, n_h_ar, e_ar⟩ := hR
  refine lv_iload_n S.1 S.2.1 dJx4a65c_add_72be8_0 rfl (lv_at hl 3 rfl) ?_
  refine lv_aload_n S.1 S.2.1 dJx4a65c_add_72be8_1 rfl (lv_at hl 2 rfl) ?_
  refine pk_alen S hK hW 3 m_ar e_ar rfl rfl dJx4a65c_add_72be8_2 ?_
  refine lv_icmp_ne (tgt := 11) S.1 S.2.1 dJx4a65c_add_72be8_3 (by decide) (fun c1 => absurd rfl c1) (fun _ => ?_)
  refine lv_aload_n S.1 S.2.1 dJx4a65c_add_72be8_6 rfl (lv_at hl 0 rfl) ?_
  refine pk_cVR (As := []) (rest := []) S hK hST hW (c_Jx4a65c_grow_d5877_own ⟨m_h, e_h, m_ar, n_h_ar, e_ar⟩ hn0 hn1 hel) mc_Jx4a65c_grow_d5877 wd_1116 wd_1118 wd_1698 rfl np_Jx4a65c_grow_d5877 m_h e_h rfl rfl hl.1 rfl (Nat.le_of_ble_eq_true rfl) dJx4a65c_add_72be8_7 ⟨by decide, by decide⟩ ⟨by decide, by decide⟩ (fun q L1 F1 H1 l1 hp hW => ?_)
  obtain ⟨hsub1, hq_q, hR1, hfr1⟩ := hp
  obtain ⟨m_h1, e_h1, m_q, n_h_q, e_q⟩ := hR1
  have hb := hb.keep e_h hsub1 hfr1
  have m_h := m_h1
  have e_h := e_h1
  have hfr : ∀ x ∈ L, x ≠ h → F1 x = F x := hfr1
  refine lv_astore_n (lv' := [(2, .ref q), (0, .ref h), (1, .ref y), (3, .int (nI n))]) S.1 S.2.1 dJx4a65c_add_72be8_10 rfl hl (Nat.le_of_ble_eq_true rfl) rfl (fun ls hl => ?_)
  refine lv_aload_n S.1 S.2.1 dJx4a65c_add_72be8_11 rfl (lv_at hl 0 rfl) ?_
  refine lv_iload_n S.1 S.2.1 dJx4a65c_add_72be8_12 rfl (lv_at hl 3 rfl) ?_
  refine lv_aload_n S.1 S.2.1 dJx4a65c_add_72be8_13 rfl (lv_at hl 2 rfl) ?_
  refine pk_aast S hK hW 3 m_q e_q rfl (bx_cell hK hW hST hb) (hST.1.1 _ wn_26) (vp_in_nI (by omega) (by omega)) dJx4a65c_add_72be8_14 (fun H_1 l_2 hW => ?_)
  rw [show (nI n).toNatClampNeg = n from nI_clamp (by omega)] at hW
  have e_h : (va_up F1 q (rfA (κ 3) (n + max 1 (n / 2)) (va_up (va_cpy f (fun _ => none) 0 0 n) n (some y)))) h = .inr (4, [.int md, .ref q, .int (nI n)]) := (up_ne n_h_q).trans e_h
  have e_q : (va_up F1 q (rfA (κ 3) (n + max 1 (n / 2)) (va_up (va_cpy f (fun _ => none) 0 0 n) n (some y)))) q = rfA (κ 3) (n + max 1 (n / 2)) (va_up (va_cpy f (fun _ => none) 0 0 n) n (some y)) := up_eq
  have hfr : ∀ x ∈ L, x ≠ h → (va_up F1 q (rfA (κ 3) (n + max 1 (n / 2)) (va_up (va_cpy f (fun _ => none) 0 0 n) n (some y)))) x = F x := fun x hx xh => (up_ne (fun (ee : x = q) => hq_q (ee ▸ hx))).trans (hfr x hx xh)
  generalize va_up F1 q (rfA (κ 3) (n + max 1 (n / 2)) (va_up (va_cpy f (fun _ => none) 0 0 n) n (some y))) = F_3 at hW e_h e_q hfr
  refine lv_aload_n S.1 S.2.1 dJx4a65c_add_72be8_15 rfl (lv_at hl 1 rfl) ?_
  refine lv_iload_n S.1 S.2.1 dJx4a65c_add_72be8_16 rfl (lv_at hl 3 rfl) ?_
  refine lv_iconst (v := 1) S.1 S.2.1 dJx4a65c_add_72be8_17 (by decide) ?_
  refine lv_iadd S.1 S.2.1 dJx4a65c_add_72be8_18 ?_
  refine lv_topi (fun y_4 ey_4 => ?_)
  have ey_4 : y_4 = nI (n + 1) := ey_4.trans (nI_1 n)
  subst ey_4
  refine pk_put (v := .int (nI (n + 1))) S hK hW 2 m_h e_h rfl hinJx4a65c tyJx4a65c_ok nmJx4a65c (by decide) wd_1085 rfl rfl rfl rfl (Nat.le_of_ble_eq_true rfl) dJx4a65c_add_72be8_19 (fun H_5 l_6 hW => ?_)
  have e_h : (va_up F_3 h (.inr (4, ([.int md, .ref q, .int (nI n)] : List Value).set 2 (.int (nI (n + 1)))))) h = .inr (4, [.int md, .ref q, .int (nI (n + 1))]) := up_eq
  have e_q : (va_up F_3 h (.inr (4, ([.int md, .ref q, .int (nI n)] : List Value).set 2 (.int (nI (n + 1)))))) q = rfA (κ 3) (n + max 1 (n / 2)) (va_up (va_cpy f (fun _ => none) 0 0 n) n (some y)) := (up_ne n_h_q.symm).trans e_q
  have hfr : ∀ x ∈ L, x ≠ h → (va_up F_3 h (.inr (4, ([.int md, .ref q, .int (nI n)] : List Value).set 2 (.int (nI (n + 1)))))) x = F x := fun x hx xh => (up_ne xh).trans (hfr x hx xh)
  generalize va_up F_3 h (.inr (4, ([.int md, .ref q, .int (nI n)] : List Value).set 2 (.int (nI (n + 1))))) = F_7 at hW e_h e_q hfr
  exact pk_vret S hr hlk hW ⟨hsub1, q, hq_q, ⟨m_h, e_h, m_q, n_h_q, e_q⟩, hfr⟩ (by decide) (by decide) dJx4a65c_add_72be8_22
set_option maxHeartbeats 4000000 in
set_option maxRecDepth 100000 in
theorem c_Jx4a65c_add_72be8_newI {l : Launch} {D : va_G} {κ : Nat → ClassId} {ζ : Nat → Nat} {L : List Nat} {F : Nat → va_E} {h : Nat} {md : Int32} (hR : RE ζ h md 0 L F) {y : Nat} {v : Int32} (hb : bx ζ L F y v) : MtV l D cls (ty5 κ) ζ yJx4a65c_add_72be8 cJx4a65c_add_72be8 4 none 6 1 32 ([.ref h, .ref y, .ref (ζ 256), .int (nI 0)] : List Value) L F (fun L' F' => (∀ x ∈ L, x ∈ L') ∧ ∃ q, q ∉ L ∧ RA κ h q 10 (va_up (fun _ => none) 0 (some y)) md (nI (0 + 1)) L' F' ∧ ∀ x ∈ L, x ≠ h → F' x = F x) := by
  refine MtV.of (by decide) (Nat.le_of_ble_eq_true rfl) ?_
  intro p e s m below meth c S hr hlk hini hK hW hST ls hl
  have hl : lv_has ls 4 [(0, .ref h), (1, .ref y), (2, .ref (ζ 256)), (3, .int (nI 0))] := hl
  obtain ⟨m_h, e_h⟩ := hR
  refine lv_iload_n S.1 S.2.1 dJx4a65c_add_72be8_0 rfl (lv_at hl 3 rfl) ?_
  refine lv_aload_n S.1 S.2.1 dJx4a65c_add_72be8_1 rfl (lv_at hl 2 rfl) ?_
  refine va_tlen (v := 0) S.1 S.2.1 hST.2.tEmpty hW.2.2 rfl dJx4a65c_add_72be8_2 ?_
  refine lv_icmp_ne (tgt := 11) S.1 S.2.1 dJx4a65c_add_72be8_3 (by decide) (fun c1 => absurd rfl c1) (fun _ => ?_)
  refine lv_aload_n S.1 S.2.1 dJx4a65c_add_72be8_6 rfl (lv_at hl 0 rfl) ?_
  refine pk_cVR (As := []) (rest := []) S hK hST hW (c_Jx4a65c_grow_d5877_new ⟨m_h, e_h⟩) mc_Jx4a65c_grow_d5877 wd_1116 wd_1118 wd_1698 rfl np_Jx4a65c_grow_d5877 m_h e_h rfl rfl hl.1 rfl (Nat.le_of_ble_eq_true rfl) dJx4a65c_add_72be8_7 ⟨by decide, by decide⟩ ⟨by decide, by decide⟩ (fun q L1 F1 H1 l1 hp hW => ?_)
  obtain ⟨hsub1, hq_q, hR1, hfr1⟩ := hp
  obtain ⟨m_h1, e_h1, m_q, n_h_q, e_q⟩ := hR1
  have hb := hb.keep e_h hsub1 hfr1
  have m_h := m_h1
  have e_h := e_h1
  have hfr : ∀ x ∈ L, x ≠ h → F1 x = F x := hfr1
  refine lv_astore_n (lv' := [(2, .ref q), (0, .ref h), (1, .ref y), (3, .int (nI 0))]) S.1 S.2.1 dJx4a65c_add_72be8_10 rfl hl (Nat.le_of_ble_eq_true rfl) rfl (fun ls hl => ?_)
  refine lv_aload_n S.1 S.2.1 dJx4a65c_add_72be8_11 rfl (lv_at hl 0 rfl) ?_
  refine lv_iload_n S.1 S.2.1 dJx4a65c_add_72be8_12 rfl (lv_at hl 3 rfl) ?_
  refine lv_aload_n S.1 S.2.1 dJx4a65c_add_72be8_13 rfl (lv_at hl 2 rfl) ?_
  refine pk_aast S hK hW 3 m_q e_q rfl (bx_cell hK hW hST hb) (hST.1.1 _ wn_26) (vp_in_nI (by omega) (by omega)) dJx4a65c_add_72be8_14 (fun H_1 l_2 hW => ?_)
  rw [show (nI 0).toNatClampNeg = 0 from nI_clamp (by omega)] at hW
  have e_h : (va_up F1 q (rfA (κ 3) 10 (va_up (fun _ => none) 0 (some y)))) h = .inr (4, [.int md, .ref q, .int 0]) := (up_ne n_h_q).trans e_h
  have e_q : (va_up F1 q (rfA (κ 3) 10 (va_up (fun _ => none) 0 (some y)))) q = rfA (κ 3) 10 (va_up (fun _ => none) 0 (some y)) := up_eq
  have hfr : ∀ x ∈ L, x ≠ h → (va_up F1 q (rfA (κ 3) 10 (va_up (fun _ => none) 0 (some y)))) x = F x := fun x hx xh => (up_ne (fun (ee : x = q) => hq_q (ee ▸ hx))).trans (hfr x hx xh)
  generalize va_up F1 q (rfA (κ 3) 10 (va_up (fun _ => none) 0 (some y))) = F_3 at hW e_h e_q hfr
  refine lv_aload_n S.1 S.2.1 dJx4a65c_add_72be8_15 rfl (lv_at hl 1 rfl) ?_
  refine lv_iload_n S.1 S.2.1 dJx4a65c_add_72be8_16 rfl (lv_at hl 3 rfl) ?_
  refine lv_iconst (v := 1) S.1 S.2.1 dJx4a65c_add_72be8_17 (by decide) ?_
  refine lv_iadd S.1 S.2.1 dJx4a65c_add_72be8_18 ?_
  refine lv_topi (fun y_4 ey_4 => ?_)
  have ey_4 : y_4 = nI (0 + 1) := ey_4.trans (nI_1 0)
  subst ey_4
  refine pk_put (v := .int (nI (0 + 1))) S hK hW 2 m_h e_h rfl hinJx4a65c tyJx4a65c_ok nmJx4a65c (by decide) wd_1085 rfl rfl rfl rfl (Nat.le_of_ble_eq_true rfl) dJx4a65c_add_72be8_19 (fun H_5 l_6 hW => ?_)
  have e_h : (va_up F_3 h (.inr (4, ([.int md, .ref q, .int 0] : List Value).set 2 (.int (nI (0 + 1)))))) h = .inr (4, [.int md, .ref q, .int (nI (0 + 1))]) := up_eq
  have e_q : (va_up F_3 h (.inr (4, ([.int md, .ref q, .int 0] : List Value).set 2 (.int (nI (0 + 1)))))) q = rfA (κ 3) 10 (va_up (fun _ => none) 0 (some y)) := (up_ne n_h_q.symm).trans e_q
  have hfr : ∀ x ∈ L, x ≠ h → (va_up F_3 h (.inr (4, ([.int md, .ref q, .int 0] : List Value).set 2 (.int (nI (0 + 1)))))) x = F x := fun x hx xh => (up_ne xh).trans (hfr x hx xh)
  generalize va_up F_3 h (.inr (4, ([.int md, .ref q, .int 0] : List Value).set 2 (.int (nI (0 + 1))))) = F_7 at hW e_h e_q hfr
  exact pk_vret S hr hlk hW ⟨hsub1, q, hq_q, ⟨m_h, e_h, m_q, n_h_q, e_q⟩, hfr⟩ (by decide) (by decide) dJx4a65c_add_72be8_22
set_option maxHeartbeats 4000000 in
set_option maxRecDepth 100000 in
theorem c_Jx4a65c_add_72be8_newL {l : Launch} {D : va_G} {κ : Nat → ClassId} {ζ : Nat → Nat} {L : List Nat} {F : Nat → va_E} {h : Nat} {md : Int32} (hR : RE ζ h md 0 L F) {y : Nat} {w : List Value} (hyh : y ≠ h) (hb : y ∈ L ∧ F y = .inr (4, w)) : MtV l D cls (ty5 κ) ζ yJx4a65c_add_72be8 cJx4a65c_add_72be8 4 none 6 1 32 ([.ref h, .ref y, .ref (ζ 256), .int (nI 0)] : List Value) L F (fun L' F' => (∀ x ∈ L, x ∈ L') ∧ ∃ q, q ∉ L ∧ RA κ h q 10 (va_up (fun _ => none) 0 (some y)) md (nI (0 + 1)) L' F' ∧ ∀ x ∈ L, x ≠ h → F' x = F x) := by
  refine MtV.of (by decide) (Nat.le_of_ble_eq_true rfl) ?_
  intro p e s m below meth c S hr hlk hini hK hW hST ls hl
  have hl : lv_has ls 4 [(0, .ref h), (1, .ref y), (2, .ref (ζ 256)), (3, .int (nI 0))] := hl
  obtain ⟨m_h, e_h⟩ := hR
  refine lv_iload_n S.1 S.2.1 dJx4a65c_add_72be8_0 rfl (lv_at hl 3 rfl) ?_
  refine lv_aload_n S.1 S.2.1 dJx4a65c_add_72be8_1 rfl (lv_at hl 2 rfl) ?_
  refine va_tlen (v := 0) S.1 S.2.1 hST.2.tEmpty hW.2.2 rfl dJx4a65c_add_72be8_2 ?_
  refine lv_icmp_ne (tgt := 11) S.1 S.2.1 dJx4a65c_add_72be8_3 (by decide) (fun c1 => absurd rfl c1) (fun _ => ?_)
  refine lv_aload_n S.1 S.2.1 dJx4a65c_add_72be8_6 rfl (lv_at hl 0 rfl) ?_
  refine pk_cVR (As := []) (rest := []) S hK hST hW (c_Jx4a65c_grow_d5877_new ⟨m_h, e_h⟩) mc_Jx4a65c_grow_d5877 wd_1116 wd_1118 wd_1698 rfl np_Jx4a65c_grow_d5877 m_h e_h rfl rfl hl.1 rfl (Nat.le_of_ble_eq_true rfl) dJx4a65c_add_72be8_7 ⟨by decide, by decide⟩ ⟨by decide, by decide⟩ (fun q L1 F1 H1 l1 hp hW => ?_)
  obtain ⟨hsub1, hq_q, hR1, hfr1⟩ := hp
  obtain ⟨m_h1, e_h1, m_q, n_h_q, e_q⟩ := hR1
  have m_h := m_h1
  have e_h := e_h1
  have hfr : ∀ x ∈ L, x ≠ h → F1 x = F x := hfr1
  have hb := And.intro (hsub1 _ hb.1) ((hfr1 _ hb.1 hyh).trans hb.2)
  refine lv_astore_n (lv' := [(2, .ref q), (0, .ref h), (1, .ref y), (3, .int (nI 0))]) S.1 S.2.1 dJx4a65c_add_72be8_10 rfl hl (Nat.le_of_ble_eq_true rfl) rfl (fun ls hl => ?_)
  refine lv_aload_n S.1 S.2.1 dJx4a65c_add_72be8_11 rfl (lv_at hl 0 rfl) ?_
  refine lv_iload_n S.1 S.2.1 dJx4a65c_add_72be8_12 rfl (lv_at hl 3 rfl) ?_
  refine lv_aload_n S.1 S.2.1 dJx4a65c_add_72be8_13 rfl (lv_at hl 2 rfl) ?_
  refine pk_aast S hK hW 3 m_q e_q rfl (pk_recv (r := (RJx4a65c, TJx4a65c, 3)) hK hW hb.1 hb.2 rfl) (hST.1.1 _ wn_32) (vp_in_nI (by omega) (by omega)) dJx4a65c_add_72be8_14 (fun H_1 l_2 hW => ?_)
  rw [show (nI 0).toNatClampNeg = 0 from nI_clamp (by omega)] at hW
  have e_h : (va_up F1 q (rfA (κ 3) 10 (va_up (fun _ => none) 0 (some y)))) h = .inr (4, [.int md, .ref q, .int 0]) := (up_ne n_h_q).trans e_h
  have e_q : (va_up F1 q (rfA (κ 3) 10 (va_up (fun _ => none) 0 (some y)))) q = rfA (κ 3) 10 (va_up (fun _ => none) 0 (some y)) := up_eq
  have hfr : ∀ x ∈ L, x ≠ h → (va_up F1 q (rfA (κ 3) 10 (va_up (fun _ => none) 0 (some y)))) x = F x := fun x hx xh => (up_ne (fun (ee : x = q) => hq_q (ee ▸ hx))).trans (hfr x hx xh)
  generalize va_up F1 q (rfA (κ 3) 10 (va_up (fun _ => none) 0 (some y))) = F_3 at hW e_h e_q hfr
  refine lv_aload_n S.1 S.2.1 dJx4a65c_add_72be8_15 rfl (lv_at hl 1 rfl) ?_
  refine lv_iload_n S.1 S.2.1 dJx4a65c_add_72be8_16 rfl (lv_at hl 3 rfl) ?_
  refine lv_iconst (v := 1) S.1 S.2.1 dJx4a65c_add_72be8_17 (by decide) ?_
  refine lv_iadd S.1 S.2.1 dJx4a65c_add_72be8_18 ?_
  refine lv_topi (fun y_4 ey_4 => ?_)
  have ey_4 : y_4 = nI (0 + 1) := ey_4.trans (nI_1 0)
  subst ey_4
  refine pk_put (v := .int (nI (0 + 1))) S hK hW 2 m_h e_h rfl hinJx4a65c tyJx4a65c_ok nmJx4a65c (by decide) wd_1085 rfl rfl rfl rfl (Nat.le_of_ble_eq_true rfl) dJx4a65c_add_72be8_19 (fun H_5 l_6 hW => ?_)
  have e_h : (va_up F_3 h (.inr (4, ([.int md, .ref q, .int 0] : List Value).set 2 (.int (nI (0 + 1)))))) h = .inr (4, [.int md, .ref q, .int (nI (0 + 1))]) := up_eq
  have e_q : (va_up F_3 h (.inr (4, ([.int md, .ref q, .int 0] : List Value).set 2 (.int (nI (0 + 1)))))) q = rfA (κ 3) 10 (va_up (fun _ => none) 0 (some y)) := (up_ne n_h_q.symm).trans e_q
  have hfr : ∀ x ∈ L, x ≠ h → (va_up F_3 h (.inr (4, ([.int md, .ref q, .int 0] : List Value).set 2 (.int (nI (0 + 1)))))) x = F x := fun x hx xh => (up_ne xh).trans (hfr x hx xh)
  generalize va_up F_3 h (.inr (4, ([.int md, .ref q, .int 0] : List Value).set 2 (.int (nI (0 + 1))))) = F_7 at hW e_h e_q hfr
  exact pk_vret S hr hlk hW ⟨hsub1, q, hq_q, ⟨m_h, e_h, m_q, n_h_q, e_q⟩, hfr⟩ (by decide) (by decide) dJx4a65c_add_72be8_22
end
section
/-! ArrayList: add, add at a place, remove, clear -/
theorem mc_Jx4a65c_add_9ea2d : MCode yJx4a65c_add_9ea2d cJx4a65c_add_9ea2d 2 (some .boolean) := ⟨wd_1111, wd_8, by decide, by decide⟩
theorem np_Jx4a65c_add_9ea2d : (parseMethodDescriptor yJx4a65c_add_9ea2d.desc).map (fun d => d.parameters.length) = some 1 := by decide +kernel
set_option maxHeartbeats 4000000 in
set_option maxRecDepth 100000 in
theorem c_Jx4a65c_add_9ea2d_fitI {l : Launch} {D : va_G} {κ : Nat → ClassId} {ζ : Nat → Nat} {L : List Nat} {F : Nat → va_E} {h ar n k : Nat} {f : Nat → Option Nat} {md : Int32} (hR : RA κ h ar n f md (nI k) L F) (hk : k < n) (hn : n ≤ 32) {y : Nat} {v : Int32} (hb : bx ζ L F y v) : MtI l D cls (ty5 κ) ζ yJx4a65c_add_9ea2d cJx4a65c_add_9ea2d 2 (some .boolean) 7 1 32 ([.ref h, .ref y] : List Value) L F (fun r L' F' => L = L' ∧ RA κ h ar n (va_up f k (some y)) (md + 1) (nI (k + 1)) L F' ∧ FrR h ar F F') := by
  refine MtI.of (by decide) (Nat.le_of_ble_eq_true rfl) ?_
  intro p e s m below meth c S hr hlk hini hK hW hST ls hl
  have hl : lv_has ls 2 [(0, .ref h), (1, .ref y)] := hl
  obtain ⟨m_h, e_h, m_ar, n_h_ar, e_ar⟩ := hR
  have e0 := e_h
  have e_ar0 := e_ar
  have hfr : ∀ q, q ≠ h → q ≠ ar → F q = F q := fun _ _ _ => rfl
  refine lv_aload_n S.1 S.2.1 dJx4a65c_add_9ea2d_0 rfl (lv_at hl 0 rfl) ?_
  refine lv_dup S.1 S.2.1 dJx4a65c_add_9ea2d_1 rfl ?_
  refine pk_getU S hK hW 0 m_h e_h rfl hinJx4a65c (by decide) wd_1089 wd_1088 rfl dJx4a65c_add_9ea2d_2 ?_
  refine lv_iconst (v := 1) S.1 S.2.1 dJx4a65c_add_9ea2d_5 (by decide) ?_
  refine lv_iadd S.1 S.2.1 dJx4a65c_add_9ea2d_6 ?_
  refine pk_putU (v := .int (md + 1)) S hK hW 0 m_h e_h rfl hinJx4a65c tyJx4a65c_ok nmJx4a65c (by decide) wd_1089 wd_1088 rfl rfl rfl rfl (Nat.le_of_ble_eq_true rfl) dJx4a65c_add_9ea2d_7 (fun H_1 l_2 hW => ?_)
  have e_h : (va_up F h (.inr (4, ([.int md, .ref ar, .int (nI k)] : List Value).set 0 (.int (md + 1))))) h = .inr (4, [.int (md + 1), .ref ar, .int (nI k)]) := up_eq
  have e_ar : (va_up F h (.inr (4, ([.int md, .ref ar, .int (nI k)] : List Value).set 0 (.int (md + 1))))) ar = rfA (κ 3) n f := (up_ne n_h_ar.symm).trans e_ar
  have hfr : ∀ q, q ≠ h → q ≠ ar → (va_up F h (.inr (4, ([.int md, .ref ar, .int (nI k)] : List Value).set 0 (.int (md + 1))))) q = F q := fun q q1 q2 => (up_ne q1).trans (hfr q q1 q2)
  generalize va_up F h (.inr (4, ([.int md, .ref ar, .int (nI k)] : List Value).set 0 (.int (md + 1)))) = F_3 at hW e_h e_ar hfr
  refine lv_aload_n S.1 S.2.1 dJx4a65c_add_9ea2d_10 rfl (lv_at hl 0 rfl) ?_
  refine lv_aload_n S.1 S.2.1 dJx4a65c_add_9ea2d_11 rfl (lv_at hl 1 rfl) ?_
  refine lv_aload_n S.1 S.2.1 dJx4a65c_add_9ea2d_12 rfl (lv_at hl 0 rfl) ?_
  refine pk_get S hK hW 1 m_h e_h rfl hinJx4a65c (by decide) wd_1083 rfl dJx4a65c_add_9ea2d_13 ?_
  refine lv_aload_n S.1 S.2.1 dJx4a65c_add_9ea2d_16 rfl (lv_at hl 0 rfl) ?_
  refine pk_get S hK hW 2 m_h e_h rfl hinJx4a65c (by decide) wd_1085 rfl dJx4a65c_add_9ea2d_17 ?_
  have hb := hb.keep e0 (fun x hx => hx) (fun x hx xh => if xa : x = ar then by rw [xa, e_ar, e_ar0] else hfr x xh xa)
  refine pk_cVV (As := [.ref y, .ref ar, .int (nI k)]) (rest := []) S hK hST hW (c_Jx4a65c_add_72be8_fitI ⟨m_h, e_h, m_ar, n_h_ar, e_ar⟩ hk hn hb) mc_Jx4a65c_add_72be8 wd_1112 wd_1114 wd_1697 rfl np_Jx4a65c_add_72be8 m_h e_h rfl rfl hl.1 rfl (Nat.le_of_ble_eq_true rfl) dJx4a65c_add_9ea2d_20 ⟨by decide, by decide⟩ ⟨by decide, by decide⟩ (fun L1 F1 H1 l1 hp hW => ?_)
  obtain ⟨rfl, hR1, hfr1⟩ := hp
  refine lv_iconst (v := 1) S.1 S.2.1 dJx4a65c_add_9ea2d_23 (by decide) ?_
  exact pk_zret S hr hlk hW (by decide) ⟨rfl, hR1, FrR.tr hfr hfr1⟩ (by decide) (by decide) dJx4a65c_add_9ea2d_24
set_option maxHeartbeats 4000000 in
set_option maxRecDepth 100000 in
theorem c_Jx4a65c_add_9ea2d_newI {l : Launch} {D : va_G} {κ : Nat → ClassId} {ζ : Nat → Nat} {L : List Nat} {F : Nat → va_E} {h : Nat} {md : Int32} (hR : RE ζ h md 0 L F) {y : Nat} {v : Int32} (hb : bx ζ L F y v) : MtI l D cls (ty5 κ) ζ yJx4a65c_add_9ea2d cJx4a65c_add_9ea2d 2 (some .boolean) 7 1 32 ([.ref h, .ref y] : List Value) L F (fun r L' F' => (∀ x ∈ L, x ∈ L') ∧ ∃ q, q ∉ L ∧ RA κ h q 10 (va_up (fun _ => none) 0 (some y)) (md + 1) (nI (0 + 1)) L' F' ∧ ∀ x ∈ L, x ≠ h → F' x = F x) := by
  refine MtI.of (by decide) (Nat.le_of_ble_eq_true rfl) ?_
  intro p e s m below meth c S hr hlk hini hK hW hST ls hl
  have hl : lv_has ls 2 [(0, .ref h), (1, .ref y)] := hl
  obtain ⟨m_h, e_h⟩ := hR
  have e0 := e_h
  have hfr : ∀ q, q ≠ h → F q = F q := fun _ _ => rfl
  refine lv_aload_n S.1 S.2.1 dJx4a65c_add_9ea2d_0 rfl (lv_at hl 0 rfl) ?_
  refine lv_dup S.1 S.2.1 dJx4a65c_add_9ea2d_1 rfl ?_
  refine pk_getU S hK hW 0 m_h e_h rfl hinJx4a65c (by decide) wd_1089 wd_1088 rfl dJx4a65c_add_9ea2d_2 ?_
  refine lv_iconst (v := 1) S.1 S.2.1 dJx4a65c_add_9ea2d_5 (by decide) ?_
  refine lv_iadd S.1 S.2.1 dJx4a65c_add_9ea2d_6 ?_
  refine pk_putU (v := .int (md + 1)) S hK hW 0 m_h e_h rfl hinJx4a65c tyJx4a65c_ok nmJx4a65c (by decide) wd_1089 wd_1088 rfl rfl rfl rfl (Nat.le_of_ble_eq_true rfl) dJx4a65c_add_9ea2d_7 (fun H_1 l_2 hW => ?_)
  have e_h : (va_up F h (.inr (4, ([.int md, .ref (ζ 256), .int 0] : List Value).set 0 (.int (md + 1))))) h = .inr (4, [.int (md + 1), .ref (ζ 256), .int 0]) := up_eq
  have hfr : ∀ q, q ≠ h → (va_up F h (.inr (4, ([.int md, .ref (ζ 256), .int 0] : List Value).set 0 (.int (md + 1))))) q = F q := fun q q1 => (up_ne q1).trans (hfr q q1)
  generalize va_up F h (.inr (4, ([.int md, .ref (ζ 256), .int 0] : List Value).set 0 (.int (md + 1)))) = F_3 at hW e_h hfr
  refine lv_aload_n S.1 S.2.1 dJx4a65c_add_9ea2d_10 rfl (lv_at hl 0 rfl) ?_
  refine lv_aload_n S.1 S.2.1 dJx4a65c_add_9ea2d_11 rfl (lv_at hl 1 rfl) ?_
  refine lv_aload_n S.1 S.2.1 dJx4a65c_add_9ea2d_12 rfl (lv_at hl 0 rfl) ?_
  refine pk_get S hK hW 1 m_h e_h rfl hinJx4a65c (by decide) wd_1083 rfl dJx4a65c_add_9ea2d_13 ?_
  refine lv_aload_n S.1 S.2.1 dJx4a65c_add_9ea2d_16 rfl (lv_at hl 0 rfl) ?_
  refine pk_get S hK hW 2 m_h e_h rfl hinJx4a65c (by decide) wd_1085 rfl dJx4a65c_add_9ea2d_17 ?_
  have hb := hb.keep e0 (fun x hx => hx) (fun x _ hx => hfr x hx)
  refine pk_cVV (As := [.ref y, .ref (ζ 256), .int 0]) (rest := []) S hK hST hW (c_Jx4a65c_add_72be8_newI ⟨m_h, e_h⟩ hb) mc_Jx4a65c_add_72be8 wd_1112 wd_1114 wd_1697 rfl np_Jx4a65c_add_72be8 m_h e_h rfl rfl hl.1 rfl (Nat.le_of_ble_eq_true rfl) dJx4a65c_add_9ea2d_20 ⟨by decide, by decide⟩ ⟨by decide, by decide⟩ (fun L1 F1 H1 l1 hp hW => ?_)
  obtain ⟨hsub1, q, hq_q, hR1, hfr1⟩ := hp
  refine lv_iconst (v := 1) S.1 S.2.1 dJx4a65c_add_9ea2d_23 (by decide) ?_
  exact pk_zret S hr hlk hW (by decide) ⟨hsub1, q, hq_q, hR1, fun x hx xh => (hfr1 x hx xh).trans (hfr x xh)⟩ (by decide) (by decide) dJx4a65c_add_9ea2d_24
set_option maxHeartbeats 4000000 in
set_option maxRecDepth 100000 in
theorem c_Jx4a65c_add_9ea2d_fitL {l : Launch} {D : va_G} {κ : Nat → ClassId} {ζ : Nat → Nat} {L : List Nat} {F : Nat → va_E} {h ar n k : Nat} {f : Nat → Option Nat} {md : Int32} (hR : RA κ h ar n f md (nI k) L F) (hk : k < n) (hn : n ≤ 32) {y : Nat} {w : List Value} (hyh : y ≠ h) (hb : y ∈ L ∧ F y = .inr (4, w)) : MtI l D cls (ty5 κ) ζ yJx4a65c_add_9ea2d cJx4a65c_add_9ea2d 2 (some .boolean) 7 1 32 ([.ref h, .ref y] : List Value) L F (fun r L' F' => L = L' ∧ RA κ h ar n (va_up f k (some y)) (md + 1) (nI (k + 1)) L F' ∧ FrR h ar F F') := by
  refine MtI.of (by decide) (Nat.le_of_ble_eq_true rfl) ?_
  intro p e s m below meth c S hr hlk hini hK hW hST ls hl
  have hl : lv_has ls 2 [(0, .ref h), (1, .ref y)] := hl
  obtain ⟨m_h, e_h, m_ar, n_h_ar, e_ar⟩ := hR
  have e0 := e_h
  have e_ar0 := e_ar
  have hfr : ∀ q, q ≠ h → q ≠ ar → F q = F q := fun _ _ _ => rfl
  refine lv_aload_n S.1 S.2.1 dJx4a65c_add_9ea2d_0 rfl (lv_at hl 0 rfl) ?_
  refine lv_dup S.1 S.2.1 dJx4a65c_add_9ea2d_1 rfl ?_
  refine pk_getU S hK hW 0 m_h e_h rfl hinJx4a65c (by decide) wd_1089 wd_1088 rfl dJx4a65c_add_9ea2d_2 ?_
  refine lv_iconst (v := 1) S.1 S.2.1 dJx4a65c_add_9ea2d_5 (by decide) ?_
  refine lv_iadd S.1 S.2.1 dJx4a65c_add_9ea2d_6 ?_
  refine pk_putU (v := .int (md + 1)) S hK hW 0 m_h e_h rfl hinJx4a65c tyJx4a65c_ok nmJx4a65c (by decide) wd_1089 wd_1088 rfl rfl rfl rfl (Nat.le_of_ble_eq_true rfl) dJx4a65c_add_9ea2d_7 (fun H_1 l_2 hW => ?_)
  have e_h : (va_up F h (.inr (4, ([.int md, .ref ar, .int (nI k)] : List Value).set 0 (.int (md + 1))))) h = .inr (4, [.int (md + 1), .ref ar, .int (nI k)]) := up_eq
  have e_ar : (va_up F h (.inr (4, ([.int md, .ref ar, .int (nI k)] : List Value).set 0 (.int (md + 1))))) ar = rfA (κ 3) n f := (up_ne n_h_ar.symm).trans e_ar
  have hfr : ∀ q, q ≠ h → q ≠ ar → (va_up F h (.inr (4, ([.int md, .ref ar, .int (nI k)] : List Value).set 0 (.int (md + 1))))) q = F q := fun q q1 q2 => (up_ne q1).trans (hfr q q1 q2)
  generalize va_up F h (.inr (4, ([.int md, .ref ar, .int (nI k)] : List Value).set 0 (.int (md + 1)))) = F_3 at hW e_h e_ar hfr
  refine lv_aload_n S.1 S.2.1 dJx4a65c_add_9ea2d_10 rfl (lv_at hl 0 rfl) ?_
  refine lv_aload_n S.1 S.2.1 dJx4a65c_add_9ea2d_11 rfl (lv_at hl 1 rfl) ?_
  refine lv_aload_n S.1 S.2.1 dJx4a65c_add_9ea2d_12 rfl (lv_at hl 0 rfl) ?_
  refine pk_get S hK hW 1 m_h e_h rfl hinJx4a65c (by decide) wd_1083 rfl dJx4a65c_add_9ea2d_13 ?_
  refine lv_aload_n S.1 S.2.1 dJx4a65c_add_9ea2d_16 rfl (lv_at hl 0 rfl) ?_
  refine pk_get S hK hW 2 m_h e_h rfl hinJx4a65c (by decide) wd_1085 rfl dJx4a65c_add_9ea2d_17 ?_
  have hb := And.intro hb.1 ((if xa : y = ar then by rw [xa, e_ar, e_ar0] else hfr y hyh xa : _ = _).trans hb.2)
  refine pk_cVV (As := [.ref y, .ref ar, .int (nI k)]) (rest := []) S hK hST hW (c_Jx4a65c_add_72be8_fitL ⟨m_h, e_h, m_ar, n_h_ar, e_ar⟩ hk hn hb) mc_Jx4a65c_add_72be8 wd_1112 wd_1114 wd_1697 rfl np_Jx4a65c_add_72be8 m_h e_h rfl rfl hl.1 rfl (Nat.le_of_ble_eq_true rfl) dJx4a65c_add_9ea2d_20 ⟨by decide, by decide⟩ ⟨by decide, by decide⟩ (fun L1 F1 H1 l1 hp hW => ?_)
  obtain ⟨rfl, hR1, hfr1⟩ := hp
  refine lv_iconst (v := 1) S.1 S.2.1 dJx4a65c_add_9ea2d_23 (by decide) ?_
  exact pk_zret S hr hlk hW (by decide) ⟨rfl, hR1, FrR.tr hfr hfr1⟩ (by decide) (by decide) dJx4a65c_add_9ea2d_24
set_option maxHeartbeats 4000000 in
set_option maxRecDepth 100000 in
theorem c_Jx4a65c_add_9ea2d_newL {l : Launch} {D : va_G} {κ : Nat → ClassId} {ζ : Nat → Nat} {L : List Nat} {F : Nat → va_E} {h : Nat} {md : Int32} (hR : RE ζ h md 0 L F) {y : Nat} {w : List Value} (hyh : y ≠ h) (hb : y ∈ L ∧ F y = .inr (4, w)) : MtI l D cls (ty5 κ) ζ yJx4a65c_add_9ea2d cJx4a65c_add_9ea2d 2 (some .boolean) 7 1 32 ([.ref h, .ref y] : List Value) L F (fun r L' F' => (∀ x ∈ L, x ∈ L') ∧ ∃ q, q ∉ L ∧ RA κ h q 10 (va_up (fun _ => none) 0 (some y)) (md + 1) (nI (0 + 1)) L' F' ∧ ∀ x ∈ L, x ≠ h → F' x = F x) := by
  refine MtI.of (by decide) (Nat.le_of_ble_eq_true rfl) ?_
  intro p e s m below meth c S hr hlk hini hK hW hST ls hl
  have hl : lv_has ls 2 [(0, .ref h), (1, .ref y)] := hl
  obtain ⟨m_h, e_h⟩ := hR
  have e0 := e_h
  have hfr : ∀ q, q ≠ h → F q = F q := fun _ _ => rfl
  refine lv_aload_n S.1 S.2.1 dJx4a65c_add_9ea2d_0 rfl (lv_at hl 0 rfl) ?_
  refine lv_dup S.1 S.2.1 dJx4a65c_add_9ea2d_1 rfl ?_
  refine pk_getU S hK hW 0 m_h e_h rfl hinJx4a65c (by decide) wd_1089 wd_1088 rfl dJx4a65c_add_9ea2d_2 ?_
  refine lv_iconst (v := 1) S.1 S.2.1 dJx4a65c_add_9ea2d_5 (by decide) ?_
  refine lv_iadd S.1 S.2.1 dJx4a65c_add_9ea2d_6 ?_
  refine pk_putU (v := .int (md + 1)) S hK hW 0 m_h e_h rfl hinJx4a65c tyJx4a65c_ok nmJx4a65c (by decide) wd_1089 wd_1088 rfl rfl rfl rfl (Nat.le_of_ble_eq_true rfl) dJx4a65c_add_9ea2d_7 (fun H_1 l_2 hW => ?_)
  have e_h : (va_up F h (.inr (4, ([.int md, .ref (ζ 256), .int 0] : List Value).set 0 (.int (md + 1))))) h = .inr (4, [.int (md + 1), .ref (ζ 256), .int 0]) := up_eq
  have hfr : ∀ q, q ≠ h → (va_up F h (.inr (4, ([.int md, .ref (ζ 256), .int 0] : List Value).set 0 (.int (md + 1))))) q = F q := fun q q1 => (up_ne q1).trans (hfr q q1)
  generalize va_up F h (.inr (4, ([.int md, .ref (ζ 256), .int 0] : List Value).set 0 (.int (md + 1)))) = F_3 at hW e_h hfr
  refine lv_aload_n S.1 S.2.1 dJx4a65c_add_9ea2d_10 rfl (lv_at hl 0 rfl) ?_
  refine lv_aload_n S.1 S.2.1 dJx4a65c_add_9ea2d_11 rfl (lv_at hl 1 rfl) ?_
  refine lv_aload_n S.1 S.2.1 dJx4a65c_add_9ea2d_12 rfl (lv_at hl 0 rfl) ?_
  refine pk_get S hK hW 1 m_h e_h rfl hinJx4a65c (by decide) wd_1083 rfl dJx4a65c_add_9ea2d_13 ?_
  refine lv_aload_n S.1 S.2.1 dJx4a65c_add_9ea2d_16 rfl (lv_at hl 0 rfl) ?_
  refine pk_get S hK hW 2 m_h e_h rfl hinJx4a65c (by decide) wd_1085 rfl dJx4a65c_add_9ea2d_17 ?_
  have hb := And.intro hb.1 ((hfr y hyh).trans hb.2)
  refine pk_cVV (As := [.ref y, .ref (ζ 256), .int 0]) (rest := []) S hK hST hW (c_Jx4a65c_add_72be8_newL ⟨m_h, e_h⟩ hyh hb) mc_Jx4a65c_add_72be8 wd_1112 wd_1114 wd_1697 rfl np_Jx4a65c_add_72be8 m_h e_h rfl rfl hl.1 rfl (Nat.le_of_ble_eq_true rfl) dJx4a65c_add_9ea2d_20 ⟨by decide, by decide⟩ ⟨by decide, by decide⟩ (fun L1 F1 H1 l1 hp hW => ?_)
  obtain ⟨hsub1, q, hq_q, hR1, hfr1⟩ := hp
  refine lv_iconst (v := 1) S.1 S.2.1 dJx4a65c_add_9ea2d_23 (by decide) ?_
  exact pk_zret S hr hlk hW (by decide) ⟨hsub1, q, hq_q, hR1, fun x hx xh => (hfr1 x hx xh).trans (hfr x xh)⟩ (by decide) (by decide) dJx4a65c_add_9ea2d_24
set_option maxHeartbeats 4000000 in
set_option maxRecDepth 100000 in
theorem c_Jx4a65c_add_9ea2d_full {l : Launch} {D : va_G} {κ : Nat → ClassId} {ζ : Nat → Nat} {L : List Nat} {F : Nat → va_E} {h ar n : Nat} {f : Nat → Option Nat} {md : Int32} (hR : RA κ h ar n f md (nI n) L F) (hn0 : 0 < n) (hn1 : n ≤ 21) (hel : ∀ i, i < n → ∀ y, f i = some y → ∃ v, bx ζ L F y v) {y : Nat} {v : Int32} (hb : bx ζ L F y v) : MtI l D cls (ty5 κ) ζ yJx4a65c_add_9ea2d cJx4a65c_add_9ea2d 2 (some .boolean) 7 1 32 ([.ref h, .ref y] : List Value) L F (fun r L' F' => (∀ x ∈ L, x ∈ L') ∧ ∃ q, q ∉ L ∧ RA κ h q (n + max 1 (n / 2)) (va_up (va_cpy f (fun _ => none) 0 0 n) n (some y)) (md + 1) (nI (n + 1)) L' F' ∧ ∀ x ∈ L, x ≠ h → F' x = F x) := by
  refine MtI.of (by decide) (Nat.le_of_ble_eq_true rfl) ?_
  intro p e s m below meth c S hr hlk hini hK hW hST ls hl
  have hl : lv_has ls 2 [(0, .ref h), (1, .ref y)] := hl
  obtain ⟨m_h, e_h, m_ar, n_h_ar, e_ar⟩ := hR
  have e0 := e_h
  have e_ar0 := e_ar
  have hfr : ∀ q, q ≠ h → q ≠ ar → F q = F q := fun _ _ _ => rfl
  refine lv_aload_n S.1 S.2.1 dJx4a65c_add_9ea2d_0 rfl (lv_at hl 0 rfl) ?_
  refine lv_dup S.1 S.2.1 dJx4a65c_add_9ea2d_1 rfl ?_
  refine pk_getU S hK hW 0 m_h e_h rfl hinJx4a65c (by decide) wd_1089 wd_1088 rfl dJx4a65c_add_9ea2d_2 ?_
  refine lv_iconst (v := 1) S.1 S.2.1 dJx4a65c_add_9ea2d_5 (by decide) ?_
  refine lv_iadd S.1 S.2.1 dJx4a65c_add_9ea2d_6 ?_
  refine pk_putU (v := .int (md + 1)) S hK hW 0 m_h e_h rfl hinJx4a65c tyJx4a65c_ok nmJx4a65c (by decide) wd_1089 wd_1088 rfl rfl rfl rfl (Nat.le_of_ble_eq_true rfl) dJx4a65c_add_9ea2d_7 (fun H_1 l_2 hW => ?_)
  have e_h : (va_up F h (.inr (4, ([.int md, .ref ar, .int (nI n)] : List Value).set 0 (.int (md + 1))))) h = .inr (4, [.int (md + 1), .ref ar, .int (nI n)]) := up_eq
  have e_ar : (va_up F h (.inr (4, ([.int md, .ref ar, .int (nI n)] : List Value).set 0 (.int (md + 1))))) ar = rfA (κ 3) n f := (up_ne n_h_ar.symm).trans e_ar
  have hfr : ∀ q, q ≠ h → q ≠ ar → (va_up F h (.inr (4, ([.int md, .ref ar, .int (nI n)] : List Value).set 0 (.int (md + 1))))) q = F q := fun q q1 q2 => (up_ne q1).trans (hfr q q1 q2)
  generalize va_up F h (.inr (4, ([.int md, .ref ar, .int (nI n)] : List Value).set 0 (.int (md + 1)))) = F_3 at hW e_h e_ar hfr
  refine lv_aload_n S.1 S.2.1 dJx4a65c_add_9ea2d_10 rfl (lv_at hl 0 rfl) ?_
  refine lv_aload_n S.1 S.2.1 dJx4a65c_add_9ea2d_11 rfl (lv_at hl 1 rfl) ?_
  refine lv_aload_n S.1 S.2.1 dJx4a65c_add_9ea2d_12 rfl (lv_at hl 0 rfl) ?_
  refine pk_get S hK hW 1 m_h e_h rfl hinJx4a65c (by decide) wd_1083 rfl dJx4a65c_add_9ea2d_13 ?_
  refine lv_aload_n S.1 S.2.1 dJx4a65c_add_9ea2d_16 rfl (lv_at hl 0 rfl) ?_
  refine pk_get S hK hW 2 m_h e_h rfl hinJx4a65c (by decide) wd_1085 rfl dJx4a65c_add_9ea2d_17 ?_
  have hkb : ∀ x ∈ L, x ≠ h → F_3 x = F x := fun x hx xh => if xa : x = ar then by rw [xa, e_ar, e_ar0] else hfr x xh xa
  have hb := hb.keep e0 (fun x hx => hx) hkb
  have hel1 : ∀ i, i < n → ∀ y, f i = some y → ∃ v, bx ζ L F_3 y v := fun i hi y hy => by obtain ⟨v, hv⟩ := hel i hi y hy; exact ⟨v, hv.keep e0 (fun x hx => hx) hkb⟩
  refine pk_cVV (As := [.ref y, .ref ar, .int (nI n)]) (rest := []) S hK hST hW (c_Jx4a65c_add_72be8_full ⟨m_h, e_h, m_ar, n_h_ar, e_ar⟩ hn0 hn1 hel1 hb) mc_Jx4a65c_add_72be8 wd_1112 wd_1114 wd_1697 rfl np_Jx4a65c_add_72be8 m_h e_h rfl rfl hl.1 rfl (Nat.le_of_ble_eq_true rfl) dJx4a65c_add_9ea2d_20 ⟨by decide, by decide⟩ ⟨by decide, by decide⟩ (fun L1 F1 H1 l1 hp hW => ?_)
  obtain ⟨hsub1, q, hq_q, hR1, hfr1⟩ := hp
  refine lv_iconst (v := 1) S.1 S.2.1 dJx4a65c_add_9ea2d_23 (by decide) ?_
  exact pk_zret S hr hlk hW (by decide) ⟨hsub1, q, hq_q, hR1, fun x hx xh => (hfr1 x hx xh).trans (hkb x hx xh)⟩ (by decide) (by decide) dJx4a65c_add_9ea2d_24
theorem mc_Jx4a65c_rangeCheckForAdd_d00df : MCode yJx4a65c_rangeCheckForAdd_d00df cJx4a65c_rangeCheckForAdd_d00df 2 none := ⟨wd_1257, wd_8, by decide, by decide⟩
theorem np_Jx4a65c_rangeCheckForAdd_d00df : (parseMethodDescriptor yJx4a65c_rangeCheckForAdd_d00df.desc).map (fun d => d.parameters.length) = some 1 := by decide +kernel
set_option maxHeartbeats 4000000 in
set_option maxRecDepth 100000 in
theorem c_Jx4a65c_rangeCheckForAdd_d00df {l : Launch} {D : va_G} {κ : Nat → ClassId} {ζ : Nat → Nat} {L : List Nat} {F : Nat → va_E} {h : Nat} {md sz : Int32} {rr : Nat} (m_h : h ∈ L) (e_h : F h = .inr (4, [.int md, .ref rr, .int sz])) {i : Int32} (hi1 : ¬ sz < i) (hi0 : 0 ≤ i) : MtV l D cls (ty5 κ) ζ yJx4a65c_rangeCheckForAdd_d00df cJx4a65c_rangeCheckForAdd_d00df 2 none 1 0 0 ([.ref h, .int i] : List Value) L F (fun L' F' => L = L' ∧ F = F') := by
  refine MtV.of (by decide) (Nat.le_of_ble_eq_true rfl) ?_
  intro p e s m below meth c S hr hlk hini hK hW hST ls hl
  have hl : lv_has ls 2 [(0, .ref h), (1, .int i)] := hl
  refine lv_iload_n S.1 S.2.1 dJx4a65c_rangeCheckForAdd_d00df_0 rfl (lv_at hl 1 rfl) ?_
  refine lv_aload_n S.1 S.2.1 dJx4a65c_rangeCheckForAdd_d00df_1 rfl (lv_at hl 0 rfl) ?_
  refine pk_get S hK hW 2 m_h e_h rfl hinJx4a65c (by decide) wd_1085 rfl dJx4a65c_rangeCheckForAdd_d00df_2 ?_
  refine lv_icmp_gt (tgt := 12) S.1 S.2.1 dJx4a65c_rangeCheckForAdd_d00df_5 (by decide) (fun c1 => absurd c1 hi1) (fun _ => ?_)
  refine lv_iload_n S.1 S.2.1 dJx4a65c_rangeCheckForAdd_d00df_8 rfl (lv_at hl 1 rfl) ?_
  refine lv_if_ge (tgt := 25) S.1 S.2.1 dJx4a65c_rangeCheckForAdd_d00df_9 (by decide) (fun _ => ?_) (fun c1 => absurd hi0 c1)
  exact pk_vret S hr hlk hW ⟨rfl, rfl⟩ (by decide) (by decide) dJx4a65c_rangeCheckForAdd_d00df_25
theorem mc_Jx4a65c_add_7a177 : MCode yJx4a65c_add_7a177 cJx4a65c_add_7a177 5 none := ⟨wd_1253, wd_8, by decide, by decide⟩
theorem np_Jx4a65c_add_7a177 : (parseMethodDescriptor yJx4a65c_add_7a177.desc).map (fun d => d.parameters.length) = some 2 := by decide +kernel
set_option maxHeartbeats 4000000 in
set_option maxRecDepth 100000 in
theorem c_Jx4a65c_add_7a177_fit {l : Launch} {D : va_G} {κ : Nat → ClassId} {ζ : Nat → Nat} {L : List Nat} {F : Nat → va_E} {h ar n k i : Nat} {f : Nat → Option Nat} {md : Int32} (hR : RA κ h ar n f md (nI k) L F) (hik : i ≤ k) (hk : k < n) (hn : n ≤ 32) (hel : ∀ i, i < k → ∀ y, f i = some y → ∃ v, bx ζ L F y v) {y : Nat} {v : Int32} (hb : bx ζ L F y v) : MtV l D cls (ty5 κ) ζ yJx4a65c_add_7a177 cJx4a65c_add_7a177 5 none 6 1 32 ([.ref h, .int (nI i), .ref y] : List Value) L F (fun L' F' => L = L' ∧ RA κ h ar n (va_up (va_cpy f f i (i + 1) (k - i)) i (some y)) (md + 1) (nI (k + 1)) L F' ∧ FrR h ar F F') := by
  refine MtV.of (by decide) (Nat.le_of_ble_eq_true rfl) ?_
  intro p e s m below meth c S hr hlk hini hK hW hST ls hl
  have hl : lv_has ls 5 [(0, .ref h), (1, .int (nI i)), (2, .ref y)] := hl
  obtain ⟨m_h, e_h, m_ar, n_h_ar, e_ar⟩ := hR
  have e0 := e_h
  have e_ar0 := e_ar
  have hfr : ∀ q, q ≠ h → q ≠ ar → F q = F q := fun _ _ _ => rfl
  refine lv_aload_n S.1 S.2.1 dJx4a65c_add_7a177_0 rfl (lv_at hl 0 rfl) ?_
  refine lv_iload_n S.1 S.2.1 dJx4a65c_add_7a177_1 rfl (lv_at hl 1 rfl) ?_
  refine pk_cVV (As := [.int (nI i)]) (rest := []) S hK hST hW (c_Jx4a65c_rangeCheckForAdd_d00df m_h e_h (nI_nlt hik (by omega)) (nI_pos' (by omega))) mc_Jx4a65c_rangeCheckForAdd_d00df wd_1254 wd_1256 wd_1706 rfl np_Jx4a65c_rangeCheckForAdd_d00df m_h e_h rfl rfl hl.1 rfl (Nat.le_of_ble_eq_true rfl) dJx4a65c_add_7a177_2 ⟨by decide, by decide⟩ ⟨by decide, by decide⟩ (fun L_1 F_2 H_3 l_4 hp hW => ?_)
  obtain ⟨rfl, rfl⟩ := hp
  refine lv_aload_n S.1 S.2.1 dJx4a65c_add_7a177_5 rfl (lv_at hl 0 rfl) ?_
  refine lv_dup S.1 S.2.1 dJx4a65c_add_7a177_6 rfl ?_
  refine pk_getU S hK hW 0 m_h e_h rfl hinJx4a65c (by decide) wd_1089 wd_1088 rfl dJx4a65c_add_7a177_7 ?_
  refine lv_iconst (v := 1) S.1 S.2.1 dJx4a65c_add_7a177_10 (by decide) ?_
  refine lv_iadd S.1 S.2.1 dJx4a65c_add_7a177_11 ?_
  refine pk_putU (v := .int (md + 1)) S hK hW 0 m_h e_h rfl hinJx4a65c tyJx4a65c_ok nmJx4a65c (by decide) wd_1089 wd_1088 rfl rfl rfl rfl (Nat.le_of_ble_eq_true rfl) dJx4a65c_add_7a177_12 (fun H_5 l_6 hW => ?_)
  have e_h : (va_up F h (.inr (4, ([.int md, .ref ar, .int (nI k)] : List Value).set 0 (.int (md + 1))))) h = .inr (4, [.int (md + 1), .ref ar, .int (nI k)]) := up_eq
  have e_ar : (va_up F h (.inr (4, ([.int md, .ref ar, .int (nI k)] : List Value).set 0 (.int (md + 1))))) ar = rfA (κ 3) n f := (up_ne n_h_ar.symm).trans e_ar
  have hfr : ∀ q, q ≠ h → q ≠ ar → (va_up F h (.inr (4, ([.int md, .ref ar, .int (nI k)] : List Value).set 0 (.int (md + 1))))) q = F q := fun q q1 q2 => (up_ne q1).trans (hfr q q1 q2)
  generalize va_up F h (.inr (4, ([.int md, .ref ar, .int (nI k)] : List Value).set 0 (.int (md + 1)))) = F_7 at hW e_h e_ar hfr
  refine lv_aload_n S.1 S.2.1 dJx4a65c_add_7a177_15 rfl (lv_at hl 0 rfl) ?_
  refine pk_get S hK hW 2 m_h e_h rfl hinJx4a65c (by decide) wd_1085 rfl dJx4a65c_add_7a177_16 ?_
  refine lv_dup S.1 S.2.1 dJx4a65c_add_7a177_19 rfl ?_
  refine lv_istore_n (lv' := [(3, .int (nI k)), (0, .ref h), (1, .int (nI i)), (2, .ref y)]) S.1 S.2.1 dJx4a65c_add_7a177_20 rfl hl (Nat.le_of_ble_eq_true rfl) rfl (fun ls hl => ?_)
  refine lv_aload_n S.1 S.2.1 dJx4a65c_add_7a177_21 rfl (lv_at hl 1 rfl) ?_
  refine pk_get S hK hW 1 m_h e_h rfl hinJx4a65c (by decide) wd_1083 rfl dJx4a65c_add_7a177_22 ?_
  refine lv_dup S.1 S.2.1 dJx4a65c_add_7a177_25 rfl ?_
  refine lv_astore (lv' := [(4, .ref ar), (3, .int (nI k)), (0, .ref h), (1, .int (nI i)), (2, .ref y)]) S.1 S.2.1 dJx4a65c_add_7a177_26 hl (Nat.le_of_ble_eq_true rfl) rfl (fun ls hl => ?_)
  refine pk_alen S hK hW 3 m_ar e_ar rfl rfl dJx4a65c_add_7a177_28 ?_
  refine lv_icmp_ne (tgt := 38) S.1 S.2.1 dJx4a65c_add_7a177_29 (by decide) (fun _ => ?_) (fun c1 => absurd c1 (fun ee => absurd ((nI_eq (by omega) (by omega)).mp ee) (by omega)))
  refine lv_aload S.1 S.2.1 dJx4a65c_add_7a177_38 (lv_at hl 0 rfl) ?_
  refine lv_iload_n S.1 S.2.1 dJx4a65c_add_7a177_40 rfl (lv_at hl 3 rfl) ?_
  refine lv_aload S.1 S.2.1 dJx4a65c_add_7a177_41 (lv_at hl 0 rfl) ?_
  refine lv_iload_n S.1 S.2.1 dJx4a65c_add_7a177_43 rfl (lv_at hl 3 rfl) ?_
  refine lv_iconst (v := 1) S.1 S.2.1 dJx4a65c_add_7a177_44 (by decide) ?_
  refine lv_iadd S.1 S.2.1 dJx4a65c_add_7a177_45 ?_
  refine lv_topi (fun y_8 ey_8 => ?_)
  have ey_8 : y_8 = nI (i + 1) := ey_8.trans (nI_1 i)
  subst ey_8
  refine lv_iload_n S.1 S.2.1 dJx4a65c_add_7a177_46 rfl (lv_at hl 1 rfl) ?_
  refine lv_iload_n S.1 S.2.1 dJx4a65c_add_7a177_47 rfl (lv_at hl 3 rfl) ?_
  refine lv_isub S.1 S.2.1 dJx4a65c_add_7a177_48 ?_
  refine lv_topi (fun y_9 ey_9 => ?_)
  have ey_9 : y_9 = nI (k - i) := ey_9.trans (pk_sub (by omega))
  subst ey_9
  have hkb : ∀ x ∈ L, x ≠ h → F_7 x = F x := fun x hx xh => if xa : x = ar then by rw [xa, e_ar, e_ar0] else hfr x xh xa
  have hb := hb.keep e0 (fun x hx => hx) hkb
  have hel1 : ∀ i, i < k → ∀ y, f i = some y → ∃ v, bx ζ L F_7 y v := fun i hi y hy => by obtain ⟨v, hv⟩ := hel i hi y hy; exact ⟨v, hv.keep e0 (fun x hx => hx) hkb⟩
  have e_h0 := e_h
  have e_ar1 := e_ar
  refine pk_copyq S hK hST hW wd_1271 wd_857 wd_856 wd_13 hl.1 3 rfl m_ar e_ar m_ar e_ar i (i + 1) (k - i) rfl rfl rfl (by omega) (by omega) (by omega) (by omega) (fun q hq y hy => hel1 (i + q) (by omega) y hy) (by decide) (Nat.le_of_ble_eq_true rfl) dJx4a65c_add_7a177_49 (fun H_10 l_11 hW => ?_)
  have e_h : (va_up F_7 ar (rfA (κ 3) n (va_cpy f f i (i + 1) (k - i)))) h = .inr (4, [.int (md + 1), .ref ar, .int (nI k)]) := (up_ne n_h_ar).trans e_h
  have e_ar : (va_up F_7 ar (rfA (κ 3) n (va_cpy f f i (i + 1) (k - i)))) ar = rfA (κ 3) n (va_cpy f f i (i + 1) (k - i)) := up_eq
  have hfr : ∀ q, q ≠ h → q ≠ ar → (va_up F_7 ar (rfA (κ 3) n (va_cpy f f i (i + 1) (k - i)))) q = F q := fun q q1 q2 => (up_ne q2).trans (hfr q q1 q2)
  generalize va_up F_7 ar (rfA (κ 3) n (va_cpy f f i (i + 1) (k - i))) = F_12 at hW e_h e_ar hfr
  refine lv_aload S.1 S.2.1 dJx4a65c_add_7a177_52 (lv_at hl 0 rfl) ?_
  refine lv_iload_n S.1 S.2.1 dJx4a65c_add_7a177_54 rfl (lv_at hl 3 rfl) ?_
  refine lv_aload_n S.1 S.2.1 dJx4a65c_add_7a177_55 rfl (lv_at hl 4 rfl) ?_
  have hb : bx ζ L F_12 y v := by
    rcases hb with ⟨b1, b2⟩ | b
    · have yh : y ≠ h := fun ee => by rw [ee, e_h0] at b2; cases b2
      have ya : y ≠ ar := fun ee => by rw [ee, e_ar1] at b2; cases b2
      exact Or.inl ⟨b1, (hfr y yh ya).trans ((hkb y b1 yh).symm.trans b2)⟩
    · exact Or.inr b
  refine pk_aast S hK hW 3 m_ar e_ar rfl (bx_cell hK hW hST hb) (hST.1.1 _ wn_26) (vp_in_nI (by omega) (by omega)) dJx4a65c_add_7a177_56 (fun H_13 l_14 hW => ?_)
  rw [show (nI i).toNatClampNeg = i from nI_clamp (by omega)] at hW
  have e_h : (va_up F_12 ar (rfA (κ 3) n (va_up (va_cpy f f i (i + 1) (k - i)) i (some y)))) h = .inr (4, [.int (md + 1), .ref ar, .int (nI k)]) := (up_ne n_h_ar).trans e_h
  have e_ar : (va_up F_12 ar (rfA (κ 3) n (va_up (va_cpy f f i (i + 1) (k - i)) i (some y)))) ar = rfA (κ 3) n (va_up (va_cpy f f i (i + 1) (k - i)) i (some y)) := up_eq
  have hfr : ∀ q, q ≠ h → q ≠ ar → (va_up F_12 ar (rfA (κ 3) n (va_up (va_cpy f f i (i + 1) (k - i)) i (some y)))) q = F q := fun q q1 q2 => (up_ne q2).trans (hfr q q1 q2)
  generalize va_up F_12 ar (rfA (κ 3) n (va_up (va_cpy f f i (i + 1) (k - i)) i (some y))) = F_15 at hW e_h e_ar hfr
  refine lv_aload_n S.1 S.2.1 dJx4a65c_add_7a177_57 rfl (lv_at hl 2 rfl) ?_
  refine lv_iload_n S.1 S.2.1 dJx4a65c_add_7a177_58 rfl (lv_at hl 1 rfl) ?_
  refine lv_iconst (v := 1) S.1 S.2.1 dJx4a65c_add_7a177_59 (by decide) ?_
  refine lv_iadd S.1 S.2.1 dJx4a65c_add_7a177_60 ?_
  refine lv_topi (fun y_16 ey_16 => ?_)
  have ey_16 : y_16 = nI (k + 1) := ey_16.trans (nI_1 k)
  subst ey_16
  refine pk_put (v := .int (nI (k + 1))) S hK hW 2 m_h e_h rfl hinJx4a65c tyJx4a65c_ok nmJx4a65c (by decide) wd_1085 rfl rfl rfl rfl (Nat.le_of_ble_eq_true rfl) dJx4a65c_add_7a177_61 (fun H_17 l_18 hW => ?_)
  have e_h : (va_up F_15 h (.inr (4, ([.int (md + 1), .ref ar, .int (nI k)] : List Value).set 2 (.int (nI (k + 1)))))) h = .inr (4, [.int (md + 1), .ref ar, .int (nI (k + 1))]) := up_eq
  have e_ar : (va_up F_15 h (.inr (4, ([.int (md + 1), .ref ar, .int (nI k)] : List Value).set 2 (.int (nI (k + 1)))))) ar = rfA (κ 3) n (va_up (va_cpy f f i (i + 1) (k - i)) i (some y)) := (up_ne n_h_ar.symm).trans e_ar
  have hfr : ∀ q, q ≠ h → q ≠ ar → (va_up F_15 h (.inr (4, ([.int (md + 1), .ref ar, .int (nI k)] : List Value).set 2 (.int (nI (k + 1)))))) q = F q := fun q q1 q2 => (up_ne q1).trans (hfr q q1 q2)
  generalize va_up F_15 h (.inr (4, ([.int (md + 1), .ref ar, .int (nI k)] : List Value).set 2 (.int (nI (k + 1))))) = F_19 at hW e_h e_ar hfr
  exact pk_vret S hr hlk hW ⟨rfl, ⟨m_h, e_h, m_ar, n_h_ar, e_ar⟩, hfr⟩ (by decide) (by decide) dJx4a65c_add_7a177_64
set_option maxHeartbeats 4000000 in
set_option maxRecDepth 100000 in
theorem c_Jx4a65c_add_7a177_full {l : Launch} {D : va_G} {κ : Nat → ClassId} {ζ : Nat → Nat} {L : List Nat} {F : Nat → va_E} {h ar n i : Nat} {f : Nat → Option Nat} {md : Int32} (hR : RA κ h ar n f md (nI n) L F) (hik : i ≤ n) (hn0 : 0 < n) (hn1 : n ≤ 21) (hel : ∀ i, i < n → ∀ y, f i = some y → ∃ v, bx ζ L F y v) {y : Nat} {v : Int32} (hb : bx ζ L F y v) : MtV l D cls (ty5 κ) ζ yJx4a65c_add_7a177 cJx4a65c_add_7a177 5 none 6 1 32 ([.ref h, .int (nI i), .ref y] : List Value) L F (fun L' F' => (∀ x ∈ L, x ∈ L') ∧ ∃ q, q ∉ L ∧ RA κ h q (n + max 1 (n / 2)) (va_up (va_cpy (va_cpy f (fun _ => none) 0 0 n) (va_cpy f (fun _ => none) 0 0 n) i (i + 1) (n - i)) i (some y)) (md + 1) (nI (n + 1)) L' F' ∧ ∀ x ∈ L, x ≠ h → F' x = F x) := by
  refine MtV.of (by decide) (Nat.le_of_ble_eq_true rfl) ?_
  intro p e s m below meth c S hr hlk hini hK hW hST ls hl
  have hl : lv_has ls 5 [(0, .ref h), (1, .int (nI i)), (2, .ref y)] := hl
  obtain ⟨m_h, e_h, m_ar, n_h_ar, e_ar⟩ := hR
  have e0 := e_h
  have e_ar0 := e_ar
  have hfr : ∀ q, q ≠ h → q ≠ ar → F q = F q := fun _ _ _ => rfl
  refine lv_aload_n S.1 S.2.1 dJx4a65c_add_7a177_0 rfl (lv_at hl 0 rfl) ?_
  refine lv_iload_n S.1 S.2.1 dJx4a65c_add_7a177_1 rfl (lv_at hl 1 rfl) ?_
  refine pk_cVV (As := [.int (nI i)]) (rest := []) S hK hST hW (c_Jx4a65c_rangeCheckForAdd_d00df m_h e_h (nI_nlt hik (by omega)) (nI_pos' (by omega))) mc_Jx4a65c_rangeCheckForAdd_d00df wd_1254 wd_1256 wd_1706 rfl np_Jx4a65c_rangeCheckForAdd_d00df m_h e_h rfl rfl hl.1 rfl (Nat.le_of_ble_eq_true rfl) dJx4a65c_add_7a177_2 ⟨by decide, by decide⟩ ⟨by decide, by decide⟩ (fun L_1 F_2 H_3 l_4 hp hW => ?_)
  obtain ⟨rfl, rfl⟩ := hp
  refine lv_aload_n S.1 S.2.1 dJx4a65c_add_7a177_5 rfl (lv_at hl 0 rfl) ?_
  refine lv_dup S.1 S.2.1 dJx4a65c_add_7a177_6 rfl ?_
  refine pk_getU S hK hW 0 m_h e_h rfl hinJx4a65c (by decide) wd_1089 wd_1088 rfl dJx4a65c_add_7a177_7 ?_
  refine lv_iconst (v := 1) S.1 S.2.1 dJx4a65c_add_7a177_10 (by decide) ?_
  refine lv_iadd S.1 S.2.1 dJx4a65c_add_7a177_11 ?_
  refine pk_putU (v := .int (md + 1)) S hK hW 0 m_h e_h rfl hinJx4a65c tyJx4a65c_ok nmJx4a65c (by decide) wd_1089 wd_1088 rfl rfl rfl rfl (Nat.le_of_ble_eq_true rfl) dJx4a65c_add_7a177_12 (fun H_5 l_6 hW => ?_)
  have e_h : (va_up F h (.inr (4, ([.int md, .ref ar, .int (nI n)] : List Value).set 0 (.int (md + 1))))) h = .inr (4, [.int (md + 1), .ref ar, .int (nI n)]) := up_eq
  have e_ar : (va_up F h (.inr (4, ([.int md, .ref ar, .int (nI n)] : List Value).set 0 (.int (md + 1))))) ar = rfA (κ 3) n f := (up_ne n_h_ar.symm).trans e_ar
  have hfr : ∀ q, q ≠ h → q ≠ ar → (va_up F h (.inr (4, ([.int md, .ref ar, .int (nI n)] : List Value).set 0 (.int (md + 1))))) q = F q := fun q q1 q2 => (up_ne q1).trans (hfr q q1 q2)
  generalize va_up F h (.inr (4, ([.int md, .ref ar, .int (nI n)] : List Value).set 0 (.int (md + 1)))) = F_7 at hW e_h e_ar hfr
  refine lv_aload_n S.1 S.2.1 dJx4a65c_add_7a177_15 rfl (lv_at hl 0 rfl) ?_
  refine pk_get S hK hW 2 m_h e_h rfl hinJx4a65c (by decide) wd_1085 rfl dJx4a65c_add_7a177_16 ?_
  refine lv_dup S.1 S.2.1 dJx4a65c_add_7a177_19 rfl ?_
  refine lv_istore_n (lv' := [(3, .int (nI n)), (0, .ref h), (1, .int (nI i)), (2, .ref y)]) S.1 S.2.1 dJx4a65c_add_7a177_20 rfl hl (Nat.le_of_ble_eq_true rfl) rfl (fun ls hl => ?_)
  refine lv_aload_n S.1 S.2.1 dJx4a65c_add_7a177_21 rfl (lv_at hl 1 rfl) ?_
  refine pk_get S hK hW 1 m_h e_h rfl hinJx4a65c (by decide) wd_1083 rfl dJx4a65c_add_7a177_22 ?_
  refine lv_dup S.1 S.2.1 dJx4a65c_add_7a177_25 rfl ?_
  refine lv_astore (lv' := [(4, .ref ar), (3, .int (nI n)), (0, .ref h), (1, .int (nI i)), (2, .ref y)]) S.1 S.2.1 dJx4a65c_add_7a177_26 hl (Nat.le_of_ble_eq_true rfl) rfl (fun ls hl => ?_)
  refine pk_alen S hK hW 3 m_ar e_ar rfl rfl dJx4a65c_add_7a177_28 ?_
  refine lv_icmp_ne (tgt := 38) S.1 S.2.1 dJx4a65c_add_7a177_29 (by decide) (fun c1 => absurd rfl c1) (fun _ => ?_)
  refine lv_aload_n S.1 S.2.1 dJx4a65c_add_7a177_32 rfl (lv_at hl 2 rfl) ?_
  have hkb : ∀ x ∈ L, x ≠ h → F_7 x = F x := fun x hx xh => if xa : x = ar then by rw [xa, e_ar, e_ar0] else hfr x xh xa
  have hb := hb.keep e0 (fun x hx => hx) hkb
  have hel1 : ∀ i, i < n → ∀ y, f i = some y → ∃ v, bx ζ L F_7 y v := fun i hi y hy => by obtain ⟨v, hv⟩ := hel i hi y hy; exact ⟨v, hv.keep e0 (fun x hx => hx) hkb⟩
  have e_h9 := e_h
  refine pk_cVR (As := []) (rest := []) S hK hST hW (c_Jx4a65c_grow_d5877_own ⟨m_h, e_h, m_ar, n_h_ar, e_ar⟩ hn0 hn1 hel1) mc_Jx4a65c_grow_d5877 wd_1116 wd_1118 wd_1698 rfl np_Jx4a65c_grow_d5877 m_h e_h rfl rfl hl.1 rfl (Nat.le_of_ble_eq_true rfl) dJx4a65c_add_7a177_33 ⟨by decide, by decide⟩ ⟨by decide, by decide⟩ (fun q L1 F1 H1 l1 hp hW => ?_)
  obtain ⟨hsub1, hq_q, hR1, hfr1⟩ := hp
  obtain ⟨m_h1, e_h1, m_q, n_h_q, e_q⟩ := hR1
  have hb := hb.keep e_h9 hsub1 hfr1
  have hel2 : ∀ i, i < n → ∀ y, (va_cpy f (fun _ => none) 0 0 n) i = some y → ∃ v, bx ζ L1 F1 y v := fun i hi y hy => by
    obtain ⟨v, hv⟩ := hel1 i hi y (by rw [← hy]; simp only [va_cpy]; rw [if_pos ⟨Nat.zero_le _, by omega⟩]; simp)
    exact ⟨v, hv.keep e_h9 hsub1 hfr1⟩
  have m_h := m_h1
  have e_h := e_h1
  have hfr : ∀ x ∈ L, x ≠ h → F1 x = F x := fun x hx xh => (hfr1 x hx xh).trans (hkb x hx xh)
  refine lv_astore (lv' := [(4, .ref q), (3, .int (nI n)), (0, .ref h), (1, .int (nI i)), (2, .ref y)]) S.1 S.2.1 dJx4a65c_add_7a177_36 hl (Nat.le_of_ble_eq_true rfl) rfl (fun ls hl => ?_)
  refine lv_aload S.1 S.2.1 dJx4a65c_add_7a177_38 (lv_at hl 0 rfl) ?_
  refine lv_iload_n S.1 S.2.1 dJx4a65c_add_7a177_40 rfl (lv_at hl 3 rfl) ?_
  refine lv_aload S.1 S.2.1 dJx4a65c_add_7a177_41 (lv_at hl 0 rfl) ?_
  refine lv_iload_n S.1 S.2.1 dJx4a65c_add_7a177_43 rfl (lv_at hl 3 rfl) ?_
  refine lv_iconst (v := 1) S.1 S.2.1 dJx4a65c_add_7a177_44 (by decide) ?_
  refine lv_iadd S.1 S.2.1 dJx4a65c_add_7a177_45 ?_
  refine lv_topi (fun y_8 ey_8 => ?_)
  have ey_8 : y_8 = nI (i + 1) := ey_8.trans (nI_1 i)
  subst ey_8
  refine lv_iload_n S.1 S.2.1 dJx4a65c_add_7a177_46 rfl (lv_at hl 1 rfl) ?_
  refine lv_iload_n S.1 S.2.1 dJx4a65c_add_7a177_47 rfl (lv_at hl 3 rfl) ?_
  refine lv_isub S.1 S.2.1 dJx4a65c_add_7a177_48 ?_
  refine lv_topi (fun y_9 ey_9 => ?_)
  have ey_9 : y_9 = nI (n - i) := ey_9.trans (pk_sub (by omega))
  subst ey_9
  have hq9 : ∀ x, x ≠ q → (va_up F1 q (rfA (κ 3) (n + max 1 (n / 2)) (va_cpy (va_cpy f (fun _ => none) 0 0 n) (va_cpy f (fun _ => none) 0 0 n) i (i + 1) (n - i)))) x = F1 x := fun x xq => up_ne xq
  have hb0 := hb
  have e_q1 := e_q
  refine pk_copyq S hK hST hW wd_1271 wd_857 wd_856 wd_13 hl.1 3 rfl m_q e_q m_q e_q i (i + 1) (n - i) rfl rfl rfl (by omega) (by omega) (by omega) (by omega) (fun x hx y hy => hel2 (i + x) (by omega) y hy) (by decide) (Nat.le_of_ble_eq_true rfl) dJx4a65c_add_7a177_49 (fun H_10 l_11 hW => ?_)
  have e_h : (va_up F1 q (rfA (κ 3) (n + max 1 (n / 2)) (va_cpy (va_cpy f (fun _ => none) 0 0 n) (va_cpy f (fun _ => none) 0 0 n) i (i + 1) (n - i)))) h = .inr (4, [.int (md + 1), .ref q, .int (nI n)]) := (up_ne n_h_q).trans e_h
  have e_q : (va_up F1 q (rfA (κ 3) (n + max 1 (n / 2)) (va_cpy (va_cpy f (fun _ => none) 0 0 n) (va_cpy f (fun _ => none) 0 0 n) i (i + 1) (n - i)))) q = rfA (κ 3) (n + max 1 (n / 2)) (va_cpy (va_cpy f (fun _ => none) 0 0 n) (va_cpy f (fun _ => none) 0 0 n) i (i + 1) (n - i)) := up_eq
  have hfr : ∀ x ∈ L, x ≠ h → (va_up F1 q (rfA (κ 3) (n + max 1 (n / 2)) (va_cpy (va_cpy f (fun _ => none) 0 0 n) (va_cpy f (fun _ => none) 0 0 n) i (i + 1) (n - i)))) x = F x := fun x hx xh => (up_ne (fun (ee : x = q) => hq_q (ee ▸ hx))).trans (hfr x hx xh)
  generalize va_up F1 q (rfA (κ 3) (n + max 1 (n / 2)) (va_cpy (va_cpy f (fun _ => none) 0 0 n) (va_cpy f (fun _ => none) 0 0 n) i (i + 1) (n - i))) = F_12 at hW e_h e_q hfr hq9
  refine lv_aload S.1 S.2.1 dJx4a65c_add_7a177_52 (lv_at hl 0 rfl) ?_
  refine lv_iload_n S.1 S.2.1 dJx4a65c_add_7a177_54 rfl (lv_at hl 3 rfl) ?_
  refine lv_aload_n S.1 S.2.1 dJx4a65c_add_7a177_55 rfl (lv_at hl 4 rfl) ?_
  have hb : bx ζ L1 F_12 y v := by
    rcases hb with ⟨b1, b2⟩ | b
    · have ya : y ≠ q := fun ee => by rw [ee, e_q1] at b2; cases b2
      exact Or.inl ⟨b1, (hq9 y ya).trans b2⟩
    · exact Or.inr b
  refine pk_aast S hK hW 3 m_q e_q rfl (bx_cell hK hW hST hb) (hST.1.1 _ wn_26) (vp_in_nI (by omega) (by omega)) dJx4a65c_add_7a177_56 (fun H_13 l_14 hW => ?_)
  rw [show (nI i).toNatClampNeg = i from nI_clamp (by omega)] at hW
  have e_h : (va_up F_12 q (rfA (κ 3) (n + max 1 (n / 2)) (va_up (va_cpy (va_cpy f (fun _ => none) 0 0 n) (va_cpy f (fun _ => none) 0 0 n) i (i + 1) (n - i)) i (some y)))) h = .inr (4, [.int (md + 1), .ref q, .int (nI n)]) := (up_ne n_h_q).trans e_h
  have e_q : (va_up F_12 q (rfA (κ 3) (n + max 1 (n / 2)) (va_up (va_cpy (va_cpy f (fun _ => none) 0 0 n) (va_cpy f (fun _ => none) 0 0 n) i (i + 1) (n - i)) i (some y)))) q = rfA (κ 3) (n + max 1 (n / 2)) (va_up (va_cpy (va_cpy f (fun _ => none) 0 0 n) (va_cpy f (fun _ => none) 0 0 n) i (i + 1) (n - i)) i (some y)) := up_eq
  have hfr : ∀ x ∈ L, x ≠ h → (va_up F_12 q (rfA (κ 3) (n + max 1 (n / 2)) (va_up (va_cpy (va_cpy f (fun _ => none) 0 0 n) (va_cpy f (fun _ => none) 0 0 n) i (i + 1) (n - i)) i (some y)))) x = F x := fun x hx xh => (up_ne (fun (ee : x = q) => hq_q (ee ▸ hx))).trans (hfr x hx xh)
  generalize va_up F_12 q (rfA (κ 3) (n + max 1 (n / 2)) (va_up (va_cpy (va_cpy f (fun _ => none) 0 0 n) (va_cpy f (fun _ => none) 0 0 n) i (i + 1) (n - i)) i (some y))) = F_15 at hW e_h e_q hfr
  refine lv_aload_n S.1 S.2.1 dJx4a65c_add_7a177_57 rfl (lv_at hl 2 rfl) ?_
  refine lv_iload_n S.1 S.2.1 dJx4a65c_add_7a177_58 rfl (lv_at hl 1 rfl) ?_
  refine lv_iconst (v := 1) S.1 S.2.1 dJx4a65c_add_7a177_59 (by decide) ?_
  refine lv_iadd S.1 S.2.1 dJx4a65c_add_7a177_60 ?_
  refine lv_topi (fun y_16 ey_16 => ?_)
  have ey_16 : y_16 = nI (n + 1) := ey_16.trans (nI_1 n)
  subst ey_16
  refine pk_put (v := .int (nI (n + 1))) S hK hW 2 m_h e_h rfl hinJx4a65c tyJx4a65c_ok nmJx4a65c (by decide) wd_1085 rfl rfl rfl rfl (Nat.le_of_ble_eq_true rfl) dJx4a65c_add_7a177_61 (fun H_17 l_18 hW => ?_)
  have e_h : (va_up F_15 h (.inr (4, ([.int (md + 1), .ref q, .int (nI n)] : List Value).set 2 (.int (nI (n + 1)))))) h = .inr (4, [.int (md + 1), .ref q, .int (nI (n + 1))]) := up_eq
  have e_q : (va_up F_15 h (.inr (4, ([.int (md + 1), .ref q, .int (nI n)] : List Value).set 2 (.int (nI (n + 1)))))) q = rfA (κ 3) (n + max 1 (n / 2)) (va_up (va_cpy (va_cpy f (fun _ => none) 0 0 n) (va_cpy f (fun _ => none) 0 0 n) i (i + 1) (n - i)) i (some y)) := (up_ne n_h_q.symm).trans e_q
  have hfr : ∀ x ∈ L, x ≠ h → (va_up F_15 h (.inr (4, ([.int (md + 1), .ref q, .int (nI n)] : List Value).set 2 (.int (nI (n + 1)))))) x = F x := fun x hx xh => (up_ne xh).trans (hfr x hx xh)
  generalize va_up F_15 h (.inr (4, ([.int (md + 1), .ref q, .int (nI n)] : List Value).set 2 (.int (nI (n + 1))))) = F_19 at hW e_h e_q hfr
  exact pk_vret S hr hlk hW ⟨hsub1, q, hq_q, ⟨m_h, e_h, m_q, n_h_q, e_q⟩, hfr⟩ (by decide) (by decide) dJx4a65c_add_7a177_64
set_option maxHeartbeats 4000000 in
set_option maxRecDepth 100000 in
theorem c_Jx4a65c_add_7a177_new {l : Launch} {D : va_G} {κ : Nat → ClassId} {ζ : Nat → Nat} {L : List Nat} {F : Nat → va_E} {h : Nat} {md : Int32} (hR : RE ζ h md 0 L F) {y : Nat} {v : Int32} (hb : bx ζ L F y v) : MtV l D cls (ty5 κ) ζ yJx4a65c_add_7a177 cJx4a65c_add_7a177 5 none 6 1 32 ([.ref h, .int (nI 0), .ref y] : List Value) L F (fun L' F' => (∀ x ∈ L, x ∈ L') ∧ ∃ q, q ∉ L ∧ RA κ h q 10 (va_up (va_cpy (fun _ => none) (fun _ => none) 0 (0 + 1) 0) 0 (some y)) (md + 1) (nI (0 + 1)) L' F' ∧ ∀ x ∈ L, x ≠ h → F' x = F x) := by
  refine MtV.of (by decide) (Nat.le_of_ble_eq_true rfl) ?_
  intro p e s m below meth c S hr hlk hini hK hW hST ls hl
  have hl : lv_has ls 5 [(0, .ref h), (1, .int (nI 0)), (2, .ref y)] := hl
  obtain ⟨m_h, e_h⟩ := hR
  have e0 := e_h
  have hfr : ∀ q, q ≠ h → F q = F q := fun _ _ => rfl
  refine lv_aload_n S.1 S.2.1 dJx4a65c_add_7a177_0 rfl (lv_at hl 0 rfl) ?_
  refine lv_iload_n S.1 S.2.1 dJx4a65c_add_7a177_1 rfl (lv_at hl 1 rfl) ?_
  refine pk_cVV (As := [.int (nI 0)]) (rest := []) S hK hST hW (c_Jx4a65c_rangeCheckForAdd_d00df m_h e_h (by decide) (by decide)) mc_Jx4a65c_rangeCheckForAdd_d00df wd_1254 wd_1256 wd_1706 rfl np_Jx4a65c_rangeCheckForAdd_d00df m_h e_h rfl rfl hl.1 rfl (Nat.le_of_ble_eq_true rfl) dJx4a65c_add_7a177_2 ⟨by decide, by decide⟩ ⟨by decide, by decide⟩ (fun L_1 F_2 H_3 l_4 hp hW => ?_)
  obtain ⟨rfl, rfl⟩ := hp
  refine lv_aload_n S.1 S.2.1 dJx4a65c_add_7a177_5 rfl (lv_at hl 0 rfl) ?_
  refine lv_dup S.1 S.2.1 dJx4a65c_add_7a177_6 rfl ?_
  refine pk_getU S hK hW 0 m_h e_h rfl hinJx4a65c (by decide) wd_1089 wd_1088 rfl dJx4a65c_add_7a177_7 ?_
  refine lv_iconst (v := 1) S.1 S.2.1 dJx4a65c_add_7a177_10 (by decide) ?_
  refine lv_iadd S.1 S.2.1 dJx4a65c_add_7a177_11 ?_
  refine pk_putU (v := .int (md + 1)) S hK hW 0 m_h e_h rfl hinJx4a65c tyJx4a65c_ok nmJx4a65c (by decide) wd_1089 wd_1088 rfl rfl rfl rfl (Nat.le_of_ble_eq_true rfl) dJx4a65c_add_7a177_12 (fun H_5 l_6 hW => ?_)
  have e_h : (va_up F h (.inr (4, ([.int md, .ref (ζ 256), .int 0] : List Value).set 0 (.int (md + 1))))) h = .inr (4, [.int (md + 1), .ref (ζ 256), .int 0]) := up_eq
  have hfr : ∀ q, q ≠ h → (va_up F h (.inr (4, ([.int md, .ref (ζ 256), .int 0] : List Value).set 0 (.int (md + 1))))) q = F q := fun q q1 => (up_ne q1).trans (hfr q q1)
  generalize va_up F h (.inr (4, ([.int md, .ref (ζ 256), .int 0] : List Value).set 0 (.int (md + 1)))) = F_7 at hW e_h hfr
  refine lv_aload_n S.1 S.2.1 dJx4a65c_add_7a177_15 rfl (lv_at hl 0 rfl) ?_
  refine pk_get S hK hW 2 m_h e_h rfl hinJx4a65c (by decide) wd_1085 rfl dJx4a65c_add_7a177_16 ?_
  refine lv_dup S.1 S.2.1 dJx4a65c_add_7a177_19 rfl ?_
  refine lv_istore_n (lv' := [(3, .int 0), (0, .ref h), (1, .int (nI 0)), (2, .ref y)]) S.1 S.2.1 dJx4a65c_add_7a177_20 rfl hl (Nat.le_of_ble_eq_true rfl) rfl (fun ls hl => ?_)
  refine lv_aload_n S.1 S.2.1 dJx4a65c_add_7a177_21 rfl (lv_at hl 1 rfl) ?_
  refine pk_get S hK hW 1 m_h e_h rfl hinJx4a65c (by decide) wd_1083 rfl dJx4a65c_add_7a177_22 ?_
  refine lv_dup S.1 S.2.1 dJx4a65c_add_7a177_25 rfl ?_
  refine lv_astore (lv' := [(4, .ref (ζ 256)), (3, .int 0), (0, .ref h), (1, .int (nI 0)), (2, .ref y)]) S.1 S.2.1 dJx4a65c_add_7a177_26 hl (Nat.le_of_ble_eq_true rfl) rfl (fun ls hl => ?_)
  refine va_tlen (v := 0) S.1 S.2.1 hST.2.tEmpty hW.2.2 rfl dJx4a65c_add_7a177_28 ?_
  refine lv_icmp_ne (tgt := 38) S.1 S.2.1 dJx4a65c_add_7a177_29 (by decide) (fun c1 => absurd rfl c1) (fun _ => ?_)
  refine lv_aload_n S.1 S.2.1 dJx4a65c_add_7a177_32 rfl (lv_at hl 2 rfl) ?_
  have hb := hb.keep e0 (fun x hx => hx) (fun x _ hx => hfr x hx)
  have e_h9 := e_h
  have hfr0 := hfr
  refine pk_cVR (As := []) (rest := []) S hK hST hW (c_Jx4a65c_grow_d5877_new ⟨m_h, e_h⟩) mc_Jx4a65c_grow_d5877 wd_1116 wd_1118 wd_1698 rfl np_Jx4a65c_grow_d5877 m_h e_h rfl rfl hl.1 rfl (Nat.le_of_ble_eq_true rfl) dJx4a65c_add_7a177_33 ⟨by decide, by decide⟩ ⟨by decide, by decide⟩ (fun q L1 F1 H1 l1 hp hW => ?_)
  obtain ⟨hsub1, hq_q, hR1, hfr1⟩ := hp
  obtain ⟨m_h1, e_h1, m_q, n_h_q, e_q⟩ := hR1
  have hb := hb.keep e_h9 hsub1 hfr1
  have m_h := m_h1
  have e_h := e_h1
  have hfr : ∀ x ∈ L, x ≠ h → F1 x = F x := fun x hx xh => (hfr1 x hx xh).trans (hfr0 x xh)
  refine lv_astore (lv' := [(4, .ref q), (3, .int 0), (0, .ref h), (1, .int (nI 0)), (2, .ref y)]) S.1 S.2.1 dJx4a65c_add_7a177_36 hl (Nat.le_of_ble_eq_true rfl) rfl (fun ls hl => ?_)
  refine lv_aload S.1 S.2.1 dJx4a65c_add_7a177_38 (lv_at hl 0 rfl) ?_
  refine lv_iload_n S.1 S.2.1 dJx4a65c_add_7a177_40 rfl (lv_at hl 3 rfl) ?_
  refine lv_aload S.1 S.2.1 dJx4a65c_add_7a177_41 (lv_at hl 0 rfl) ?_
  refine lv_iload_n S.1 S.2.1 dJx4a65c_add_7a177_43 rfl (lv_at hl 3 rfl) ?_
  refine lv_iconst (v := 1) S.1 S.2.1 dJx4a65c_add_7a177_44 (by decide) ?_
  refine lv_iadd S.1 S.2.1 dJx4a65c_add_7a177_45 ?_
  refine lv_topi (fun y_8 ey_8 => ?_)
  have ey_8 : y_8 = nI (0 + 1) := ey_8.trans (nI_1 0)
  subst ey_8
  refine lv_iload_n S.1 S.2.1 dJx4a65c_add_7a177_46 rfl (lv_at hl 1 rfl) ?_
  refine lv_iload_n S.1 S.2.1 dJx4a65c_add_7a177_47 rfl (lv_at hl 3 rfl) ?_
  refine lv_isub S.1 S.2.1 dJx4a65c_add_7a177_48 ?_
  refine lv_topi (fun y_9 ey_9 => ?_)
  have ey_9 : y_9 = nI 0 := ey_9.trans (rfl)
  subst ey_9
  have e_q1 := e_q
  have hq9 : ∀ x, x ≠ q → (va_up F1 q (rfA (κ 3) 10 (va_cpy (fun _ => none) (fun _ => none) 0 (0 + 1) 0))) x = F1 x := fun x xq => up_ne xq
  refine pk_copyq S hK hST hW wd_1271 wd_857 wd_856 wd_13 hl.1 3 rfl m_q e_q m_q e_q 0 (0 + 1) 0 rfl rfl rfl (by omega) (by omega) (by omega) (by omega) (fun x hx y hy => absurd hx (Nat.not_lt_zero x)) (by decide) (Nat.le_of_ble_eq_true rfl) dJx4a65c_add_7a177_49 (fun H_10 l_11 hW => ?_)
  have e_h : (va_up F1 q (rfA (κ 3) 10 (va_cpy (fun _ => none) (fun _ => none) 0 (0 + 1) 0))) h = .inr (4, [.int (md + 1), .ref q, .int 0]) := (up_ne n_h_q).trans e_h
  have e_q : (va_up F1 q (rfA (κ 3) 10 (va_cpy (fun _ => none) (fun _ => none) 0 (0 + 1) 0))) q = rfA (κ 3) 10 (va_cpy (fun _ => none) (fun _ => none) 0 (0 + 1) 0) := up_eq
  have hfr : ∀ x ∈ L, x ≠ h → (va_up F1 q (rfA (κ 3) 10 (va_cpy (fun _ => none) (fun _ => none) 0 (0 + 1) 0))) x = F x := fun x hx xh => (up_ne (fun (ee : x = q) => hq_q (ee ▸ hx))).trans (hfr x hx xh)
  generalize va_up F1 q (rfA (κ 3) 10 (va_cpy (fun _ => none) (fun _ => none) 0 (0 + 1) 0)) = F_12 at hW e_h e_q hfr hq9
  refine lv_aload S.1 S.2.1 dJx4a65c_add_7a177_52 (lv_at hl 0 rfl) ?_
  refine lv_iload_n S.1 S.2.1 dJx4a65c_add_7a177_54 rfl (lv_at hl 3 rfl) ?_
  refine lv_aload_n S.1 S.2.1 dJx4a65c_add_7a177_55 rfl (lv_at hl 4 rfl) ?_
  have hb : bx ζ L1 F_12 y v := by
    rcases hb with ⟨b1, b2⟩ | b
    · have ya : y ≠ q := fun ee => by rw [ee, e_q1] at b2; cases b2
      exact Or.inl ⟨b1, (hq9 y ya).trans b2⟩
    · exact Or.inr b
  refine pk_aast S hK hW 3 m_q e_q rfl (bx_cell hK hW hST hb) (hST.1.1 _ wn_26) (vp_in_nI (by omega) (by omega)) dJx4a65c_add_7a177_56 (fun H_13 l_14 hW => ?_)
  rw [show (nI 0).toNatClampNeg = 0 from nI_clamp (by omega)] at hW
  have e_h : (va_up F_12 q (rfA (κ 3) 10 (va_up (va_cpy (fun _ => none) (fun _ => none) 0 (0 + 1) 0) 0 (some y)))) h = .inr (4, [.int (md + 1), .ref q, .int 0]) := (up_ne n_h_q).trans e_h
  have e_q : (va_up F_12 q (rfA (κ 3) 10 (va_up (va_cpy (fun _ => none) (fun _ => none) 0 (0 + 1) 0) 0 (some y)))) q = rfA (κ 3) 10 (va_up (va_cpy (fun _ => none) (fun _ => none) 0 (0 + 1) 0) 0 (some y)) := up_eq
  have hfr : ∀ x ∈ L, x ≠ h → (va_up F_12 q (rfA (κ 3) 10 (va_up (va_cpy (fun _ => none) (fun _ => none) 0 (0 + 1) 0) 0 (some y)))) x = F x := fun x hx xh => (up_ne (fun (ee : x = q) => hq_q (ee ▸ hx))).trans (hfr x hx xh)
  generalize va_up F_12 q (rfA (κ 3) 10 (va_up (va_cpy (fun _ => none) (fun _ => none) 0 (0 + 1) 0) 0 (some y))) = F_15 at hW e_h e_q hfr
  refine lv_aload_n S.1 S.2.1 dJx4a65c_add_7a177_57 rfl (lv_at hl 2 rfl) ?_
  refine lv_iload_n S.1 S.2.1 dJx4a65c_add_7a177_58 rfl (lv_at hl 1 rfl) ?_
  refine lv_iconst (v := 1) S.1 S.2.1 dJx4a65c_add_7a177_59 (by decide) ?_
  refine lv_iadd S.1 S.2.1 dJx4a65c_add_7a177_60 ?_
  refine lv_topi (fun y_16 ey_16 => ?_)
  have ey_16 : y_16 = nI (0 + 1) := ey_16.trans (rfl)
  subst ey_16
  refine pk_put (v := .int (nI (0 + 1))) S hK hW 2 m_h e_h rfl hinJx4a65c tyJx4a65c_ok nmJx4a65c (by decide) wd_1085 rfl rfl rfl rfl (Nat.le_of_ble_eq_true rfl) dJx4a65c_add_7a177_61 (fun H_17 l_18 hW => ?_)
  have e_h : (va_up F_15 h (.inr (4, ([.int (md + 1), .ref q, .int 0] : List Value).set 2 (.int (nI (0 + 1)))))) h = .inr (4, [.int (md + 1), .ref q, .int (nI (0 + 1))]) := up_eq
  have e_q : (va_up F_15 h (.inr (4, ([.int (md + 1), .ref q, .int 0] : List Value).set 2 (.int (nI (0 + 1)))))) q = rfA (κ 3) 10 (va_up (va_cpy (fun _ => none) (fun _ => none) 0 (0 + 1) 0) 0 (some y)) := (up_ne n_h_q.symm).trans e_q
  have hfr : ∀ x ∈ L, x ≠ h → (va_up F_15 h (.inr (4, ([.int (md + 1), .ref q, .int 0] : List Value).set 2 (.int (nI (0 + 1)))))) x = F x := fun x hx xh => (up_ne xh).trans (hfr x hx xh)
  generalize va_up F_15 h (.inr (4, ([.int (md + 1), .ref q, .int 0] : List Value).set 2 (.int (nI (0 + 1))))) = F_19 at hW e_h e_q hfr
  exact pk_vret S hr hlk hW ⟨hsub1, q, hq_q, ⟨m_h, e_h, m_q, n_h_q, e_q⟩, hfr⟩ (by decide) (by decide) dJx4a65c_add_7a177_64
end
section
/-! ArrayList: remove, clear, its makers; Integer; the iterator -/
theorem mc_Jx4a65c_fastRemove_b59b0 : MCode yJx4a65c_fastRemove_b59b0 cJx4a65c_fastRemove_b59b0 4 none := ⟨wd_1287, wd_8, by decide, by decide⟩
theorem np_Jx4a65c_fastRemove_b59b0 : (parseMethodDescriptor yJx4a65c_fastRemove_b59b0.desc).map (fun d => d.parameters.length) = some 2 := by decide +kernel
set_option maxHeartbeats 4000000 in
set_option maxRecDepth 100000 in
theorem c_Jx4a65c_fastRemove_b59b0 {l : Launch} {D : va_G} {κ : Nat → ClassId} {ζ : Nat → Nat} {L : List Nat} {F : Nat → va_E} {h ar n k i : Nat} {f : Nat → Option Nat} {md : Int32} (hR : RA κ h ar n f md (nI k) L F) (hik : i < k) (hk : k ≤ n) (hn : n ≤ 32) (hel : ∀ i, i < k → ∀ y, f i = some y → ∃ v, bx ζ L F y v) : MtV l D cls (ty5 κ) ζ yJx4a65c_fastRemove_b59b0 cJx4a65c_fastRemove_b59b0 4 none 2 0 0 ([.ref h, .ref ar, .int (nI i)] : List Value) L F (fun L' F' => L = L' ∧ (∃ f', RA κ h ar n f' (md + 1) (nI (k - 1)) L F' ∧ ∀ j, j < k - 1 → f' j = if j < i then f j else f (j + 1)) ∧ FrR h ar F F') := by
  refine MtV.of (by decide) (Nat.le_of_ble_eq_true rfl) ?_
  intro p e s m below meth c S hr hlk hini hK hW hST ls hl
  have hl : lv_has ls 4 [(0, .ref h), (1, .ref ar), (2, .int (nI i))] := hl
  obtain ⟨m_h, e_h, m_ar, n_h_ar, e_ar⟩ := hR
  have e0 := e_h
  have e_ar0 := e_ar
  have hfr : ∀ q, q ≠ h → q ≠ ar → F q = F q := fun _ _ _ => rfl
  refine lv_aload_n S.1 S.2.1 dJx4a65c_fastRemove_b59b0_0 rfl (lv_at hl 0 rfl) ?_
  refine lv_dup S.1 S.2.1 dJx4a65c_fastRemove_b59b0_1 rfl ?_
  refine pk_getU S hK hW 0 m_h e_h rfl hinJx4a65c (by decide) wd_1089 wd_1088 rfl dJx4a65c_fastRemove_b59b0_2 ?_
  refine lv_iconst (v := 1) S.1 S.2.1 dJx4a65c_fastRemove_b59b0_5 (by decide) ?_
  refine lv_iadd S.1 S.2.1 dJx4a65c_fastRemove_b59b0_6 ?_
  refine pk_putU (v := .int (md + 1)) S hK hW 0 m_h e_h rfl hinJx4a65c tyJx4a65c_ok nmJx4a65c (by decide) wd_1089 wd_1088 rfl rfl rfl rfl (Nat.le_of_ble_eq_true rfl) dJx4a65c_fastRemove_b59b0_7 (fun H_1 l_2 hW => ?_)
  have e_h : (va_up F h (.inr (4, ([.int md, .ref ar, .int (nI k)] : List Value).set 0 (.int (md + 1))))) h = .inr (4, [.int (md + 1), .ref ar, .int (nI k)]) := up_eq
  have e_ar : (va_up F h (.inr (4, ([.int md, .ref ar, .int (nI k)] : List Value).set 0 (.int (md + 1))))) ar = rfA (κ 3) n f := (up_ne n_h_ar.symm).trans e_ar
  have hfr : ∀ q, q ≠ h → q ≠ ar → (va_up F h (.inr (4, ([.int md, .ref ar, .int (nI k)] : List Value).set 0 (.int (md + 1))))) q = F q := fun q q1 q2 => (up_ne q1).trans (hfr q q1 q2)
  generalize va_up F h (.inr (4, ([.int md, .ref ar, .int (nI k)] : List Value).set 0 (.int (md + 1)))) = F_3 at hW e_h e_ar hfr
  refine lv_aload_n S.1 S.2.1 dJx4a65c_fastRemove_b59b0_10 rfl (lv_at hl 0 rfl) ?_
  refine pk_get S hK hW 2 m_h e_h rfl hinJx4a65c (by decide) wd_1085 rfl dJx4a65c_fastRemove_b59b0_11 ?_
  refine lv_iconst (v := 1) S.1 S.2.1 dJx4a65c_fastRemove_b59b0_14 (by decide) ?_
  refine lv_isub S.1 S.2.1 dJx4a65c_fastRemove_b59b0_15 ?_
  refine lv_topi (fun y_4 ey_4 => ?_)
  have ey_4 : y_4 = nI (k - 1) := ey_4.trans (pk_sub (b := 1) (a := k) (by omega))
  subst ey_4
  refine lv_dup S.1 S.2.1 dJx4a65c_fastRemove_b59b0_16 rfl ?_
  refine lv_istore_n (lv' := [(3, .int (nI (k - 1))), (0, .ref h), (1, .ref ar), (2, .int (nI i))]) S.1 S.2.1 dJx4a65c_fastRemove_b59b0_17 rfl hl (Nat.le_of_ble_eq_true rfl) rfl (fun ls hl => ?_)
  refine lv_iload_n S.1 S.2.1 dJx4a65c_fastRemove_b59b0_18 rfl (lv_at hl 3 rfl) ?_
  refine lv_icmp_le (tgt := 34) S.1 S.2.1 dJx4a65c_fastRemove_b59b0_19 (by decide) (fun c1 => ?_) (fun c1 => ?_)
  · have hlast : i = k - 1 := by have := (nI_leI (by omega) (by omega)).mp c1; omega
    refine lv_aload_n S.1 S.2.1 dJx4a65c_fastRemove_b59b0_34 rfl (lv_at hl 2 rfl) ?_
    refine lv_aload_n S.1 S.2.1 dJx4a65c_fastRemove_b59b0_35 rfl (lv_at hl 1 rfl) ?_
    refine lv_iload_n S.1 S.2.1 dJx4a65c_fastRemove_b59b0_36 rfl (lv_at hl 0 rfl) ?_
    refine lv_dup_x1 S.1 S.2.1 dJx4a65c_fastRemove_b59b0_37 rfl rfl ?_
    refine pk_put (v := .int (nI (k - 1))) S hK hW 2 m_h e_h rfl hinJx4a65c tyJx4a65c_ok nmJx4a65c (by decide) wd_1085 rfl rfl rfl rfl (Nat.le_of_ble_eq_true rfl) dJx4a65c_fastRemove_b59b0_38 (fun H_5 l_6 hW => ?_)
    have e_h : (va_up F_3 h (.inr (4, ([.int (md + 1), .ref ar, .int (nI k)] : List Value).set 2 (.int (nI (k - 1)))))) h = .inr (4, [.int (md + 1), .ref ar, .int (nI (k - 1))]) := up_eq
    have e_ar : (va_up F_3 h (.inr (4, ([.int (md + 1), .ref ar, .int (nI k)] : List Value).set 2 (.int (nI (k - 1)))))) ar = rfA (κ 3) n f := (up_ne n_h_ar.symm).trans e_ar
    have hfr : ∀ q, q ≠ h → q ≠ ar → (va_up F_3 h (.inr (4, ([.int (md + 1), .ref ar, .int (nI k)] : List Value).set 2 (.int (nI (k - 1)))))) q = F q := fun q q1 q2 => (up_ne q1).trans (hfr q q1 q2)
    generalize va_up F_3 h (.inr (4, ([.int (md + 1), .ref ar, .int (nI k)] : List Value).set 2 (.int (nI (k - 1))))) = F_7 at hW e_h e_ar hfr
    refine lv_null S.1 S.2.1 dJx4a65c_fastRemove_b59b0_41 ?_
    refine pk_aastN S hK hW 3 m_ar e_ar rfl (vp_in_nI (by omega) (by omega)) dJx4a65c_fastRemove_b59b0_42 (fun H_8 l_9 hW => ?_)
    rw [show (nI (k - 1)).toNatClampNeg = (k - 1) from nI_clamp (by omega)] at hW
    have e_h : (va_up F_7 ar (rfA (κ 3) n (va_up f (k - 1) none))) h = .inr (4, [.int (md + 1), .ref ar, .int (nI (k - 1))]) := (up_ne n_h_ar).trans e_h
    have e_ar : (va_up F_7 ar (rfA (κ 3) n (va_up f (k - 1) none))) ar = rfA (κ 3) n (va_up f (k - 1) none) := up_eq
    have hfr : ∀ q, q ≠ h → q ≠ ar → (va_up F_7 ar (rfA (κ 3) n (va_up f (k - 1) none))) q = F q := fun q q1 q2 => (up_ne q2).trans (hfr q q1 q2)
    generalize va_up F_7 ar (rfA (κ 3) n (va_up f (k - 1) none)) = F_10 at hW e_h e_ar hfr
    exact pk_vret S hr hlk hW ⟨rfl, ⟨_, ⟨m_h, e_h, m_ar, n_h_ar, e_ar⟩, fun j hj => by rw [up_ne (by omega), if_pos (by omega)]⟩, hfr⟩ (by decide) (by decide) dJx4a65c_fastRemove_b59b0_43
  · have hlt : i < k - 1 := by rcases Nat.lt_or_ge i (k - 1) with q | q; exact q; exact absurd ((nI_leI (by omega) (by omega)).mpr q) c1
    refine lv_aload_n S.1 S.2.1 dJx4a65c_fastRemove_b59b0_22 rfl (lv_at hl 2 rfl) ?_
    refine lv_iload_n S.1 S.2.1 dJx4a65c_fastRemove_b59b0_23 rfl (lv_at hl 3 rfl) ?_
    refine lv_iconst (v := 1) S.1 S.2.1 dJx4a65c_fastRemove_b59b0_24 (by decide) ?_
    refine lv_iadd S.1 S.2.1 dJx4a65c_fastRemove_b59b0_25 ?_
    refine lv_topi (fun y_11 ey_11 => ?_)
    have ey_11 : y_11 = nI (i + 1) := ey_11.trans (nI_1 i)
    subst ey_11
    refine lv_aload_n S.1 S.2.1 dJx4a65c_fastRemove_b59b0_26 rfl (lv_at hl 2 rfl) ?_
    refine lv_iload_n S.1 S.2.1 dJx4a65c_fastRemove_b59b0_27 rfl (lv_at hl 3 rfl) ?_
    refine lv_iload_n S.1 S.2.1 dJx4a65c_fastRemove_b59b0_28 rfl (lv_at hl 0 rfl) ?_
    refine lv_iload_n S.1 S.2.1 dJx4a65c_fastRemove_b59b0_29 rfl (lv_at hl 3 rfl) ?_
    refine lv_isub S.1 S.2.1 dJx4a65c_fastRemove_b59b0_30 ?_
    refine lv_topi (fun y_12 ey_12 => ?_)
    have ey_12 : y_12 = nI (k - 1 - i) := ey_12.trans (pk_sub (by omega))
    subst ey_12
    have hel1 : ∀ i, i < k → ∀ y, f i = some y → ∃ v, bx ζ L F_3 y v := fun i hi y hy => by obtain ⟨v, hv⟩ := hel i hi y hy; exact ⟨v, hv.keep e0 (fun x hx => hx) (fun x hx xh => if xa : x = ar then by rw [xa, e_ar, e_ar0] else hfr x xh xa)⟩
    refine pk_copyq S hK hST hW wd_1271 wd_857 wd_856 wd_13 hl.1 3 rfl m_ar e_ar m_ar e_ar (i + 1) i (k - 1 - i) rfl rfl rfl (by omega) (by omega) (by omega) (by omega) (fun q hq y hy => hel1 (i + 1 + q) (by omega) y hy) (by decide) (Nat.le_of_ble_eq_true rfl) dJx4a65c_fastRemove_b59b0_31 (fun H_13 l_14 hW => ?_)
    have e_h : (va_up F_3 ar (rfA (κ 3) n (va_cpy f f (i + 1) i (k - 1 - i)))) h = .inr (4, [.int (md + 1), .ref ar, .int (nI k)]) := (up_ne n_h_ar).trans e_h
    have e_ar : (va_up F_3 ar (rfA (κ 3) n (va_cpy f f (i + 1) i (k - 1 - i)))) ar = rfA (κ 3) n (va_cpy f f (i + 1) i (k - 1 - i)) := up_eq
    have hfr : ∀ q, q ≠ h → q ≠ ar → (va_up F_3 ar (rfA (κ 3) n (va_cpy f f (i + 1) i (k - 1 - i)))) q = F q := fun q q1 q2 => (up_ne q2).trans (hfr q q1 q2)
    generalize va_up F_3 ar (rfA (κ 3) n (va_cpy f f (i + 1) i (k - 1 - i))) = F_15 at hW e_h e_ar hfr
    refine lv_aload_n S.1 S.2.1 dJx4a65c_fastRemove_b59b0_34 rfl (lv_at hl 2 rfl) ?_
    refine lv_aload_n S.1 S.2.1 dJx4a65c_fastRemove_b59b0_35 rfl (lv_at hl 1 rfl) ?_
    refine lv_iload_n S.1 S.2.1 dJx4a65c_fastRemove_b59b0_36 rfl (lv_at hl 0 rfl) ?_
    refine lv_dup_x1 S.1 S.2.1 dJx4a65c_fastRemove_b59b0_37 rfl rfl ?_
    refine pk_put (v := .int (nI (k - 1))) S hK hW 2 m_h e_h rfl hinJx4a65c tyJx4a65c_ok nmJx4a65c (by decide) wd_1085 rfl rfl rfl rfl (Nat.le_of_ble_eq_true rfl) dJx4a65c_fastRemove_b59b0_38 (fun H_16 l_17 hW => ?_)
    have e_h : (va_up F_15 h (.inr (4, ([.int (md + 1), .ref ar, .int (nI k)] : List Value).set 2 (.int (nI (k - 1)))))) h = .inr (4, [.int (md + 1), .ref ar, .int (nI (k - 1))]) := up_eq
    have e_ar : (va_up F_15 h (.inr (4, ([.int (md + 1), .ref ar, .int (nI k)] : List Value).set 2 (.int (nI (k - 1)))))) ar = rfA (κ 3) n (va_cpy f f (i + 1) i (k - 1 - i)) := (up_ne n_h_ar.symm).trans e_ar
    have hfr : ∀ q, q ≠ h → q ≠ ar → (va_up F_15 h (.inr (4, ([.int (md + 1), .ref ar, .int (nI k)] : List Value).set 2 (.int (nI (k - 1)))))) q = F q := fun q q1 q2 => (up_ne q1).trans (hfr q q1 q2)
    generalize va_up F_15 h (.inr (4, ([.int (md + 1), .ref ar, .int (nI k)] : List Value).set 2 (.int (nI (k - 1))))) = F_18 at hW e_h e_ar hfr
    refine lv_null S.1 S.2.1 dJx4a65c_fastRemove_b59b0_41 ?_
    refine pk_aastN S hK hW 3 m_ar e_ar rfl (vp_in_nI (by omega) (by omega)) dJx4a65c_fastRemove_b59b0_42 (fun H_19 l_20 hW => ?_)
    rw [show (nI (k - 1)).toNatClampNeg = (k - 1) from nI_clamp (by omega)] at hW
    have e_h : (va_up F_18 ar (rfA (κ 3) n (va_up (va_cpy f f (i + 1) i (k - 1 - i)) (k - 1) none))) h = .inr (4, [.int (md + 1), .ref ar, .int (nI (k - 1))]) := (up_ne n_h_ar).trans e_h
    have e_ar : (va_up F_18 ar (rfA (κ 3) n (va_up (va_cpy f f (i + 1) i (k - 1 - i)) (k - 1) none))) ar = rfA (κ 3) n (va_up (va_cpy f f (i + 1) i (k - 1 - i)) (k - 1) none) := up_eq
    have hfr : ∀ q, q ≠ h → q ≠ ar → (va_up F_18 ar (rfA (κ 3) n (va_up (va_cpy f f (i + 1) i (k - 1 - i)) (k - 1) none))) q = F q := fun q q1 q2 => (up_ne q2).trans (hfr q q1 q2)
    generalize va_up F_18 ar (rfA (κ 3) n (va_up (va_cpy f f (i + 1) i (k - 1 - i)) (k - 1) none)) = F_21 at hW e_h e_ar hfr
    exact pk_vret S hr hlk hW ⟨rfl, ⟨_, ⟨m_h, e_h, m_ar, n_h_ar, e_ar⟩, fun j hj => by
      rw [up_ne (by omega)]
      simp only [va_cpy]
      by_cases hji : j < i
      · rw [if_neg (by omega), if_pos hji]
      · rw [if_pos (by omega), if_neg hji, show i + 1 + (j - i) = j + 1 by omega]⟩, hfr⟩ (by decide) (by decide) dJx4a65c_fastRemove_b59b0_43
theorem mc_Jx4a65c_remove_915e3 : MCode yJx4a65c_remove_915e3 cJx4a65c_remove_915e3 4 (some (.object "java/lang/Object")) := ⟨wd_1283, wd_8, by decide, by decide⟩
theorem np_Jx4a65c_remove_915e3 : (parseMethodDescriptor yJx4a65c_remove_915e3.desc).map (fun d => d.parameters.length) = some 1 := by decide +kernel
set_option maxHeartbeats 4000000 in
set_option maxRecDepth 100000 in
theorem c_Jx4a65c_remove_915e3 {l : Launch} {D : va_G} {κ : Nat → ClassId} {ζ : Nat → Nat} {L : List Nat} {F : Nat → va_E} {h ar n k i : Nat} {f : Nat → Option Nat} {md : Int32} (hR : RA κ h ar n f md (nI k) L F) (hik : i < k) (hk : k ≤ n) (hn : n ≤ 32) (hel : ∀ i, i < k → ∀ y, f i = some y → ∃ v, bx ζ L F y v) {y : Nat} (hv : f i = some y) : MtR l D cls (ty5 κ) ζ yJx4a65c_remove_915e3 cJx4a65c_remove_915e3 4 (some (.object "java/lang/Object")) 3 0 0 ([.ref h, .int (nI i)] : List Value) L F (fun r L' F' => L = L' ∧ y = r ∧ (∃ f', RA κ h ar n f' (md + 1) (nI (k - 1)) L F' ∧ ∀ j, j < k - 1 → f' j = if j < i then f j else f (j + 1)) ∧ FrR h ar F F') := by
  refine MtR.of (by decide) (Nat.le_of_ble_eq_true rfl) ?_
  intro p e s m below meth c S hr hlk hini hK hW hST ls hl
  have hl : lv_has ls 4 [(0, .ref h), (1, .int (nI i))] := hl
  obtain ⟨m_h, e_h, m_ar, n_h_ar, e_ar⟩ := hR
  refine lv_iload_n S.1 S.2.1 dJx4a65c_remove_915e3_0 rfl (lv_at hl 1 rfl) ?_
  refine lv_aload_n S.1 S.2.1 dJx4a65c_remove_915e3_1 rfl (lv_at hl 0 rfl) ?_
  refine pk_get S hK hW 2 m_h e_h rfl hinJx4a65c (by decide) wd_1085 rfl dJx4a65c_remove_915e3_2 ?_
  refine pk_cSI (As := [.int (nI i), .int (nI k)]) (rest := []) S hK hST hW (c_J15_checkIndex_7cf53 (nI_pos (by omega)) (nI_lt hik (by omega))) mc_J15_checkIndex_7cf53 wd_1207 wd_1208 np_J15_checkIndex_7cf53 rfl hl.1 rfl (Nat.le_of_ble_eq_true rfl) dJx4a65c_remove_915e3_5 ⟨by decide, by decide⟩ ⟨by decide, by decide⟩ (fun r L_1 F_2 H_3 l_4 hp hW => ?_)
  obtain ⟨rfl, rfl, rfl⟩ := hp
  refine lv_pop S.1 S.2.1 dJx4a65c_remove_915e3_8 rfl ?_
  refine lv_aload_n S.1 S.2.1 dJx4a65c_remove_915e3_9 rfl (lv_at hl 0 rfl) ?_
  refine pk_get S hK hW 1 m_h e_h rfl hinJx4a65c (by decide) wd_1083 rfl dJx4a65c_remove_915e3_10 ?_
  refine lv_astore_n (lv' := [(2, .ref ar), (0, .ref h), (1, .int (nI i))]) S.1 S.2.1 dJx4a65c_remove_915e3_13 rfl hl (Nat.le_of_ble_eq_true rfl) rfl (fun ls hl => ?_)
  refine lv_aload_n S.1 S.2.1 dJx4a65c_remove_915e3_14 rfl (lv_at hl 0 rfl) ?_
  refine lv_iload_n S.1 S.2.1 dJx4a65c_remove_915e3_15 rfl (lv_at hl 2 rfl) ?_
  refine pk_aald S hK hW 3 m_ar e_ar rfl (vp_in_nI (by omega) (by omega)) (show f (nI i).toNatClampNeg = some y by rw [nI_clamp (by omega)]; exact hv) dJx4a65c_remove_915e3_16 ?_
  refine lv_astore_n (lv' := [(3, .ref y), (2, .ref ar), (0, .ref h), (1, .int (nI i))]) S.1 S.2.1 dJx4a65c_remove_915e3_17 rfl hl (Nat.le_of_ble_eq_true rfl) rfl (fun ls hl => ?_)
  refine lv_aload_n S.1 S.2.1 dJx4a65c_remove_915e3_18 rfl (lv_at hl 2 rfl) ?_
  refine lv_aload_n S.1 S.2.1 dJx4a65c_remove_915e3_19 rfl (lv_at hl 1 rfl) ?_
  refine lv_iload_n S.1 S.2.1 dJx4a65c_remove_915e3_20 rfl (lv_at hl 3 rfl) ?_
  refine pk_cVV (As := [.ref ar, .int (nI i)]) (rest := []) S hK hST hW (c_Jx4a65c_fastRemove_b59b0 ⟨m_h, e_h, m_ar, n_h_ar, e_ar⟩ hik hk hn hel) mc_Jx4a65c_fastRemove_b59b0 wd_1284 wd_1286 wd_1710 rfl np_Jx4a65c_fastRemove_b59b0 m_h e_h rfl rfl hl.1 rfl (Nat.le_of_ble_eq_true rfl) dJx4a65c_remove_915e3_21 ⟨by decide, by decide⟩ ⟨by decide, by decide⟩ (fun L1 F1 H1 l1 hp hW => ?_)
  obtain ⟨rfl, hR1, hfr1⟩ := hp
  refine lv_aload_n S.1 S.2.1 dJx4a65c_remove_915e3_24 rfl (lv_at hl 0 rfl) ?_
  exact pk_rret S hr (Or.inl ⟨_, rfl⟩) hlk hW ⟨rfl, rfl, hR1, hfr1⟩ (by decide) (by decide) dJx4a65c_remove_915e3_25
theorem mc_Jx4a65c_clear_da8c8 : MCode yJx4a65c_clear_da8c8 cJx4a65c_clear_da8c8 4 none := ⟨wd_1380, wd_8, by decide, by decide⟩
theorem np_Jx4a65c_clear_da8c8 : (parseMethodDescriptor yJx4a65c_clear_da8c8.desc).map (fun d => d.parameters.length) = some 0 := by decide +kernel
set_option maxHeartbeats 4000000 in
set_option maxRecDepth 100000 in
theorem c_Jx4a65c_clear_da8c8_own {l : Launch} {D : va_G} {κ : Nat → ClassId} {ζ : Nat → Nat} {L : List Nat} {F : Nat → va_E} {h ar n k : Nat} {f : Nat → Option Nat} {md : Int32} (hR : RA κ h ar n f md (nI k) L F) (hk : k ≤ n) (hn : n ≤ 32) : MtV l D cls (ty5 κ) ζ yJx4a65c_clear_da8c8 cJx4a65c_clear_da8c8 4 none 1 0 0 ([.ref h] : List Value) L F (fun L' F' => L = L' ∧ (∃ f', RA κ h ar n f' (md + 1) 0 L F') ∧ FrR h ar F F') := by
  refine MtV.of (by decide) (Nat.le_of_ble_eq_true rfl) ?_
  intro p e s m below meth c S hr hlk hini hK hW hST ls hl
  have hl : lv_has ls 4 [(0, .ref h)] := hl
  obtain ⟨m_h, e_h, m_ar, n_h_ar, e_ar⟩ := hR
  have hfr : ∀ q, q ≠ h → q ≠ ar → F q = F q := fun _ _ _ => rfl
  refine lv_aload_n S.1 S.2.1 dJx4a65c_clear_da8c8_0 rfl (lv_at hl 0 rfl) ?_
  refine lv_dup S.1 S.2.1 dJx4a65c_clear_da8c8_1 rfl ?_
  refine pk_getU S hK hW 0 m_h e_h rfl hinJx4a65c (by decide) wd_1089 wd_1088 rfl dJx4a65c_clear_da8c8_2 ?_
  refine lv_iconst (v := 1) S.1 S.2.1 dJx4a65c_clear_da8c8_5 (by decide) ?_
  refine lv_iadd S.1 S.2.1 dJx4a65c_clear_da8c8_6 ?_
  refine pk_putU (v := .int (md + 1)) S hK hW 0 m_h e_h rfl hinJx4a65c tyJx4a65c_ok nmJx4a65c (by decide) wd_1089 wd_1088 rfl rfl rfl rfl (Nat.le_of_ble_eq_true rfl) dJx4a65c_clear_da8c8_7 (fun H_1 l_2 hW => ?_)
  have e_h : (va_up F h (.inr (4, ([.int md, .ref ar, .int (nI k)] : List Value).set 0 (.int (md + 1))))) h = .inr (4, [.int (md + 1), .ref ar, .int (nI k)]) := up_eq
  have e_ar : (va_up F h (.inr (4, ([.int md, .ref ar, .int (nI k)] : List Value).set 0 (.int (md + 1))))) ar = rfA (κ 3) n f := (up_ne n_h_ar.symm).trans e_ar
  have hfr : ∀ q, q ≠ h → q ≠ ar → (va_up F h (.inr (4, ([.int md, .ref ar, .int (nI k)] : List Value).set 0 (.int (md + 1))))) q = F q := fun q q1 q2 => (up_ne q1).trans (hfr q q1 q2)
  generalize va_up F h (.inr (4, ([.int md, .ref ar, .int (nI k)] : List Value).set 0 (.int (md + 1)))) = F_3 at hW e_h e_ar hfr
  refine lv_aload_n S.1 S.2.1 dJx4a65c_clear_da8c8_10 rfl (lv_at hl 0 rfl) ?_
  refine pk_get S hK hW 1 m_h e_h rfl hinJx4a65c (by decide) wd_1083 rfl dJx4a65c_clear_da8c8_11 ?_
  refine lv_astore_n (lv' := [(1, .ref ar), (0, .ref h)]) S.1 S.2.1 dJx4a65c_clear_da8c8_14 rfl hl (Nat.le_of_ble_eq_true rfl) rfl (fun ls hl => ?_)
  refine lv_aload_n S.1 S.2.1 dJx4a65c_clear_da8c8_15 rfl (lv_at hl 1 rfl) ?_
  refine pk_get S hK hW 2 m_h e_h rfl hinJx4a65c (by decide) wd_1085 rfl dJx4a65c_clear_da8c8_16 ?_
  refine lv_istore_n (lv' := [(2, .int (nI k)), (1, .ref ar), (0, .ref h)]) S.1 S.2.1 dJx4a65c_clear_da8c8_19 rfl hl (Nat.le_of_ble_eq_true rfl) rfl (fun ls hl => ?_)
  refine lv_aload_n S.1 S.2.1 dJx4a65c_clear_da8c8_20 rfl (lv_at hl 2 rfl) ?_
  refine lv_iconst (v := 0) S.1 S.2.1 dJx4a65c_clear_da8c8_21 (by decide) ?_
  refine lv_dup_x1 S.1 S.2.1 dJx4a65c_clear_da8c8_22 rfl rfl ?_
  refine pk_put (v := .int 0) S hK hW 2 m_h e_h rfl hinJx4a65c tyJx4a65c_ok nmJx4a65c (by decide) wd_1085 rfl rfl rfl rfl (Nat.le_of_ble_eq_true rfl) dJx4a65c_clear_da8c8_23 (fun H_4 l_5 hW => ?_)
  have e_h : (va_up F_3 h (.inr (4, ([.int (md + 1), .ref ar, .int (nI k)] : List Value).set 2 (.int 0)))) h = .inr (4, [.int (md + 1), .ref ar, .int 0]) := up_eq
  have e_ar : (va_up F_3 h (.inr (4, ([.int (md + 1), .ref ar, .int (nI k)] : List Value).set 2 (.int 0)))) ar = rfA (κ 3) n f := (up_ne n_h_ar.symm).trans e_ar
  have hfr : ∀ q, q ≠ h → q ≠ ar → (va_up F_3 h (.inr (4, ([.int (md + 1), .ref ar, .int (nI k)] : List Value).set 2 (.int 0)))) q = F q := fun q q1 q2 => (up_ne q1).trans (hfr q q1 q2)
  generalize va_up F_3 h (.inr (4, ([.int (md + 1), .ref ar, .int (nI k)] : List Value).set 2 (.int 0))) = F_6 at hW e_h e_ar hfr
  refine lv_istore_n (lv' := [(3, .int 0), (2, .int (nI k)), (1, .ref ar), (0, .ref h)]) S.1 S.2.1 dJx4a65c_clear_da8c8_26 rfl hl (Nat.le_of_ble_eq_true rfl) rfl (fun ls hl => ?_)
  have loop : ∀ (N j : Nat) (f1 : Nat → Option Nat) (G : Nat → va_E) (H1 : Heap) (l1 : List Loc) (ls : Array Slot), j + N = k → HW D cls L s H1 l1 L G → G h = .inr (4, [.int (md + 1), .ref ar, .int 0]) → G ar = rfA (κ 3) n f1 → FrR h ar F G → lv_has ls 4 [(3, .int (nI j)), (2, .int (nI k)), (1, .ref ar), (0, .ref h)] → W p l e (Rm 1 0 0) s m ([.ref h] : List Value).toArray below meth c H1 l1 0 0 (EnV D cls s below ([.ref h] : List Value).toArray 0 0 L (fun L' F' => L = L' ∧ (∃ f', RA κ h ar n f' (md + 1) 0 L F') ∧ FrR h ar F F')) (F0 m 27 ls []) := by
    intro N
    induction N with
    | zero =>
      intro j f1 G H1 l1 ls hj hW e_h e_ar hfr hl
      refine lv_iload_n S.1 S.2.1 dJx4a65c_clear_da8c8_27 rfl (lv_at hl 0 rfl) ?_
      refine lv_iload_n S.1 S.2.1 dJx4a65c_clear_da8c8_28 rfl (lv_at hl 1 rfl) ?_
      refine lv_icmp_ge (tgt := 42) S.1 S.2.1 dJx4a65c_clear_da8c8_29 (by decide) (fun _ => ?_) (fun c1 => absurd (nI_le (by omega) (by omega)) c1)
      exact pk_vret S hr hlk hW ⟨rfl, ⟨f1, m_h, e_h, m_ar, n_h_ar, e_ar⟩, hfr⟩ (by decide) (by decide) dJx4a65c_clear_da8c8_42
    | succ N ih =>
      intro j f1 G H1 l1 ls hj hW e_h e_ar hfr hl
      refine lv_iload_n S.1 S.2.1 dJx4a65c_clear_da8c8_27 rfl (lv_at hl 0 rfl) ?_
      refine lv_iload_n S.1 S.2.1 dJx4a65c_clear_da8c8_28 rfl (lv_at hl 1 rfl) ?_
      refine lv_icmp_ge (tgt := 42) S.1 S.2.1 dJx4a65c_clear_da8c8_29 (by decide) (fun c1 => absurd c1 (nI_ge (by omega) (by omega))) (fun _ => ?_)
      refine lv_aload_n S.1 S.2.1 dJx4a65c_clear_da8c8_32 rfl (lv_at hl 2 rfl) ?_
      refine lv_iload_n S.1 S.2.1 dJx4a65c_clear_da8c8_33 rfl (lv_at hl 0 rfl) ?_
      refine lv_null S.1 S.2.1 dJx4a65c_clear_da8c8_34 ?_
      refine pk_aastN S hK hW 3 m_ar e_ar rfl (vp_in_nI (by omega) (by omega)) dJx4a65c_clear_da8c8_35 (fun H2 l2 hW => ?_)
      have e_h2 := (up_ne (v := rfA (κ 3) n (va_up f1 (nI j).toNatClampNeg none)) n_h_ar).trans e_h
      have hfr2 : FrR h ar F (va_up G ar (rfA (κ 3) n (va_up f1 (nI j).toNatClampNeg none))) := fun q q1 q2 => (up_ne q2).trans (hfr q q1 q2)
      refine lv_iinc (v := nI (j + 1)) (lv' := [(3, .int (nI (j + 1))), (2, .int (nI k)), (1, .ref ar), (0, .ref h)]) S.1 S.2.1 dJx4a65c_clear_da8c8_36 hl (k := 0) rfl (nI_1 j) (by decide) rfl (fun ls hl => ?_)
      refine lv_goto (tgt := 27) S.1 S.2.1 dJx4a65c_clear_da8c8_39 (by decide) ?_
      exact ih (j + 1) _ _ _ _ ls (by omega) hW e_h2 up_eq hfr2 hl
  exact loop k 0 f F_6 _ _ ls (by omega) hW e_h e_ar hfr hl
set_option maxHeartbeats 4000000 in
set_option maxRecDepth 100000 in
theorem c_Jx4a65c_clear_da8c8_new {l : Launch} {D : va_G} {κ : Nat → ClassId} {ζ : Nat → Nat} {L : List Nat} {F : Nat → va_E} {h : Nat} {md : Int32} (hR : RE ζ h md 0 L F) : MtV l D cls (ty5 κ) ζ yJx4a65c_clear_da8c8 cJx4a65c_clear_da8c8 4 none 1 0 0 ([.ref h] : List Value) L F (fun L' F' => L = L' ∧ RE ζ h (md + 1) 0 L F' ∧ ∀ q, q ≠ h → F' q = F q) := by
  refine MtV.of (by decide) (Nat.le_of_ble_eq_true rfl) ?_
  intro p e s m below meth c S hr hlk hini hK hW hST ls hl
  have hl : lv_has ls 4 [(0, .ref h)] := hl
  obtain ⟨m_h, e_h⟩ := hR
  have hfr : ∀ q, q ≠ h → F q = F q := fun _ _ => rfl
  refine lv_aload_n S.1 S.2.1 dJx4a65c_clear_da8c8_0 rfl (lv_at hl 0 rfl) ?_
  refine lv_dup S.1 S.2.1 dJx4a65c_clear_da8c8_1 rfl ?_
  refine pk_getU S hK hW 0 m_h e_h rfl hinJx4a65c (by decide) wd_1089 wd_1088 rfl dJx4a65c_clear_da8c8_2 ?_
  refine lv_iconst (v := 1) S.1 S.2.1 dJx4a65c_clear_da8c8_5 (by decide) ?_
  refine lv_iadd S.1 S.2.1 dJx4a65c_clear_da8c8_6 ?_
  refine pk_putU (v := .int (md + 1)) S hK hW 0 m_h e_h rfl hinJx4a65c tyJx4a65c_ok nmJx4a65c (by decide) wd_1089 wd_1088 rfl rfl rfl rfl (Nat.le_of_ble_eq_true rfl) dJx4a65c_clear_da8c8_7 (fun H_1 l_2 hW => ?_)
  have e_h : (va_up F h (.inr (4, ([.int md, .ref (ζ 256), .int 0] : List Value).set 0 (.int (md + 1))))) h = .inr (4, [.int (md + 1), .ref (ζ 256), .int 0]) := up_eq
  have hfr : ∀ q, q ≠ h → (va_up F h (.inr (4, ([.int md, .ref (ζ 256), .int 0] : List Value).set 0 (.int (md + 1))))) q = F q := fun q q1 => (up_ne q1).trans (hfr q q1)
  generalize va_up F h (.inr (4, ([.int md, .ref (ζ 256), .int 0] : List Value).set 0 (.int (md + 1)))) = F_3 at hW e_h hfr
  refine lv_aload_n S.1 S.2.1 dJx4a65c_clear_da8c8_10 rfl (lv_at hl 0 rfl) ?_
  refine pk_get S hK hW 1 m_h e_h rfl hinJx4a65c (by decide) wd_1083 rfl dJx4a65c_clear_da8c8_11 ?_
  refine lv_astore_n (lv' := [(1, .ref (ζ 256)), (0, .ref h)]) S.1 S.2.1 dJx4a65c_clear_da8c8_14 rfl hl (Nat.le_of_ble_eq_true rfl) rfl (fun ls hl => ?_)
  refine lv_aload_n S.1 S.2.1 dJx4a65c_clear_da8c8_15 rfl (lv_at hl 1 rfl) ?_
  refine pk_get S hK hW 2 m_h e_h rfl hinJx4a65c (by decide) wd_1085 rfl dJx4a65c_clear_da8c8_16 ?_
  refine lv_istore_n (lv' := [(2, .int 0), (1, .ref (ζ 256)), (0, .ref h)]) S.1 S.2.1 dJx4a65c_clear_da8c8_19 rfl hl (Nat.le_of_ble_eq_true rfl) rfl (fun ls hl => ?_)
  refine lv_aload_n S.1 S.2.1 dJx4a65c_clear_da8c8_20 rfl (lv_at hl 2 rfl) ?_
  refine lv_iconst (v := 0) S.1 S.2.1 dJx4a65c_clear_da8c8_21 (by decide) ?_
  refine lv_dup_x1 S.1 S.2.1 dJx4a65c_clear_da8c8_22 rfl rfl ?_
  refine pk_put (v := .int 0) S hK hW 2 m_h e_h rfl hinJx4a65c tyJx4a65c_ok nmJx4a65c (by decide) wd_1085 rfl rfl rfl rfl (Nat.le_of_ble_eq_true rfl) dJx4a65c_clear_da8c8_23 (fun H_4 l_5 hW => ?_)
  have e_h : (va_up F_3 h (.inr (4, ([.int (md + 1), .ref (ζ 256), .int 0] : List Value).set 2 (.int 0)))) h = .inr (4, [.int (md + 1), .ref (ζ 256), .int 0]) := up_eq
  have hfr : ∀ q, q ≠ h → (va_up F_3 h (.inr (4, ([.int (md + 1), .ref (ζ 256), .int 0] : List Value).set 2 (.int 0)))) q = F q := fun q q1 => (up_ne q1).trans (hfr q q1)
  generalize va_up F_3 h (.inr (4, ([.int (md + 1), .ref (ζ 256), .int 0] : List Value).set 2 (.int 0))) = F_6 at hW e_h hfr
  refine lv_istore_n (lv' := [(3, .int 0), (2, .int 0), (1, .ref (ζ 256)), (0, .ref h)]) S.1 S.2.1 dJx4a65c_clear_da8c8_26 rfl hl (Nat.le_of_ble_eq_true rfl) rfl (fun ls hl => ?_)
  refine lv_iload_n S.1 S.2.1 dJx4a65c_clear_da8c8_27 rfl (lv_at hl 0 rfl) ?_
  refine lv_iload_n S.1 S.2.1 dJx4a65c_clear_da8c8_28 rfl (lv_at hl 1 rfl) ?_
  refine lv_icmp_ge (tgt := 42) S.1 S.2.1 dJx4a65c_clear_da8c8_29 (by decide) (fun _ => ?_) (fun c1 => absurd (by decide) c1)
  exact pk_vret S hr hlk hW ⟨rfl, ⟨m_h, e_h⟩, hfr⟩ (by decide) (by decide) dJx4a65c_clear_da8c8_42
end
section
/-! makers of lists; Integer; the iterator -/
section CKr
variable {p : Program} {l : Launch} {e : Env} {R : Room} {s : State} {m : MethodId} {args : Array Value} {below : List Frame} {meth : Method} {c : Code} {cc : ByteArray} {nL : Nat} {own : String} {H : Heap} {locs : List Loc} {cells slots : Nat} {Q : State → Prop} {D : va_G} {cl : List vw_C} {tys : List (ClassId × FieldType)} {ζ : Nat → Nat} {pc : Nat} {ls : Array Slot} {rest st0 : List Value} {L0 L : List Nat} {F : Nat → va_E} {y : MethodName} {bytes : ByteArray} {n d mc ms index np : Nat} {rt : Option FieldType} {As : List Value}
theorem pk_cVIr (S : CallFix p m c cc nL s args Gw own) (hK : va_K D cl tys s) (hST : ST ζ (AL L0 s.heap.size) s s.heap) (hW : HW D cl L0 s H locs L F) {post : Int32 → List Nat → (Nat → va_E) → Prop} {b : Nat} {C0 : String} (hM : MtI l D cl tys ζ y bytes n rt d mc ms (.ref b :: As) L F post) (hcd : MCode y bytes n rt) (hlink : Cond.methodLink own index y ∈ Gw) (hin : Cond.instanceMethod y ∈ Gw) (hsel : Cond.selects C0 y y ∈ Gw) (hyc : y.cls = C0) (hnp : (parseMethodDescriptor y.desc).map (fun d => d.parameters.length) = some np) (hrcv : ∃ cellB : Cell, H[b]? = some cellB ∧ cellB.vm.isStatics = false ∧ s.vm.findClass C0 = some cellB.cls) (hlen : As.length = np) (hsize : ls.size = nL) (hstk : st0 = As.reverse ++ .ref b :: rest) (hcat : (rest.map fun v => v.category).sum ≤ 8) (hdg : decode cc pc = .ok (.invokevirtual index, 3)) (hR : d + 1 ≤ R.frames ∧ 8 + (n + 11) + 40 * d ≤ R.locals) (hf : cells + mc ≤ R.cells ∧ slots + ms ≤ R.slots)
    (kk : ∀ (r : Int32) (L1 : List Nat) (F1 : Nat → va_E) (H1 : Heap) (locs1 : List Loc), post r L1 F1 → HW D cl L0 s H1 locs1 L1 F1 → W p l e R s m args below meth c H1 locs1 (cells + mc) (slots + ms) Q (F0 m (pc + 3) ls (.int r :: rest))) : W p l e R s m args below meth c H locs cells slots Q (F0 m pc ls st0) := by
  exact va_calli (va_runV (As := As) (rest := rest) S (hM H.size) (cwV np S.2.2.2.2 (gw_cons (pre := [.methodLink own index y, .instanceMethod y, .selects C0 y y, .initialized C0]) hcd (List.forall_mem_cons.mpr ⟨hlink, List.forall_mem_cons.mpr ⟨hin, List.forall_mem_cons.mpr ⟨hsel, List.forall_mem_cons.mpr ⟨hyc ▸ hcd.2.1, fun _ h => absurd h List.not_mem_nil⟩⟩⟩⟩)) rfl rfl rfl ⟨hyc, hcd.2.2.1, hcd.2.2.2, hnp⟩ hR) ⟨PrC.blind, hrcv, fun U hU hWm => ⟨rfl, PrC.of hK hW hST hU hWm⟩⟩ rfl hlen hsize hstk (lv_room hcat) hdg hf) hW.2.2 (fun q _ h => hW.sub q h) hW.sub (fun r u t H1 locs1 ht hvm hp hB hz hk hS1 => kk r u.1 u.2 H1 locs1 hp (hW.after (sz := 0) ht hB hS1))
end CKr
theorem mc_Jxa1e45_init_da8c8 : MCode yJxa1e45_init_da8c8 cJxa1e45_init_da8c8 1 none := ⟨wd_1080, wd_6, by decide, by decide⟩
theorem np_Jxa1e45_init_da8c8 : (parseMethodDescriptor yJxa1e45_init_da8c8.desc).map (fun d => d.parameters.length) = some 0 := by decide +kernel
set_option maxHeartbeats 4000000 in
set_option maxRecDepth 100000 in
theorem c_Jxa1e45_init_da8c8 {l : Launch} {D : va_G} {κ : Nat → ClassId} {ζ : Nat → Nat} {L : List Nat} {F : Nat → va_E} {h : Nat} : MtV l D cls (ty5 κ) ζ yJxa1e45_init_da8c8 cJxa1e45_init_da8c8 1 none 2 0 0 ([.ref h] : List Value) L F (fun L' F' => L = L' ∧ F = F') := by
  refine MtV.of (by decide) (Nat.le_of_ble_eq_true rfl) ?_
  intro p e s m below meth c S hr hlk hini hK hW hST ls hl
  have hl : lv_has ls 1 [(0, .ref h)] := hl
  refine lv_aload_n S.1 S.2.1 dJxa1e45_init_da8c8_0 rfl (lv_at hl 0 rfl) ?_
  refine pk_objInit S wd_1081 wd_38 wd_39 hl.1 dJxa1e45_init_da8c8_1 (by decide) (by decide) ?_
  exact pk_vret S hr hlk hW ⟨rfl, rfl⟩ (by decide) (by decide) dJxa1e45_init_da8c8_4
theorem mc_Jxc12de_init_da8c8 : MCode yJxc12de_init_da8c8 cJxc12de_init_da8c8 1 none := ⟨wd_1077, wd_7, by decide, by decide⟩
theorem np_Jxc12de_init_da8c8 : (parseMethodDescriptor yJxc12de_init_da8c8.desc).map (fun d => d.parameters.length) = some 0 := by decide +kernel
set_option maxHeartbeats 4000000 in
set_option maxRecDepth 100000 in
theorem c_Jxc12de_init_da8c8 {l : Launch} {D : va_G} {κ : Nat → ClassId} {ζ : Nat → Nat} {L : List Nat} {F : Nat → va_E} {h : Nat} (m_h : h ∈ L) (e_h : F h = .inr (4, [.int 0, .null, .int 0])) : MtV l D cls (ty5 κ) ζ yJxc12de_init_da8c8 cJxc12de_init_da8c8 1 none 3 0 0 ([.ref h] : List Value) L F (fun L' F' => L = L' ∧ F' h = .inr (4, [.int 0, .null, .int 0]) ∧ ∀ q, q ≠ h → F' q = F q) := by
  refine MtV.of (by decide) (Nat.le_of_ble_eq_true rfl) ?_
  intro p e s m below meth c S hr hlk hini hK hW hST ls hl
  have hl : lv_has ls 1 [(0, .ref h)] := hl
  have hfr : ∀ q, q ≠ h → F q = F q := fun _ _ => rfl
  refine lv_aload_n S.1 S.2.1 dJxc12de_init_da8c8_0 rfl (lv_at hl 0 rfl) ?_
  refine pk_cIV (As := []) (rest := []) S hK hST hW (c_Jxa1e45_init_da8c8) mc_Jxa1e45_init_da8c8 wd_1078 wd_1079 rfl rfl np_Jxa1e45_init_da8c8 rfl hl.1 rfl (Nat.le_of_ble_eq_true rfl) dJxc12de_init_da8c8_1 ⟨by decide, by decide⟩ ⟨by decide, by decide⟩ (fun L_1 F_2 H_3 l_4 hp hW => ?_)
  obtain ⟨rfl, rfl⟩ := hp
  refine lv_aload_n S.1 S.2.1 dJxc12de_init_da8c8_4 rfl (lv_at hl 0 rfl) ?_
  refine lv_iconst (v := 0) S.1 S.2.1 dJxc12de_init_da8c8_5 (by decide) ?_
  refine pk_put (v := .int 0) S hK hW 0 m_h e_h rfl hinJx4a65c tyJx4a65c_ok nmJx4a65c (by decide) wd_1086 rfl rfl rfl rfl (Nat.le_of_ble_eq_true rfl) dJxc12de_init_da8c8_6 (fun H_5 l_6 hW => ?_)
  have e_h : (va_up F h (.inr (4, ([.int 0, .null, .int 0] : List Value).set 0 (.int 0)))) h = .inr (4, [.int 0, .null, .int 0]) := up_eq
  have hfr : ∀ q, q ≠ h → (va_up F h (.inr (4, ([.int 0, .null, .int 0] : List Value).set 0 (.int 0)))) q = F q := fun q q1 => (up_ne q1).trans (hfr q q1)
  generalize va_up F h (.inr (4, ([.int 0, .null, .int 0] : List Value).set 0 (.int 0))) = F_7 at hW e_h hfr
  exact pk_vret S hr hlk hW ⟨rfl, e_h, hfr⟩ (by decide) (by decide) dJxc12de_init_da8c8_9
theorem mc_Jx4a65c_init_da8c8 : MCode yJx4a65c_init_da8c8 cJx4a65c_init_da8c8 1 none := ⟨wd_1074, wd_8, by decide, by decide⟩
theorem np_Jx4a65c_init_da8c8 : (parseMethodDescriptor yJx4a65c_init_da8c8.desc).map (fun d => d.parameters.length) = some 0 := by decide +kernel
set_option maxHeartbeats 4000000 in
set_option maxRecDepth 100000 in
theorem c_Jx4a65c_init_da8c8 {l : Launch} {D : va_G} {κ : Nat → ClassId} {ζ : Nat → Nat} {L : List Nat} {F : Nat → va_E} {h : Nat} (m_h : h ∈ L) (e_h : F h = .inr (4, [.int 0, .null, .int 0])) : MtV l D cls (ty5 κ) ζ yJx4a65c_init_da8c8 cJx4a65c_init_da8c8 1 none 4 0 0 ([.ref h] : List Value) L F (fun L' F' => L = L' ∧ RE ζ h 0 0 L F' ∧ ∀ q, q ≠ h → F' q = F q) := by
  refine MtV.of (by decide) (Nat.le_of_ble_eq_true rfl) ?_
  intro p e s m below meth c S hr hlk hini hK hW hST ls hl
  have hl : lv_has ls 1 [(0, .ref h)] := hl
  refine lv_aload_n S.1 S.2.1 dJx4a65c_init_da8c8_0 rfl (lv_at hl 0 rfl) ?_
  refine pk_cIV (As := []) (rest := []) S hK hST hW (c_Jxc12de_init_da8c8 m_h e_h) mc_Jxc12de_init_da8c8 wd_1075 wd_1076 rfl rfl np_Jxc12de_init_da8c8 rfl hl.1 rfl (Nat.le_of_ble_eq_true rfl) dJx4a65c_init_da8c8_1 ⟨by decide, by decide⟩ ⟨by decide, by decide⟩ (fun L1 F1 H1 l1 hp hW => ?_)
  obtain ⟨rfl, e_h, hfr⟩ := hp
  refine lv_aload_n S.1 S.2.1 dJx4a65c_init_da8c8_4 rfl (lv_at hl 0 rfl) ?_
  refine pk_gets S hW hST.2.zEmpty wd_1082 dJx4a65c_init_da8c8_5 ?_
  refine pk_put (v := .ref (ζ 256)) S hK hW 1 m_h e_h rfl hinJx4a65c tyJx4a65c_ok nmJx4a65c (by decide) wd_1083 rfl rfl rfl rfl (Nat.le_of_ble_eq_true rfl) dJx4a65c_init_da8c8_8 (fun H_1 l_2 hW => ?_)
  have e_h : (va_up F1 h (.inr (4, ([.int 0, .null, .int 0] : List Value).set 1 (.ref (ζ 256))))) h = .inr (4, [.int 0, .ref (ζ 256), .int 0]) := up_eq
  have hfr : ∀ q, q ≠ h → (va_up F1 h (.inr (4, ([.int 0, .null, .int 0] : List Value).set 1 (.ref (ζ 256))))) q = F q := fun q q1 => (up_ne q1).trans (hfr q q1)
  generalize va_up F1 h (.inr (4, ([.int 0, .null, .int 0] : List Value).set 1 (.ref (ζ 256)))) = F_3 at hW e_h hfr
  exact pk_vret S hr hlk hW ⟨rfl, ⟨m_h, e_h⟩, hfr⟩ (by decide) (by decide) dJx4a65c_init_da8c8_11
theorem mc_Jxd2413_init_da8c8 : MCode yJxd2413_init_da8c8 cJxd2413_init_da8c8 1 none := ⟨wd_1245, wd_23, by decide, by decide⟩
theorem np_Jxd2413_init_da8c8 : (parseMethodDescriptor yJxd2413_init_da8c8.desc).map (fun d => d.parameters.length) = some 0 := by decide +kernel
set_option maxHeartbeats 4000000 in
set_option maxRecDepth 100000 in
theorem c_Jxd2413_init_da8c8 {l : Launch} {D : va_G} {κ : Nat → ClassId} {ζ : Nat → Nat} {L : List Nat} {F : Nat → va_E} {h : Nat} : MtV l D cls (ty5 κ) ζ yJxd2413_init_da8c8 cJxd2413_init_da8c8 1 none 2 0 0 ([.ref h] : List Value) L F (fun L' F' => L = L' ∧ F = F') := by
  refine MtV.of (by decide) (Nat.le_of_ble_eq_true rfl) ?_
  intro p e s m below meth c S hr hlk hini hK hW hST ls hl
  have hl : lv_has ls 1 [(0, .ref h)] := hl
  refine lv_aload_n S.1 S.2.1 dJxd2413_init_da8c8_0 rfl (lv_at hl 0 rfl) ?_
  refine pk_objInit S wd_1246 wd_38 wd_39 hl.1 dJxd2413_init_da8c8_1 (by decide) (by decide) ?_
  exact pk_vret S hr hlk hW ⟨rfl, rfl⟩ (by decide) (by decide) dJxd2413_init_da8c8_4
theorem mc_J6_init_d00df : MCode yJ6_init_d00df cJ6_init_d00df 2 none := ⟨wd_1242, wd_24, by decide, by decide⟩
theorem np_J6_init_d00df : (parseMethodDescriptor yJ6_init_d00df.desc).map (fun d => d.parameters.length) = some 1 := by decide +kernel
set_option maxHeartbeats 4000000 in
set_option maxRecDepth 100000 in
theorem c_J6_init_d00df {l : Launch} {D : va_G} {κ : Nat → ClassId} {ζ : Nat → Nat} {L : List Nat} {F : Nat → va_E} {h : Nat} {v : Int32} (m_h : h ∈ L) (e_h : F h = .inr (2, [.int 0])) : MtV l D cls (ty5 κ) ζ yJ6_init_d00df cJ6_init_d00df 2 none 3 0 0 ([.ref h, .int v] : List Value) L F (fun L' F' => L = L' ∧ F' h = .inr (2, [.int v]) ∧ ∀ q, q ≠ h → F' q = F q) := by
  refine MtV.of (by decide) (Nat.le_of_ble_eq_true rfl) ?_
  intro p e s m below meth c S hr hlk hini hK hW hST ls hl
  have hl : lv_has ls 2 [(0, .ref h), (1, .int v)] := hl
  have hfr : ∀ q, q ≠ h → F q = F q := fun _ _ => rfl
  refine lv_aload_n S.1 S.2.1 dJ6_init_d00df_0 rfl (lv_at hl 0 rfl) ?_
  refine pk_cIV (As := []) (rest := []) S hK hST hW (c_Jxd2413_init_da8c8) mc_Jxd2413_init_da8c8 wd_1243 wd_1244 rfl rfl np_Jxd2413_init_da8c8 rfl hl.1 rfl (Nat.le_of_ble_eq_true rfl) dJ6_init_d00df_1 ⟨by decide, by decide⟩ ⟨by decide, by decide⟩ (fun L_1 F_2 H_3 l_4 hp hW => ?_)
  obtain ⟨rfl, rfl⟩ := hp
  refine lv_aload_n S.1 S.2.1 dJ6_init_d00df_4 rfl (lv_at hl 0 rfl) ?_
  refine lv_iload_n S.1 S.2.1 dJ6_init_d00df_5 rfl (lv_at hl 1 rfl) ?_
  refine pk_putF (v := .int v) S hK hW 0 m_h e_h rfl hinJ6 tyJ6_ok nmJ6 (by decide) wd_1247 rfl (hini rfl) rfl rfl rfl rfl (Nat.le_of_ble_eq_true rfl) dJ6_init_d00df_6 (fun H_5 l_6 hW => ?_)
  have e_h : (va_up F h (.inr (2, ([.int 0] : List Value).set 0 (.int v)))) h = .inr (2, [.int v]) := up_eq
  have hfr : ∀ q, q ≠ h → (va_up F h (.inr (2, ([.int 0] : List Value).set 0 (.int v)))) q = F q := fun q q1 => (up_ne q1).trans (hfr q q1)
  generalize va_up F h (.inr (2, ([.int 0] : List Value).set 0 (.int v))) = F_7 at hW e_h hfr
  exact pk_vret S hr hlk hW ⟨rfl, e_h, hfr⟩ (by decide) (by decide) dJ6_init_d00df_9
theorem mc_J6_valueOf_2dffe : MCode yJ6_valueOf_2dffe cJ6_valueOf_2dffe 1 (some (.object "java/lang/Integer")) := ⟨wd_1235, wd_24, by decide, by decide⟩
theorem np_J6_valueOf_2dffe : (parseMethodDescriptor yJ6_valueOf_2dffe.desc).map (fun d => d.parameters.length) = some 1 := by decide +kernel
set_option maxHeartbeats 4000000 in
set_option maxRecDepth 100000 in
theorem c_J6_valueOf_2dffe {l : Launch} {D : va_G} {κ : Nat → ClassId} {ζ : Nat → Nat} {L : List Nat} {F : Nat → va_E} {v : Int32} : MtR l D cls (ty5 κ) ζ yJ6_valueOf_2dffe cJ6_valueOf_2dffe 1 (some (.object "java/lang/Integer")) 4 1 1 ([.int v] : List Value) L F (fun r L' F' => (∀ x ∈ L, x ∈ L') ∧ bx ζ L' F' r v ∧ ∀ x ∈ L, F' x = F x) := by
  refine MtR.of (by decide) (Nat.le_of_ble_eq_true rfl) ?_
  intro p e s m below meth c S hr hlk hini hK hW hST ls hl
  have hl : lv_has ls 1 [(0, .int v)] := hl
  refine lv_iload_n S.1 S.2.1 dJ6_valueOf_2dffe_0 rfl (lv_at hl 0 rfl) ?_
  refine lv_bipush (v := (-128)) S.1 S.2.1 dJ6_valueOf_2dffe_1 (by decide) ?_
  refine lv_icmp_lt (tgt := 23) S.1 S.2.1 dJ6_valueOf_2dffe_3 (by decide) (fun _ => ?_) (fun c1 => ?_)
  · skip
    have hsub : ∀ x ∈ L, x ∈ L := fun x hx => hx
    have hfr : ∀ x ∈ L, True → F x = F x := fun _ _ _ => rfl
    refine pk_new (fs := [.int 0]) (ci := 2) S hK hW hinJ6 tyJ6_ok wd_1238 wd_1239 wd_24 rfl (fun j hj => by match j, hj with | 0, _ => rfl | j + 1, hj => exact absurd hj (by omega)) (by decide) (by decide) dJ6_valueOf_2dffe_23 (fun q H_1 hq_q hW => ?_)
    have e_q : (va_up F q (.inr (2, [.int 0]))) q = .inr (2, [.int 0]) := up_eq
    have m_q : q ∈ L ++ [q] := List.mem_append_right _ (List.mem_singleton.mpr rfl)
    have hnw_q : q ∉ L := fun ee => hq_q (hsub _ ee)
    have hfr : ∀ x ∈ L, True → (va_up F q (.inr (2, [.int 0]))) x = F x := fun x hx ht => (up_ne (fun (ee : x = q) => hnw_q (ee ▸ hx))).trans (hfr x hx ht)
    have hsub : ∀ x ∈ L, x ∈ L ++ [q] := fun x hx => List.mem_append_left _ (hsub x hx)
    generalize va_up F q (.inr (2, [.int 0])) = F_2 at hW e_q hfr
    generalize L ++ [q] = L_3 at hW m_q hsub
    refine lv_dup S.1 S.2.1 dJ6_valueOf_2dffe_26 rfl ?_
    refine lv_iload_n S.1 S.2.1 dJ6_valueOf_2dffe_27 rfl (lv_at hl 0 rfl) ?_
    refine pk_cIV (As := [.int v]) (rest := [.ref q]) S hK hST hW (c_J6_init_d00df m_q e_q) mc_J6_init_d00df wd_1240 wd_1241 rfl rfl np_J6_init_d00df rfl hl.1 rfl (Nat.le_of_ble_eq_true rfl) dJ6_valueOf_2dffe_28 ⟨by decide, by decide⟩ ⟨by decide, by decide⟩ (fun L9 F1 H1 l1 hp hW => ?_)
    obtain ⟨rfl, e_q, hfr1⟩ := hp
    have hfr : ∀ x ∈ L, True → F1 x = F x := fun x hx ht => (hfr1 x (fun (ee : x = q) => hnw_q (ee ▸ hx))).trans (hfr x hx ht)
    exact pk_rret S hr (Or.inl ⟨_, rfl⟩) hlk hW ⟨hsub, Or.inl ⟨m_q, e_q⟩, fun x hx => hfr x hx trivial⟩ (by decide) (by decide) dJ6_valueOf_2dffe_31
  · skip
    refine lv_iload_n S.1 S.2.1 dJ6_valueOf_2dffe_6 rfl (lv_at hl 0 rfl) ?_
    refine pk_gets S hW hST.2.zHigh wd_1236 dJ6_valueOf_2dffe_7 ?_
    refine lv_icmp_gt (tgt := 23) S.1 S.2.1 dJ6_valueOf_2dffe_10 (by decide) (fun _ => ?_) (fun c2 => ?_)
    · skip
      have hsub : ∀ x ∈ L, x ∈ L := fun x hx => hx
      have hfr : ∀ x ∈ L, True → F x = F x := fun _ _ _ => rfl
      refine pk_new (fs := [.int 0]) (ci := 2) S hK hW hinJ6 tyJ6_ok wd_1238 wd_1239 wd_24 rfl (fun j hj => by match j, hj with | 0, _ => rfl | j + 1, hj => exact absurd hj (by omega)) (by decide) (by decide) dJ6_valueOf_2dffe_23 (fun q H_4 hq_q hW => ?_)
      have e_q : (va_up F q (.inr (2, [.int 0]))) q = .inr (2, [.int 0]) := up_eq
      have m_q : q ∈ L ++ [q] := List.mem_append_right _ (List.mem_singleton.mpr rfl)
      have hnw_q : q ∉ L := fun ee => hq_q (hsub _ ee)
      have hfr : ∀ x ∈ L, True → (va_up F q (.inr (2, [.int 0]))) x = F x := fun x hx ht => (up_ne (fun (ee : x = q) => hnw_q (ee ▸ hx))).trans (hfr x hx ht)
      have hsub : ∀ x ∈ L, x ∈ L ++ [q] := fun x hx => List.mem_append_left _ (hsub x hx)
      generalize va_up F q (.inr (2, [.int 0])) = F_5 at hW e_q hfr
      generalize L ++ [q] = L_6 at hW m_q hsub
      refine lv_dup S.1 S.2.1 dJ6_valueOf_2dffe_26 rfl ?_
      refine lv_iload_n S.1 S.2.1 dJ6_valueOf_2dffe_27 rfl (lv_at hl 0 rfl) ?_
      refine pk_cIV (As := [.int v]) (rest := [.ref q]) S hK hST hW (c_J6_init_d00df m_q e_q) mc_J6_init_d00df wd_1240 wd_1241 rfl rfl np_J6_init_d00df rfl hl.1 rfl (Nat.le_of_ble_eq_true rfl) dJ6_valueOf_2dffe_28 ⟨by decide, by decide⟩ ⟨by decide, by decide⟩ (fun L9 F1 H1 l1 hp hW => ?_)
      obtain ⟨rfl, e_q, hfr1⟩ := hp
      have hfr : ∀ x ∈ L, True → F1 x = F x := fun x hx ht => (hfr1 x (fun (ee : x = q) => hnw_q (ee ▸ hx))).trans (hfr x hx ht)
      exact pk_rret S hr (Or.inl ⟨_, rfl⟩) hlk hW ⟨hsub, Or.inl ⟨m_q, e_q⟩, fun x hx => hfr x hx trivial⟩ (by decide) (by decide) dJ6_valueOf_2dffe_31
    · obtain ⟨j, hj, ej, ev⟩ := bx_small c1 c2
      refine pk_gets S hW hST.2.zCache wd_1237 dJ6_valueOf_2dffe_13 ?_
      refine lv_iload_n S.1 S.2.1 dJ6_valueOf_2dffe_16 rfl (lv_at hl 0 rfl) ?_
      refine lv_sipush (v := 128) S.1 S.2.1 dJ6_valueOf_2dffe_17 (by decide) ?_
      refine lv_iadd S.1 S.2.1 dJ6_valueOf_2dffe_20 ?_
      rw [ej]
      refine vb_tq S.1 S.2.1 hST.2.tCache hW.2.2 (vp_in_nI hj (by decide)) rfl dJ6_valueOf_2dffe_21 ?_
      rw [nI_clamp (by omega)]
      exact W.widen (k := 1) (n := 1) (by decide) (by decide) (pk_rret S hr (Or.inl ⟨_, rfl⟩) hlk hW ⟨fun x hx => hx, Or.inr ⟨j, hj, rfl, ev⟩, fun x hx => rfl⟩ (by decide) (by decide) dJ6_valueOf_2dffe_22)
theorem mc_J6_intValue_8abf5 : MCode yJ6_intValue_8abf5 cJ6_intValue_8abf5 1 (some .int) := ⟨wd_1307, wd_24, by decide, by decide⟩
theorem np_J6_intValue_8abf5 : (parseMethodDescriptor yJ6_intValue_8abf5.desc).map (fun d => d.parameters.length) = some 0 := by decide +kernel
set_option maxHeartbeats 4000000 in
set_option maxRecDepth 100000 in
theorem c_J6_intValue_8abf5 {l : Launch} {D : va_G} {κ : Nat → ClassId} {ζ : Nat → Nat} {L : List Nat} {F : Nat → va_E} {y : Nat} {v : Int32} (hb : bx ζ L F y v) : MtI l D cls (ty5 κ) ζ yJ6_intValue_8abf5 cJ6_intValue_8abf5 1 (some .int) 1 0 0 ([.ref y] : List Value) L F (fun r L' F' => L = L' ∧ F = F' ∧ v = r) := by
  refine MtI.of (by decide) (Nat.le_of_ble_eq_true rfl) ?_
  intro p e s m below meth c S hr hlk hini hK hW hST ls hl
  have hl : lv_has ls 1 [(0, .ref y)] := hl
  refine lv_aload_n S.1 S.2.1 dJ6_intValue_8abf5_0 rfl (lv_at hl 0 rfl) ?_
  rcases hb with ⟨b1, b2⟩ | ⟨k, hk, rfl, rfl⟩
  · refine pk_get S hK hW 0 b1 b2 rfl hinJ6 (by decide) wd_1247 rfl dJ6_intValue_8abf5_1 ?_
    exact pk_iret S hr hlk hW ⟨rfl, rfl, rfl⟩ (by decide) (by decide) dJ6_intValue_8abf5_4
  · refine vk_getf S.1 S.2.1 (hST.2.cache.2 k hk) hW.2.2 S.2.2.2.1 (S.2.2.2.2 _ wd_1247) (fun _ h => h) dJ6_intValue_8abf5_1 ?_
    exact pk_iret S hr hlk hW ⟨rfl, rfl, rfl⟩ (by decide) (by decide) dJ6_intValue_8abf5_4
theorem mc_Jx35411_init_45d68 : MCode yJx35411_init_45d68 cJx35411_init_45d68 2 none := ⟨wd_1613, wd_31, by decide, by decide⟩
theorem np_Jx35411_init_45d68 : (parseMethodDescriptor yJx35411_init_45d68.desc).map (fun d => d.parameters.length) = some 1 := by decide +kernel
set_option maxHeartbeats 4000000 in
set_option maxRecDepth 100000 in
theorem c_Jx35411_init_45d68 {l : Launch} {D : va_G} {κ : Nat → ClassId} {ζ : Nat → Nat} {L : List Nat} {F : Nat → va_E} {t h rr : Nat} {md sz : Int32} (m_t : t ∈ L) (e_t : F t = .inr (3, [.int 0, .int 0, .int 0, .null])) (m_h : h ∈ L) (e_h : F h = .inr (4, [.int md, .ref rr, .int sz])) (hne : h ≠ t) : MtV l D cls (ty5 κ) ζ yJx35411_init_45d68 cJx35411_init_45d68 2 none 2 0 0 ([.ref t, .ref h] : List Value) L F (fun L' F' => L = L' ∧ F' t = .inr (3, [.int 0, .int (-1), .int md, .ref h]) ∧ ∀ q, q ≠ t → F' q = F q) := by
  refine MtV.of (by decide) (Nat.le_of_ble_eq_true rfl) ?_
  intro p e s m below meth c S hr hlk hini hK hW hST ls hl
  have hl : lv_has ls 2 [(0, .ref t), (1, .ref h)] := hl
  have hfr : ∀ q, q ≠ t → F q = F q := fun _ _ => rfl
  have n_h_t : h ≠ t := hne
  refine lv_aload_n S.1 S.2.1 dJx35411_init_45d68_0 rfl (lv_at hl 0 rfl) ?_
  refine lv_aload_n S.1 S.2.1 dJx35411_init_45d68_1 rfl (lv_at hl 1 rfl) ?_
  refine pk_putF (v := .ref h) S hK hW 3 m_t e_t rfl hinJx35411 tyJx35411_ok nmJx35411 (by decide) wd_1618 rfl (hini rfl) rfl rfl rfl rfl (Nat.le_of_ble_eq_true rfl) dJx35411_init_45d68_2 (fun H_1 l_2 hW => ?_)
  have e_t : (va_up F t (.inr (3, ([.int 0, .int 0, .int 0, .null] : List Value).set 3 (.ref h)))) t = .inr (3, [.int 0, .int 0, .int 0, .ref h]) := up_eq
  have e_h : (va_up F t (.inr (3, ([.int 0, .int 0, .int 0, .null] : List Value).set 3 (.ref h)))) h = .inr (4, [.int md, .ref rr, .int sz]) := (up_ne n_h_t).trans e_h
  have hfr : ∀ q, q ≠ t → (va_up F t (.inr (3, ([.int 0, .int 0, .int 0, .null] : List Value).set 3 (.ref h)))) q = F q := fun q q1 => (up_ne q1).trans (hfr q q1)
  generalize va_up F t (.inr (3, ([.int 0, .int 0, .int 0, .null] : List Value).set 3 (.ref h))) = F_3 at hW e_t e_h hfr
  refine lv_aload_n S.1 S.2.1 dJx35411_init_45d68_5 rfl (lv_at hl 0 rfl) ?_
  refine pk_objInit S wd_1614 wd_38 wd_39 hl.1 dJx35411_init_45d68_6 (by decide) (by decide) ?_
  refine lv_aload_n S.1 S.2.1 dJx35411_init_45d68_9 rfl (lv_at hl 0 rfl) ?_
  refine lv_iconst (v := (-1)) S.1 S.2.1 dJx35411_init_45d68_10 (by decide) ?_
  refine pk_put (v := .int (-1)) S hK hW 1 m_t e_t rfl hinJx35411 tyJx35411_ok nmJx35411 (by decide) wd_1616 rfl rfl rfl rfl (Nat.le_of_ble_eq_true rfl) dJx35411_init_45d68_11 (fun H_4 l_5 hW => ?_)
  have e_t : (va_up F_3 t (.inr (3, ([.int 0, .int 0, .int 0, .ref h] : List Value).set 1 (.int (-1))))) t = .inr (3, [.int 0, .int (-1), .int 0, .ref h]) := up_eq
  have e_h : (va_up F_3 t (.inr (3, ([.int 0, .int 0, .int 0, .ref h] : List Value).set 1 (.int (-1))))) h = .inr (4, [.int md, .ref rr, .int sz]) := (up_ne n_h_t).trans e_h
  have hfr : ∀ q, q ≠ t → (va_up F_3 t (.inr (3, ([.int 0, .int 0, .int 0, .ref h] : List Value).set 1 (.int (-1))))) q = F q := fun q q1 => (up_ne q1).trans (hfr q q1)
  generalize va_up F_3 t (.inr (3, ([.int 0, .int 0, .int 0, .ref h] : List Value).set 1 (.int (-1)))) = F_6 at hW e_t e_h hfr
  refine lv_aload_n S.1 S.2.1 dJx35411_init_45d68_14 rfl (lv_at hl 0 rfl) ?_
  refine lv_aload_n S.1 S.2.1 dJx35411_init_45d68_15 rfl (lv_at hl 0 rfl) ?_
  refine pk_get S hK hW 3 m_t e_t rfl hinJx35411 (by decide) wd_1618 rfl dJx35411_init_45d68_16 ?_
  refine pk_getU S hK hW 0 m_h e_h rfl hinJx4a65c (by decide) wd_1087 wd_1088 rfl dJx35411_init_45d68_19 ?_
  refine pk_put (v := .int md) S hK hW 2 m_t e_t rfl hinJx35411 tyJx35411_ok nmJx35411 (by decide) wd_1617 rfl rfl rfl rfl (Nat.le_of_ble_eq_true rfl) dJx35411_init_45d68_22 (fun H_7 l_8 hW => ?_)
  have e_t : (va_up F_6 t (.inr (3, ([.int 0, .int (-1), .int 0, .ref h] : List Value).set 2 (.int md)))) t = .inr (3, [.int 0, .int (-1), .int md, .ref h]) := up_eq
  have e_h : (va_up F_6 t (.inr (3, ([.int 0, .int (-1), .int 0, .ref h] : List Value).set 2 (.int md)))) h = .inr (4, [.int md, .ref rr, .int sz]) := (up_ne n_h_t).trans e_h
  have hfr : ∀ q, q ≠ t → (va_up F_6 t (.inr (3, ([.int 0, .int (-1), .int 0, .ref h] : List Value).set 2 (.int md)))) q = F q := fun q q1 => (up_ne q1).trans (hfr q q1)
  generalize va_up F_6 t (.inr (3, ([.int 0, .int (-1), .int 0, .ref h] : List Value).set 2 (.int md))) = F_9 at hW e_t e_h hfr
  exact pk_vret S hr hlk hW ⟨rfl, e_t, hfr⟩ (by decide) (by decide) dJx35411_init_45d68_25
theorem mc_Jx4a65c_iterator_32c93 : MCode yJx4a65c_iterator_32c93 cJx4a65c_iterator_32c93 1 (some (.object "java/util/Iterator")) := ⟨wd_1608, wd_8, by decide, by decide⟩
theorem np_Jx4a65c_iterator_32c93 : (parseMethodDescriptor yJx4a65c_iterator_32c93.desc).map (fun d => d.parameters.length) = some 0 := by decide +kernel
set_option maxHeartbeats 4000000 in
set_option maxRecDepth 100000 in
theorem c_Jx4a65c_iterator_32c93 {l : Launch} {D : va_G} {κ : Nat → ClassId} {ζ : Nat → Nat} {L : List Nat} {F : Nat → va_E} {h rr : Nat} {md sz : Int32} (m_h : h ∈ L) (e_h : F h = .inr (4, [.int md, .ref rr, .int sz])) : MtR l D cls (ty5 κ) ζ yJx4a65c_iterator_32c93 cJx4a65c_iterator_32c93 1 (some (.object "java/util/Iterator")) 3 1 4 ([.ref h] : List Value) L F (fun r L' F' => (∀ x ∈ L, x ∈ L') ∧ r ∈ L' ∧ r ∉ L ∧ F' r = .inr (3, [.int 0, .int (-1), .int md, .ref h]) ∧ ∀ x ∈ L, F' x = F x) := by
  refine MtR.of (by decide) (Nat.le_of_ble_eq_true rfl) ?_
  intro p e s m below meth c S hr hlk hini hK hW hST ls hl
  have hl : lv_has ls 1 [(0, .ref h)] := hl
  have hsub : ∀ x ∈ L, x ∈ L := fun x hx => hx
  have hfr : ∀ x ∈ L, True → F x = F x := fun _ _ _ => rfl
  refine pk_new (fs := [.int 0, .int 0, .int 0, .null]) (ci := 3) S hK hW hinJx35411 tyJx35411_ok wd_1609 wd_1610 wd_31 rfl (fun j hj => by match j, hj with | 0, _ => rfl | 1, _ => rfl | 2, _ => rfl | 3, _ => rfl | j + 4, hj => exact absurd hj (by omega)) (by decide) (by decide) dJx4a65c_iterator_32c93_0 (fun q H_1 hq_q hW => ?_)
  have n_h_q : h ≠ q := fun ee => hq_q (ee ▸ m_h)
  have e_h : (va_up F q (.inr (3, [.int 0, .int 0, .int 0, .null]))) h = .inr (4, [.int md, .ref rr, .int sz]) := (up_ne n_h_q).trans e_h
  have m_h := List.mem_append_left [q] m_h
  have e_q : (va_up F q (.inr (3, [.int 0, .int 0, .int 0, .null]))) q = .inr (3, [.int 0, .int 0, .int 0, .null]) := up_eq
  have m_q : q ∈ L ++ [q] := List.mem_append_right _ (List.mem_singleton.mpr rfl)
  have hnw_q : q ∉ L := fun ee => hq_q (hsub _ ee)
  have hfr : ∀ x ∈ L, True → (va_up F q (.inr (3, [.int 0, .int 0, .int 0, .null]))) x = F x := fun x hx ht => (up_ne (fun (ee : x = q) => hnw_q (ee ▸ hx))).trans (hfr x hx ht)
  have hsub : ∀ x ∈ L, x ∈ L ++ [q] := fun x hx => List.mem_append_left _ (hsub x hx)
  generalize va_up F q (.inr (3, [.int 0, .int 0, .int 0, .null])) = F_2 at hW e_h e_q hfr
  generalize L ++ [q] = L_3 at hW m_h m_q hsub
  refine lv_dup S.1 S.2.1 dJx4a65c_iterator_32c93_3 rfl ?_
  refine lv_aload_n S.1 S.2.1 dJx4a65c_iterator_32c93_4 rfl (lv_at hl 0 rfl) ?_
  refine pk_cIV (As := [.ref h]) (rest := [.ref q]) S hK hST hW (c_Jx35411_init_45d68 m_q e_q m_h e_h n_h_q) mc_Jx35411_init_45d68 wd_1611 wd_1612 rfl rfl np_Jx35411_init_45d68 rfl hl.1 rfl (Nat.le_of_ble_eq_true rfl) dJx4a65c_iterator_32c93_5 ⟨by decide, by decide⟩ ⟨by decide, by decide⟩ (fun L9 F1 H1 l1 hp hW => ?_)
  obtain ⟨rfl, e_q, hfr1⟩ := hp
  have hfr : ∀ x ∈ L, True → F1 x = F x := fun x hx ht => (hfr1 x (fun (ee : x = q) => hnw_q (ee ▸ hx))).trans (hfr x hx ht)
  exact pk_rret S hr (Or.inl ⟨_, rfl⟩) hlk hW ⟨hsub, m_q, hnw_q, e_q, fun x hx => hfr x hx trivial⟩ (by decide) (by decide) dJx4a65c_iterator_32c93_8
theorem mc_Jx35411_hasNext_aae02 : MCode yJx35411_hasNext_aae02 cJx35411_hasNext_aae02 1 (some .boolean) := ⟨wd_1630, wd_31, by decide, by decide⟩
theorem np_Jx35411_hasNext_aae02 : (parseMethodDescriptor yJx35411_hasNext_aae02.desc).map (fun d => d.parameters.length) = some 0 := by decide +kernel
set_option maxHeartbeats 4000000 in
set_option maxRecDepth 100000 in
theorem c_Jx35411_hasNext_aae02 {l : Launch} {D : va_G} {κ : Nat → ClassId} {ζ : Nat → Nat} {L : List Nat} {F : Nat → va_E} {t h rr : Nat} {md sz cu la em : Int32} (m_t : t ∈ L) (e_t : F t = .inr (3, [.int cu, .int la, .int em, .ref h])) (m_h : h ∈ L) (e_h : F h = .inr (4, [.int md, .ref rr, .int sz])) : MtI l D cls (ty5 κ) ζ yJx35411_hasNext_aae02 cJx35411_hasNext_aae02 1 (some .boolean) 1 0 0 ([.ref t] : List Value) L F (fun r L' F' => L = L' ∧ F = F' ∧ (if cu = sz then (0 : Int32) else 1) = r) := by
  refine MtI.of (by decide) (Nat.le_of_ble_eq_true rfl) ?_
  intro p e s m below meth c S hr hlk hini hK hW hST ls hl
  have hl : lv_has ls 1 [(0, .ref t)] := hl
  refine lv_aload_n S.1 S.2.1 dJx35411_hasNext_aae02_0 rfl (lv_at hl 0 rfl) ?_
  refine pk_get S hK hW 0 m_t e_t rfl hinJx35411 (by decide) wd_1615 rfl dJx35411_hasNext_aae02_1 ?_
  refine lv_aload_n S.1 S.2.1 dJx35411_hasNext_aae02_4 rfl (lv_at hl 0 rfl) ?_
  refine pk_get S hK hW 3 m_t e_t rfl hinJx35411 (by decide) wd_1618 rfl dJx35411_hasNext_aae02_5 ?_
  refine pk_getN S hK hW 2 m_h e_h rfl hinJx4a65c (by decide) (va_Nw.use rfl (hST.1.1 _ wn_20)) rfl dJx35411_hasNext_aae02_8 ?_
  refine lv_icmp_eq (tgt := 18) S.1 S.2.1 dJx35411_hasNext_aae02_11 (by decide) (fun c1 => ?_) (fun c1 => ?_)
  · refine lv_iconst (v := 0) S.1 S.2.1 dJx35411_hasNext_aae02_18 (by decide) ?_
    exact pk_zret S hr hlk hW (by decide) ⟨rfl, rfl, by rw [if_pos c1]⟩ (by decide) (by decide) dJx35411_hasNext_aae02_19
  · refine lv_iconst (v := 1) S.1 S.2.1 dJx35411_hasNext_aae02_14 (by decide) ?_
    refine lv_goto (tgt := 19) S.1 S.2.1 dJx35411_hasNext_aae02_15 (by decide) ?_
    exact pk_zret S hr hlk hW (by decide) ⟨rfl, rfl, by rw [if_neg c1]⟩ (by decide) (by decide) dJx35411_hasNext_aae02_19
theorem mc_Jx35411_checkForComodification_da8c8 : MCode yJx35411_checkForComodification_da8c8 cJx35411_checkForComodification_da8c8 1 none := ⟨wd_1641, wd_31, by decide, by decide⟩
theorem np_Jx35411_checkForComodification_da8c8 : (parseMethodDescriptor yJx35411_checkForComodification_da8c8.desc).map (fun d => d.parameters.length) = some 0 := by decide +kernel
set_option maxHeartbeats 4000000 in
set_option maxRecDepth 100000 in
theorem c_Jx35411_checkForComodification_da8c8 {l : Launch} {D : va_G} {κ : Nat → ClassId} {ζ : Nat → Nat} {L : List Nat} {F : Nat → va_E} {t h rr : Nat} {md sz cu la em : Int32} (m_t : t ∈ L) (e_t : F t = .inr (3, [.int cu, .int la, .int em, .ref h])) (m_h : h ∈ L) (e_h : F h = .inr (4, [.int md, .ref rr, .int sz])) (hmd : md = em) : MtV l D cls (ty5 κ) ζ yJx35411_checkForComodification_da8c8 cJx35411_checkForComodification_da8c8 1 none 1 0 0 ([.ref t] : List Value) L F (fun L' F' => L = L' ∧ F = F') := by
  refine MtV.of (by decide) (Nat.le_of_ble_eq_true rfl) ?_
  intro p e s m below meth c S hr hlk hini hK hW hST ls hl
  have hl : lv_has ls 1 [(0, .ref t)] := hl
  refine lv_aload_n S.1 S.2.1 dJx35411_checkForComodification_da8c8_0 rfl (lv_at hl 0 rfl) ?_
  refine pk_get S hK hW 3 m_t e_t rfl hinJx35411 (by decide) wd_1618 rfl dJx35411_checkForComodification_da8c8_1 ?_
  refine pk_getU S hK hW 0 m_h e_h rfl hinJx4a65c (by decide) wd_1087 wd_1088 rfl dJx35411_checkForComodification_da8c8_4 ?_
  refine lv_aload_n S.1 S.2.1 dJx35411_checkForComodification_da8c8_7 rfl (lv_at hl 0 rfl) ?_
  refine pk_get S hK hW 2 m_t e_t rfl hinJx35411 (by decide) wd_1617 rfl dJx35411_checkForComodification_da8c8_8 ?_
  refine lv_icmp_eq (tgt := 22) S.1 S.2.1 dJx35411_checkForComodification_da8c8_11 (by decide) (fun _ => ?_) (fun c1 => absurd hmd c1)
  exact pk_vret S hr hlk hW ⟨rfl, rfl⟩ (by decide) (by decide) dJx35411_checkForComodification_da8c8_22
theorem mc_Jx35411_next_0502b : MCode yJx35411_next_0502b cJx35411_next_0502b 3 (some (.object "java/lang/Object")) := ⟨wd_1637, wd_31, by decide, by decide⟩
theorem np_Jx35411_next_0502b : (parseMethodDescriptor yJx35411_next_0502b.desc).map (fun d => d.parameters.length) = some 0 := by decide +kernel
set_option maxHeartbeats 4000000 in
set_option maxRecDepth 100000 in
theorem c_Jx35411_next_0502b {l : Launch} {D : va_G} {κ : Nat → ClassId} {ζ : Nat → Nat} {L : List Nat} {F : Nat → va_E} {t h ar n j k y : Nat} {f : Nat → Option Nat} {md la : Int32} (m_t : t ∈ L) (e_t : F t = .inr (3, [.int (nI j), .int la, .int md, .ref h])) (hR : RA κ h ar n f md (nI k) L F) (hjk : j < k) (hk : k ≤ n) (hn : n ≤ 32) (hv : f j = some y) : MtR l D cls (ty5 κ) ζ yJx35411_next_0502b cJx35411_next_0502b 3 (some (.object "java/lang/Object")) 2 0 0 ([.ref t] : List Value) L F (fun r L' F' => L = L' ∧ y = r ∧ F' t = .inr (3, [.int (nI (j + 1)), .int (nI j), .int md, .ref h]) ∧ ∀ q, q ≠ t → F' q = F q) := by
  refine MtR.of (by decide) (Nat.le_of_ble_eq_true rfl) ?_
  intro p e s m below meth c S hr hlk hini hK hW hST ls hl
  have hl : lv_has ls 3 [(0, .ref t)] := hl
  obtain ⟨m_h, e_h, m_ar, n_h_ar, e_ar⟩ := hR
  have n_h_t : h ≠ t := fun ee => by rw [ee, e_t] at e_h; cases e_h
  have n_ar_t : ar ≠ t := fun ee => by rw [ee, e_t] at e_ar; cases e_ar
  have hfr : ∀ q, q ≠ t → F q = F q := fun _ _ => rfl
  refine lv_aload_n S.1 S.2.1 dJx35411_next_0502b_0 rfl (lv_at hl 0 rfl) ?_
  refine pk_cVV (As := []) (rest := []) S hK hST hW (c_Jx35411_checkForComodification_da8c8 m_t e_t m_h e_h rfl) mc_Jx35411_checkForComodification_da8c8 wd_1638 wd_1639 wd_1640 rfl np_Jx35411_checkForComodification_da8c8 m_t e_t rfl rfl hl.1 rfl (Nat.le_of_ble_eq_true rfl) dJx35411_next_0502b_1 ⟨by decide, by decide⟩ ⟨by decide, by decide⟩ (fun L_1 F_2 H_3 l_4 hp hW => ?_)
  obtain ⟨rfl, rfl⟩ := hp
  refine lv_aload_n S.1 S.2.1 dJx35411_next_0502b_4 rfl (lv_at hl 0 rfl) ?_
  refine pk_get S hK hW 0 m_t e_t rfl hinJx35411 (by decide) wd_1615 rfl dJx35411_next_0502b_5 ?_
  refine lv_istore_n (lv' := [(1, .int (nI j)), (0, .ref t)]) S.1 S.2.1 dJx35411_next_0502b_8 rfl hl (Nat.le_of_ble_eq_true rfl) rfl (fun ls hl => ?_)
  refine lv_iload_n S.1 S.2.1 dJx35411_next_0502b_9 rfl (lv_at hl 0 rfl) ?_
  refine lv_aload_n S.1 S.2.1 dJx35411_next_0502b_10 rfl (lv_at hl 1 rfl) ?_
  refine pk_get S hK hW 3 m_t e_t rfl hinJx35411 (by decide) wd_1618 rfl dJx35411_next_0502b_11 ?_
  refine pk_getN S hK hW 2 m_h e_h rfl hinJx4a65c (by decide) (va_Nw.use rfl (hST.1.1 _ wn_20)) rfl dJx35411_next_0502b_14 ?_
  refine lv_icmp_lt (tgt := 28) S.1 S.2.1 dJx35411_next_0502b_17 (by decide) (fun _ => ?_) (fun c1 => absurd (nI_lt hjk (by omega)) c1)
  refine lv_aload_n S.1 S.2.1 dJx35411_next_0502b_28 rfl (lv_at hl 1 rfl) ?_
  refine pk_get S hK hW 3 m_t e_t rfl hinJx35411 (by decide) wd_1618 rfl dJx35411_next_0502b_29 ?_
  refine pk_get S hK hW 1 m_h e_h rfl hinJx4a65c (by decide) wd_1084 rfl dJx35411_next_0502b_32 ?_
  refine lv_astore_n (lv' := [(2, .ref ar), (1, .int (nI j)), (0, .ref t)]) S.1 S.2.1 dJx35411_next_0502b_35 rfl hl (Nat.le_of_ble_eq_true rfl) rfl (fun ls hl => ?_)
  refine lv_iload_n S.1 S.2.1 dJx35411_next_0502b_36 rfl (lv_at hl 1 rfl) ?_
  refine lv_aload_n S.1 S.2.1 dJx35411_next_0502b_37 rfl (lv_at hl 0 rfl) ?_
  refine pk_alen S hK hW 3 m_ar e_ar rfl rfl dJx35411_next_0502b_38 ?_
  refine lv_icmp_lt (tgt := 50) S.1 S.2.1 dJx35411_next_0502b_39 (by decide) (fun _ => ?_) (fun c1 => absurd (nI_lt (Nat.lt_of_lt_of_le hjk hk) (by omega)) c1)
  refine lv_aload_n S.1 S.2.1 dJx35411_next_0502b_50 rfl (lv_at hl 2 rfl) ?_
  refine lv_iload_n S.1 S.2.1 dJx35411_next_0502b_51 rfl (lv_at hl 1 rfl) ?_
  refine lv_iconst (v := 1) S.1 S.2.1 dJx35411_next_0502b_52 (by decide) ?_
  refine lv_iadd S.1 S.2.1 dJx35411_next_0502b_53 ?_
  refine lv_topi (fun y_5 ey_5 => ?_)
  have ey_5 : y_5 = nI (j + 1) := ey_5.trans (nI_1 j)
  subst ey_5
  refine pk_put (v := .int (nI (j + 1))) S hK hW 0 m_t e_t rfl hinJx35411 tyJx35411_ok nmJx35411 (by decide) wd_1615 rfl rfl rfl rfl (Nat.le_of_ble_eq_true rfl) dJx35411_next_0502b_54 (fun H_6 l_7 hW => ?_)
  have e_t : (va_up F t (.inr (3, ([.int (nI j), .int la, .int md, .ref h] : List Value).set 0 (.int (nI (j + 1)))))) t = .inr (3, [.int (nI (j + 1)), .int la, .int md, .ref h]) := up_eq
  have e_h : (va_up F t (.inr (3, ([.int (nI j), .int la, .int md, .ref h] : List Value).set 0 (.int (nI (j + 1)))))) h = .inr (4, [.int md, .ref ar, .int (nI k)]) := (up_ne n_h_t).trans e_h
  have e_ar : (va_up F t (.inr (3, ([.int (nI j), .int la, .int md, .ref h] : List Value).set 0 (.int (nI (j + 1)))))) ar = rfA (κ 3) n f := (up_ne n_ar_t).trans e_ar
  have hfr : ∀ q, q ≠ t → (va_up F t (.inr (3, ([.int (nI j), .int la, .int md, .ref h] : List Value).set 0 (.int (nI (j + 1)))))) q = F q := fun q q1 => (up_ne q1).trans (hfr q q1)
  generalize va_up F t (.inr (3, ([.int (nI j), .int la, .int md, .ref h] : List Value).set 0 (.int (nI (j + 1))))) = F_8 at hW e_t e_h e_ar hfr
  refine lv_aload_n S.1 S.2.1 dJx35411_next_0502b_57 rfl (lv_at hl 0 rfl) ?_
  refine lv_aload_n S.1 S.2.1 dJx35411_next_0502b_58 rfl (lv_at hl 2 rfl) ?_
  refine lv_iload_n S.1 S.2.1 dJx35411_next_0502b_59 rfl (lv_at hl 1 rfl) ?_
  refine lv_dup_x1 S.1 S.2.1 dJx35411_next_0502b_60 rfl rfl ?_
  refine pk_put (v := .int (nI j)) S hK hW 1 m_t e_t rfl hinJx35411 tyJx35411_ok nmJx35411 (by decide) wd_1616 rfl rfl rfl rfl (Nat.le_of_ble_eq_true rfl) dJx35411_next_0502b_61 (fun H_9 l_10 hW => ?_)
  have e_t : (va_up F_8 t (.inr (3, ([.int (nI (j + 1)), .int la, .int md, .ref h] : List Value).set 1 (.int (nI j))))) t = .inr (3, [.int (nI (j + 1)), .int (nI j), .int md, .ref h]) := up_eq
  have e_h : (va_up F_8 t (.inr (3, ([.int (nI (j + 1)), .int la, .int md, .ref h] : List Value).set 1 (.int (nI j))))) h = .inr (4, [.int md, .ref ar, .int (nI k)]) := (up_ne n_h_t).trans e_h
  have e_ar : (va_up F_8 t (.inr (3, ([.int (nI (j + 1)), .int la, .int md, .ref h] : List Value).set 1 (.int (nI j))))) ar = rfA (κ 3) n f := (up_ne n_ar_t).trans e_ar
  have hfr : ∀ q, q ≠ t → (va_up F_8 t (.inr (3, ([.int (nI (j + 1)), .int la, .int md, .ref h] : List Value).set 1 (.int (nI j))))) q = F q := fun q q1 => (up_ne q1).trans (hfr q q1)
  generalize va_up F_8 t (.inr (3, ([.int (nI (j + 1)), .int la, .int md, .ref h] : List Value).set 1 (.int (nI j)))) = F_11 at hW e_t e_h e_ar hfr
  refine pk_aald S hK hW 3 m_ar e_ar rfl (vp_in_nI (by omega) (by omega)) (show f (nI j).toNatClampNeg = some y by rw [nI_clamp (by omega)]; exact hv) dJx35411_next_0502b_64 ?_
  exact pk_rret S hr (Or.inl ⟨_, rfl⟩) hlk hW ⟨rfl, rfl, e_t, hfr⟩ (by decide) (by decide) dJx35411_next_0502b_65
end
section
/-! LISTS OF INTEGERS as lists of numbers -/
def insAt (xs : List Int32) (i : Nat) (v : Int32) : List Int32 := xs.take i ++ v :: xs.drop i
def delAt (xs : List Int32) (i : Nat) : List Int32 := xs.take i ++ xs.drop (i + 1)
theorem insAt_len {xs : List Int32} {i : Nat} {v : Int32} (h : i ≤ xs.length) : (insAt xs i v).length = xs.length + 1 := by
  simp only [insAt, List.length_append, List.length_take, List.length_cons, List.length_drop]; omega
theorem delAt_len {xs : List Int32} {i : Nat} (h : i < xs.length) : (delAt xs i).length = xs.length - 1 := by
  simp only [delAt, List.length_append, List.length_take, List.length_drop]; omega
theorem insAt_get {xs : List Int32} {i : Nat} {v : Int32} (h : i ≤ xs.length) (j : Nat) : (insAt xs i v).getD j 0 = if j < i then xs.getD j 0 else if j = i then v else xs.getD (j - 1) 0 := by
  simp only [insAt, List.getD_eq_getElem?_getD]
  by_cases h1 : j < i
  · rw [if_pos h1, List.getElem?_append_left (by rw [List.length_take]; omega), List.getElem?_take_of_lt h1]
  · rw [if_neg h1, List.getElem?_append_right (by rw [List.length_take]; omega), List.length_take, Nat.min_eq_left h]
    by_cases h2 : j = i
    · subst h2
      rw [if_pos rfl, Nat.sub_self]; rfl
    · rw [if_neg h2]
      obtain ⟨m, hm⟩ : ∃ m, j - i = m + 1 := ⟨j - i - 1, by omega⟩
      rw [hm, List.getElem?_cons_succ, List.getElem?_drop, show i + m = j - 1 by omega]
theorem delAt_get {xs : List Int32} {i : Nat} (h : i < xs.length) (j : Nat) : (delAt xs i).getD j 0 = if j < i then xs.getD j 0 else xs.getD (j + 1) 0 := by
  simp only [delAt, List.getD_eq_getElem?_getD]
  by_cases h1 : j < i
  · rw [if_pos h1, List.getElem?_append_left (by rw [List.length_take]; omega), List.getElem?_take_of_lt h1]
  · rw [if_neg h1, List.getElem?_append_right (by rw [List.length_take]; omega), List.length_take, Nat.min_eq_left (by omega), List.getElem?_drop, show i + 1 + (j - i) = j + 1 by omega]
theorem app_get {xs : List Int32} {v : Int32} (j : Nat) (hj : j < xs.length + 1) : (xs ++ [v]).getD j 0 = if j < xs.length then xs.getD j 0 else v := by
  simp only [List.getD_eq_getElem?_getD]
  by_cases h1 : j < xs.length
  · rw [if_pos h1, List.getElem?_append_left h1]
  · rw [if_neg h1, List.getElem?_append_right (by omega), show j - xs.length = 0 by omega]; rfl
theorem set_get {xs : List Int32} {k : Nat} {v : Int32} (hk : k < xs.length) (j : Nat) : (xs.set k v).getD j 0 = if j = k then v else xs.getD j 0 := by
  simp only [List.getD_eq_getElem?_getD, List.getElem?_set]
  by_cases h : k = j
  · subst h; simp [hk]
  · rw [if_neg h, if_neg (fun e => h e.symm)]
/-- a list object h with its array ar (own, or the common empty one) holds the numbers xs -/
def LI (κ : Nat → ClassId) (ζ : Nat → Nat) (h ar : Nat) (xs : List Int32) (L : List Nat) (F : Nat → va_E) : Prop :=
  ∃ (n : Nat) (f : Nat → Option Nat) (md : Int32), h ∈ L ∧ F h = .inr (4, [.int md, .ref ar, .int (nI xs.length)]) ∧ ((ar ∈ L ∧ h ≠ ar ∧ F ar = rfA (κ 3) n f ∧ 0 < n) ∨ (ar = ζ 256 ∧ n = 0)) ∧ xs.length ≤ n ∧ n ≤ 32 ∧ ∀ j, j < xs.length → ∃ y, f j = some y ∧ bx ζ L F y (xs.getD j 0)
def FrN (h ar ar' : Nat) (L : List Nat) (F : Nat → va_E) (L' : List Nat) (F' : Nat → va_E) : Prop := (∀ x ∈ L, x ∈ L') ∧ (∀ x ∈ L, x ≠ h → x ≠ ar → F' x = F x) ∧ (ar' = ar ∨ (ar' ∉ L ∧ ar' ∈ L'))
section LIS
variable {l : Launch} {D : va_G} {κ : Nat → ClassId} {ζ : Nat → Nat} {L L' : List Nat} {F F' : Nat → va_E} {h ar : Nat} {xs : List Int32}
theorem LI.obj (hI : LI κ ζ h ar xs L F) : h ∈ L ∧ ∃ md : Int32, F h = .inr (4, [.int md, .ref ar, .int (nI xs.length)]) := by
  obtain ⟨n, f, md, h1, h2, -⟩ := hI
  exact ⟨h1, md, h2⟩
theorem LI.le (hI : LI κ ζ h ar xs L F) : xs.length ≤ 32 := by
  obtain ⟨n, f, md, -, -, -, h1, h2, -⟩ := hI
  omega
/-- own array, when there is something in it -/
theorem LI.own (hI : LI κ ζ h ar xs L F) (h0 : 0 < xs.length) : ∃ (n : Nat) (f : Nat → Option Nat) (md : Int32), RA κ h ar n f md (nI xs.length) L F ∧ xs.length ≤ n ∧ n ≤ 32 ∧ ∀ j, j < xs.length → ∃ y, f j = some y ∧ bx ζ L F y (xs.getD j 0) := by
  obtain ⟨n, f, md, h1, h2, h3, h4, h5, h6⟩ := hI
  rcases h3 with ⟨a, b, c, hn0⟩ | ⟨a, b⟩
  · exact ⟨n, f, md, ⟨h1, h2, a, b, c⟩, h4, h5, h6⟩
  · omega
theorem bx.keepA {y : Nat} {v : Int32} (hb : bx ζ L F y v) {w : List Value} {c : ClassId} {n : Nat} {f : Nat → Option Nat} (hh : F h = .inr (4, w)) (ha : F ar = rfA c n f) (hsub : ∀ x ∈ L, x ∈ L') (hfr : ∀ x ∈ L, x ≠ h → x ≠ ar → F' x = F x) : bx ζ L' F' y v := by
  rcases hb with ⟨h1, h2⟩ | h
  · have n1 : y ≠ h := fun e => by rw [e, hh] at h2; cases h2
    have n2 : y ≠ ar := fun e => by rw [e, ha] at h2; cases h2
    exact Or.inl ⟨hsub y h1, (hfr y h1 n1 n2).trans h2⟩
  · exact Or.inr h
theorem c_lsize (hI : LI κ ζ h ar xs L F) : MtI l D cls (ty5 κ) ζ yJx4a65c_size_8abf5 cJx4a65c_size_8abf5 1 (some .int) 1 0 0 [.ref h] L F (fun r L' F' => L = L' ∧ F = F' ∧ nI xs.length = r) := by
  obtain ⟨n, f, md, h1, h2, -⟩ := hI
  exact c_Jx4a65c_size_8abf5 h1 h2
theorem c_lempty (hI : LI κ ζ h ar xs L F) : MtI l D cls (ty5 κ) ζ yJx4a65c_isEmpty_aae02 cJx4a65c_isEmpty_aae02 1 (some .boolean) 1 0 0 [.ref h] L F (fun r L' F' => L = L' ∧ F = F' ∧ (if xs.length = 0 then (1 : Int32) else 0) = r) := by
  have hle := hI.le
  obtain ⟨n, f, md, h1, h2, -⟩ := hI
  refine (c_Jx4a65c_isEmpty_aae02 h1 h2).imp (fun r L' F' hp => ⟨hp.1, hp.2.1, ?_⟩)
  rw [← hp.2.2]
  by_cases e : xs.length = 0
  · rw [if_pos e, if_pos (by rw [e]; rfl)]
  · rw [if_neg e, if_neg (nI_ne0 (by omega) (by omega))]
theorem c_lget (hI : LI κ ζ h ar xs L F) {k : Nat} (hk : k < xs.length) : MtR l D cls (ty5 κ) ζ yJx4a65c_get_915e3 cJx4a65c_get_915e3 2 (some (.object "java/lang/Object")) 3 0 0 [.ref h, .int (nI k)] L F (fun r L' F' => L = L' ∧ F = F' ∧ bx ζ L F r (xs.getD k 0)) := by
  have hle := hI.le
  obtain ⟨n, f, md, hR, h4, h5, h6⟩ := hI.own (by omega)
  obtain ⟨y, hy, hb⟩ := h6 k hk
  exact (c_Jx4a65c_get_915e3 (y := y) hR (nI_pos (by omega)) (nI_lt hk (by omega)) (vp_in_nI (by omega) (by omega)) (by rw [nI_clamp (by omega)]; exact hy)).imp (fun r L' F' hp => ⟨hp.1, hp.2.1, hp.2.2 ▸ hb⟩)
theorem c_lset (hI : LI κ ζ h ar xs L F) {k : Nat} (hk : k < xs.length) {y2 : Nat} {v2 : Int32} (hb2 : bx ζ L F y2 v2) : MtR l D cls (ty5 κ) ζ yJx4a65c_set_bcc79 cJx4a65c_set_bcc79 4 (some (.object "java/lang/Object")) 3 0 0 [.ref h, .int (nI k), .ref y2] L F (fun r L' F' => bx ζ L' F' r (xs.getD k 0) ∧ LI κ ζ h ar (xs.set k v2) L' F' ∧ FrN h ar ar L F L' F') := by
  have hle := hI.le
  obtain ⟨n, f, md, hR, h4, h5, h6⟩ := hI.own (by omega)
  obtain ⟨y, hy, hb⟩ := h6 k hk
  refine (c_Jx4a65c_set_bcc79 (y := y) hR (nI_pos (by omega)) (nI_lt hk (by omega)) (vp_in_nI (by omega) (by omega)) (by rw [nI_clamp (by omega)]; exact hy) hb2).imp (fun r L' F' hp => ?_)
  obtain ⟨rfl, rfl, hR', hf⟩ := hp
  have hk1 : ∀ {y v}, bx ζ L F y v → bx ζ L F' y v := fun hb => hb.keepA hR.2.1 hR.2.2.2.2 (fun x hx => hx) (fun x _ a b => hf x a b)
  refine ⟨hk1 hb, ⟨n, _, md, hR'.1, ?_, Or.inl ⟨hR'.2.2.1, hR'.2.2.2.1, hR'.2.2.2.2, by omega⟩, by rw [List.length_set]; exact h4, h5, ?_⟩, fun x hx => hx, fun x _ a b => hf x a b, Or.inl rfl⟩
  · rw [List.length_set]; exact hR'.2.1
  · intro j hj
    rw [List.length_set] at hj
    rw [nI_clamp (by omega), set_get hk]
    by_cases e : j = k
    · subst e; exact ⟨y2, up_eq, by rw [if_pos rfl]; exact hk1 hb2⟩
    · obtain ⟨z, hz, hbz⟩ := h6 j hj
      exact ⟨z, (up_ne e).trans hz, by rw [if_neg e]; exact hk1 hbz⟩
theorem va_cpy0 {f : Nat → Option Nat} {n j : Nat} (h : j < n) : va_cpy f (fun _ => none) 0 0 n j = f j := by
  simp only [va_cpy]
  rw [if_pos (by omega)]
  congr 1
  omega
theorem LI.mk (n : Nat) (f : Nat → Option Nat) (md : Int32) {k : Nat} (hk : k = xs.length) (hR : RA κ h ar n f md (nI k) L F) (hn0 : 0 < n) (h4 : xs.length ≤ n) (h5 : n ≤ 32) (h6 : ∀ j, j < xs.length → ∃ y, f j = some y ∧ bx ζ L F y (xs.getD j 0)) : LI κ ζ h ar xs L F := by
  subst hk
  exact ⟨n, f, md, hR.1, hR.2.1, Or.inl ⟨hR.2.2.1, hR.2.2.2.1, hR.2.2.2.2, hn0⟩, h4, h5, h6⟩
/-- the list's three conditions: nothing yet, full, or a place left -/
theorem LI.cases (hI : LI κ ζ h ar xs L F) : (xs = [] ∧ ar = ζ 256 ∧ ∃ md : Int32, RE ζ h md 0 L F) ∨ ∃ (n : Nat) (f : Nat → Option Nat) (md : Int32), RA κ h ar n f md (nI xs.length) L F ∧ 0 < n ∧ xs.length ≤ n ∧ n ≤ 32 ∧ ∀ j, j < xs.length → ∃ y, f j = some y ∧ bx ζ L F y (xs.getD j 0) := by
  obtain ⟨n, f, md, h1, h2, h3, h4, h5, h6⟩ := hI
  rcases h3 with ⟨a, b, c, hn0⟩ | ⟨a, b⟩
  · exact Or.inr ⟨n, f, md, ⟨h1, h2, a, b, c⟩, hn0, h4, h5, h6⟩
  · have h0 : xs.length = 0 := by omega
    have hx : xs = [] := List.length_eq_zero_iff.mp h0
    subst hx
    refine Or.inl ⟨rfl, a, md, h1, ?_⟩
    rw [← a]; exact h2
theorem bx.of_elem {n : Nat} {f : Nat → Option Nat} (h6 : ∀ j, j < xs.length → ∃ y, f j = some y ∧ bx ζ L F y (xs.getD j 0)) : ∀ i, i < xs.length → ∀ y, f i = some y → ∃ v, bx ζ L F y v := by
  intro i hi y hy
  obtain ⟨z, hz, hb⟩ := h6 i hi
  rw [hz] at hy
  cases hy
  exact ⟨_, hb⟩
theorem c_ladd (hI : LI κ ζ h ar xs L F) (hlen : xs.length ≤ 21) {y : Nat} {v : Int32} (hb : bx ζ L F y v) : MtI l D cls (ty5 κ) ζ yJx4a65c_add_9ea2d cJx4a65c_add_9ea2d 2 (some .boolean) 7 1 32 [.ref h, .ref y] L F (fun r L' F' => ∃ ar', LI κ ζ h ar' (xs ++ [v]) L' F' ∧ FrN h ar ar' L F L' F') := by
  have hl1 : (xs ++ [v]).length = xs.length + 1 := by simp
  rcases hI.cases with ⟨rfl, ha, md, hE⟩ | ⟨n, f, md, hR, hn0, h4, h5, h6⟩
  · refine (c_Jx4a65c_add_9ea2d_newI hE hb).imp (fun r L' F' hp => ?_)
    obtain ⟨hsub, q, hq, hR', hf⟩ := hp
    refine ⟨q, LI.mk 10 _ _ (k := 0 + 1) rfl hR' (by omega) (by rw [hl1]; decide) (by decide) ?_, hsub, fun x hx a _ => hf x hx a, Or.inr ⟨hq, hR'.2.2.1⟩⟩
    intro j hj
    have e : j = 0 := by simp at hj; omega
    subst e
    exact ⟨y, up_eq, hb.keep hE.2 hsub hf⟩
  · by_cases hfull : xs.length = n
    · subst hfull
      refine (c_Jx4a65c_add_9ea2d_full hR hn0 hlen (bx.of_elem (n := 0) h6) hb).imp (fun r L' F' hp => ?_)
      obtain ⟨hsub, q, hq, hR', hf⟩ := hp
      refine ⟨q, LI.mk _ _ _ hl1.symm hR' (by omega) (by rw [hl1]; omega) (by omega) ?_, hsub, fun x hx a _ => hf x hx a, Or.inr ⟨hq, hR'.2.2.1⟩⟩
      intro j hj
      rw [hl1] at hj
      rw [app_get j hj]
      by_cases e : j < xs.length
      · obtain ⟨z, hz, hbz⟩ := h6 j e
        exact ⟨z, (up_ne (by omega)).trans ((va_cpy0 e).trans hz), by rw [if_pos e]; exact hbz.keep hR.2.1 hsub hf⟩
      · have e2 : j = xs.length := by omega
        subst e2
        exact ⟨y, up_eq, by rw [if_neg e]; exact hb.keep hR.2.1 hsub hf⟩
    · refine (c_Jx4a65c_add_9ea2d_fitI hR (by omega) h5 hb).imp (fun r L' F' hp => ?_)
      obtain ⟨rfl, hR', hf⟩ := hp
      have hk1 : ∀ {y v}, bx ζ L F y v → bx ζ L F' y v := fun hb => hb.keepA hR.2.1 hR.2.2.2.2 (fun x hx => hx) (fun x _ a b => hf x a b)
      refine ⟨ar, LI.mk n _ _ hl1.symm hR' hn0 (by omega) h5 ?_, fun x hx => hx, fun x _ a b => hf x a b, Or.inl rfl⟩
      intro j hj
      rw [hl1] at hj
      rw [app_get j hj]
      by_cases e : j < xs.length
      · obtain ⟨z, hz, hbz⟩ := h6 j e
        exact ⟨z, (up_ne (by omega)).trans hz, by rw [if_pos e]; exact hk1 hbz⟩
      · have e2 : j = xs.length := by omega
        subst e2
        exact ⟨y, up_eq, by rw [if_neg e]; exact hk1 hb⟩
theorem c_lins (hI : LI κ ζ h ar xs L F) (hlen : xs.length ≤ 21) {i : Nat} (hi : i ≤ xs.length) {y : Nat} {v : Int32} (hb : bx ζ L F y v) : MtV l D cls (ty5 κ) ζ yJx4a65c_add_7a177 cJx4a65c_add_7a177 5 none 6 1 32 [.ref h, .int (nI i), .ref y] L F (fun L' F' => ∃ ar', LI κ ζ h ar' (insAt xs i v) L' F' ∧ FrN h ar ar' L F L' F') := by
  have hl1 := insAt_len (v := v) hi
  rcases hI.cases with ⟨rfl, ha, md, hE⟩ | ⟨n, f, md, hR, hn0, h4, h5, h6⟩
  · have e0 : i = 0 := by simp at hi; exact hi
    subst e0
    refine (c_Jx4a65c_add_7a177_new hE hb).imp (fun L' F' hp => ?_)
    obtain ⟨hsub, q, hq, hR', hf⟩ := hp
    refine ⟨q, LI.mk 10 _ _ (k := 0 + 1) rfl hR' (by omega) (by rw [hl1]; decide) (by decide) ?_, hsub, fun x hx a _ => hf x hx a, Or.inr ⟨hq, hR'.2.2.1⟩⟩
    intro j hj
    have e : j = 0 := by rw [hl1] at hj; simp at hj; omega
    subst e
    exact ⟨y, up_eq, hb.keep hE.2 hsub hf⟩
  · by_cases hfull : xs.length = n
    · subst hfull
      refine (c_Jx4a65c_add_7a177_full hR hi hn0 hlen (bx.of_elem (n := 0) h6) hb).imp (fun L' F' hp => ?_)
      obtain ⟨hsub, q, hq, hR', hf⟩ := hp
      refine ⟨q, LI.mk _ _ _ hl1.symm hR' (by omega) (by rw [hl1]; omega) (by omega) ?_, hsub, fun x hx a _ => hf x hx a, Or.inr ⟨hq, hR'.2.2.1⟩⟩
      intro j hj
      rw [hl1] at hj
      rw [insAt_get hi]
      by_cases e1 : j < i
      · obtain ⟨z, hz, hbz⟩ := h6 j (by omega)
        refine ⟨z, ?_, by rw [if_pos e1]; exact hbz.keep hR.2.1 hsub hf⟩
        rw [up_ne (by omega), pk_cpy_out (Or.inl (by omega)), va_cpy0 (by omega)]; exact hz
      · by_cases e2 : j = i
        · subst e2
          exact ⟨y, up_eq, by rw [if_neg e1, if_pos rfl]; exact hb.keep hR.2.1 hsub hf⟩
        · obtain ⟨z, hz, hbz⟩ := h6 (j - 1) (by omega)
          refine ⟨z, ?_, by rw [if_neg e1, if_neg e2]; exact hbz.keep hR.2.1 hsub hf⟩
          rw [up_ne e2, pk_cpy_in (by omega) (by omega), va_cpy0 (by omega), show i + (j - (i + 1)) = j - 1 by omega]; exact hz
    · refine (c_Jx4a65c_add_7a177_fit hR hi (by omega) h5 (bx.of_elem (n := 0) h6) hb).imp (fun L' F' hp => ?_)
      obtain ⟨rfl, hR', hf⟩ := hp
      have hk1 : ∀ {y v}, bx ζ L F y v → bx ζ L F' y v := fun hb => hb.keepA hR.2.1 hR.2.2.2.2 (fun x hx => hx) (fun x _ a b => hf x a b)
      refine ⟨ar, LI.mk n _ _ hl1.symm hR' hn0 (by omega) h5 ?_, fun x hx => hx, fun x _ a b => hf x a b, Or.inl rfl⟩
      intro j hj
      rw [hl1] at hj
      rw [insAt_get hi]
      by_cases e1 : j < i
      · obtain ⟨z, hz, hbz⟩ := h6 j (by omega)
        refine ⟨z, ?_, by rw [if_pos e1]; exact hk1 hbz⟩
        rw [up_ne (by omega), pk_cpy_out (Or.inl (by omega))]; exact hz
      · by_cases e2 : j = i
        · subst e2
          exact ⟨y, up_eq, by rw [if_neg e1, if_pos rfl]; exact hk1 hb⟩
        · obtain ⟨z, hz, hbz⟩ := h6 (j - 1) (by omega)
          refine ⟨z, ?_, by rw [if_neg e1, if_neg e2]; exact hk1 hbz⟩
          rw [up_ne e2, pk_cpy_in (by omega) (by omega), show i + (j - (i + 1)) = j - 1 by omega]; exact hz
theorem c_ldel (hI : LI κ ζ h ar xs L F) {i : Nat} (hi : i < xs.length) : MtR l D cls (ty5 κ) ζ yJx4a65c_remove_915e3 cJx4a65c_remove_915e3 4 (some (.object "java/lang/Object")) 3 0 0 [.ref h, .int (nI i)] L F (fun r L' F' => bx ζ L' F' r (xs.getD i 0) ∧ LI κ ζ h ar (delAt xs i) L' F' ∧ FrN h ar ar L F L' F') := by
  have hl1 := delAt_len hi
  obtain ⟨n, f, md, hR, h4, h5, h6⟩ := hI.own (by omega)
  obtain ⟨y, hy, hb⟩ := h6 i hi
  refine (c_Jx4a65c_remove_915e3 hR hi h4 h5 (bx.of_elem (n := 0) h6) hy).imp (fun r L' F' hp => ?_)
  obtain ⟨rfl, rfl, ⟨f', hR', hf'⟩, hf⟩ := hp
  have hk1 : ∀ {y v}, bx ζ L F y v → bx ζ L F' y v := fun hb => hb.keepA hR.2.1 hR.2.2.2.2 (fun x hx => hx) (fun x _ a b => hf x a b)
  refine ⟨hk1 hb, LI.mk n _ _ hl1.symm hR' (by omega) (by omega) h5 ?_, fun x hx => hx, fun x _ a b => hf x a b, Or.inl rfl⟩
  intro j hj
  rw [hl1] at hj
  rw [delAt_get hi, hf' j hj]
  by_cases e1 : j < i
  · obtain ⟨z, hz, hbz⟩ := h6 j (by omega)
    exact ⟨z, by rw [if_pos e1]; exact hz, by rw [if_pos e1]; exact hk1 hbz⟩
  · obtain ⟨z, hz, hbz⟩ := h6 (j + 1) (by omega)
    exact ⟨z, by rw [if_neg e1]; exact hz, by rw [if_neg e1]; exact hk1 hbz⟩
theorem c_lclear (hI : LI κ ζ h ar xs L F) : MtV l D cls (ty5 κ) ζ yJx4a65c_clear_da8c8 cJx4a65c_clear_da8c8 4 none 1 0 0 [.ref h] L F (fun L' F' => LI κ ζ h ar [] L' F' ∧ FrN h ar ar L F L' F') := by
  rcases hI.cases with ⟨rfl, ha, md, hE⟩ | ⟨n, f, md, hR, hn0, h4, h5, h6⟩
  · refine (c_Jx4a65c_clear_da8c8_new hE).imp (fun L' F' hp => ?_)
    obtain ⟨rfl, hE', hf⟩ := hp
    exact ⟨⟨0, fun _ => none, _, hE'.1, by rw [ha]; exact hE'.2, Or.inr ⟨ha, rfl⟩, Nat.le_refl _, by decide, fun j hj => absurd hj (Nat.not_lt_zero j)⟩, fun x hx => hx, fun x _ a _ => hf x a, Or.inl rfl⟩
  · refine (c_Jx4a65c_clear_da8c8_own hR h4 h5).imp (fun L' F' hp => ?_)
    obtain ⟨rfl, ⟨f', hR'⟩, hf⟩ := hp
    exact ⟨LI.mk n f' _ (k := 0) rfl hR' hn0 (Nat.zero_le _) h5 (fun j hj => absurd hj (Nat.not_lt_zero j)), fun x hx => hx, fun x _ a b => hf x a b, Or.inl rfl⟩
end LIS
end
