theorem vyb_cX4_init_0 {i : Nat} {b : UInt8} (h : ([0x2a, 0xb7, 0x00, 0x01, 0xb1] : List UInt8)[i]? = some b) : vy_8 cX4_init (0 + i) b := vy_in (n := 5) (by decide +kernel) h
theorem dX4_init_0 : decode cX4_init 0 = Except.ok (Instr.aload_n 0, 1) := vyd_42 (vyb_cX4_init_0 (i := 0) rfl)
theorem dX4_init_1 : decode cX4_init 1 = Except.ok (Instr.invokespecial 1, 3) := vyd_183 (vyb_cX4_init_0 (i := 1) rfl) (vyb_cX4_init_0 (i := 2) rfl) (vyb_cX4_init_0 (i := 3) rfl) rfl
theorem dX4_init_4 : decode cX4_init 4 = Except.ok (Instr.return_, 1) := vyd_177 (vyb_cX4_init_0 (i := 4) rfl)
theorem vyb_cX5_init_0 {i : Nat} {b : UInt8} (h : ([0x2a, 0xb7, 0x00, 0x03, 0x2a, 0x02, 0xb5, 0x00, 0x09, 0xb1] : List UInt8)[i]? = some b) : vy_8 cX5_init (0 + i) b := vy_in (n := 10) (by decide +kernel) h
theorem dX5_init_0 : decode cX5_init 0 = Except.ok (Instr.aload_n 0, 1) := vyd_42 (vyb_cX5_init_0 (i := 0) rfl)
theorem dX5_init_1 : decode cX5_init 1 = Except.ok (Instr.invokespecial 3, 3) := vyd_183 (vyb_cX5_init_0 (i := 1) rfl) (vyb_cX5_init_0 (i := 2) rfl) (vyb_cX5_init_0 (i := 3) rfl) rfl
theorem dX5_init_4 : decode cX5_init 4 = Except.ok (Instr.aload_n 0, 1) := vyd_42 (vyb_cX5_init_0 (i := 4) rfl)
theorem dX5_init_5 : decode cX5_init 5 = Except.ok (Instr.iconst (-1), 1) := vyd_2 (vyb_cX5_init_0 (i := 5) rfl)
theorem dX5_init_6 : decode cX5_init 6 = Except.ok (Instr.putfield 9, 3) := vyd_181 (vyb_cX5_init_0 (i := 6) rfl) (vyb_cX5_init_0 (i := 7) rfl) (vyb_cX5_init_0 (i := 8) rfl) rfl
theorem dX5_init_9 : decode cX5_init 9 = Except.ok (Instr.return_, 1) := vyd_177 (vyb_cX5_init_0 (i := 9) rfl)
theorem vyb_cX6_isIn_0 {i : Nat} {b : UInt8} (h : ([0x1a, 0x1b, 0xa1, 0x00, 0x0c, 0x1a, 0x1c, 0xa3, 0x00, 0x07] : List UInt8)[i]? = some b) : vy_8 cX6_isIn (0 + i) b := vy_in (n := 10) (by decide +kernel) h
theorem vyb_cX6_isIn_1 {i : Nat} {b : UInt8} (h : ([0x04, 0xa7, 0x00, 0x04, 0x03, 0xac] : List UInt8)[i]? = some b) : vy_8 cX6_isIn (10 + i) b := vy_in (n := 6) (by decide +kernel) h
theorem dX6_isIn_0 : decode cX6_isIn 0 = Except.ok (Instr.iload_n 0, 1) := vyd_26 (vyb_cX6_isIn_0 (i := 0) rfl)
theorem dX6_isIn_1 : decode cX6_isIn 1 = Except.ok (Instr.iload_n 1, 1) := vyd_27 (vyb_cX6_isIn_0 (i := 1) rfl)
theorem dX6_isIn_2 : decode cX6_isIn 2 = Except.ok (Instr.if_icmp .lt 12, 3) := vyd_161 (vyb_cX6_isIn_0 (i := 2) rfl) (vyb_cX6_isIn_0 (i := 3) rfl) (vyb_cX6_isIn_0 (i := 4) rfl) (by decide +kernel)
theorem dX6_isIn_5 : decode cX6_isIn 5 = Except.ok (Instr.iload_n 0, 1) := vyd_26 (vyb_cX6_isIn_0 (i := 5) rfl)
theorem dX6_isIn_6 : decode cX6_isIn 6 = Except.ok (Instr.iload_n 2, 1) := vyd_28 (vyb_cX6_isIn_0 (i := 6) rfl)
theorem dX6_isIn_7 : decode cX6_isIn 7 = Except.ok (Instr.if_icmp .gt 7, 3) := vyd_163 (vyb_cX6_isIn_0 (i := 7) rfl) (vyb_cX6_isIn_0 (i := 8) rfl) (vyb_cX6_isIn_0 (i := 9) rfl) (by decide +kernel)
theorem dX6_isIn_10 : decode cX6_isIn 10 = Except.ok (Instr.iconst 1, 1) := vyd_4 (vyb_cX6_isIn_1 (i := 0) rfl)
theorem dX6_isIn_11 : decode cX6_isIn 11 = Except.ok (Instr.goto 4, 3) := vyd_167 (vyb_cX6_isIn_1 (i := 1) rfl) (vyb_cX6_isIn_1 (i := 2) rfl) (vyb_cX6_isIn_1 (i := 3) rfl) (by decide +kernel)
theorem dX6_isIn_14 : decode cX6_isIn 14 = Except.ok (Instr.iconst 0, 1) := vyd_3 (vyb_cX6_isIn_1 (i := 4) rfl)
theorem dX6_isIn_15 : decode cX6_isIn 15 = Except.ok (Instr.ireturn, 1) := vyd_172 (vyb_cX6_isIn_1 (i := 5) rfl)
theorem vyb_cX6_one_0 {i : Nat} {b : UInt8} (h : ([0x1a, 0x99, 0x00, 0x07, 0x04, 0xa7, 0x00, 0x04, 0x03, 0xac] : List UInt8)[i]? = some b) : vy_8 cX6_one (0 + i) b := vy_in (n := 10) (by decide +kernel) h
theorem dX6_one_0 : decode cX6_one 0 = Except.ok (Instr.iload_n 0, 1) := vyd_26 (vyb_cX6_one_0 (i := 0) rfl)
theorem dX6_one_1 : decode cX6_one 1 = Except.ok (Instr.ifCond .eq 7, 3) := vyd_153 (vyb_cX6_one_0 (i := 1) rfl) (vyb_cX6_one_0 (i := 2) rfl) (vyb_cX6_one_0 (i := 3) rfl) (by decide +kernel)
theorem dX6_one_4 : decode cX6_one 4 = Except.ok (Instr.iconst 1, 1) := vyd_4 (vyb_cX6_one_0 (i := 4) rfl)
theorem dX6_one_5 : decode cX6_one 5 = Except.ok (Instr.goto 4, 3) := vyd_167 (vyb_cX6_one_0 (i := 5) rfl) (vyb_cX6_one_0 (i := 6) rfl) (vyb_cX6_one_0 (i := 7) rfl) (by decide +kernel)
theorem dX6_one_8 : decode cX6_one 8 = Except.ok (Instr.iconst 0, 1) := vyd_3 (vyb_cX6_one_0 (i := 8) rfl)
theorem dX6_one_9 : decode cX6_one 9 = Except.ok (Instr.ireturn, 1) := vyd_172 (vyb_cX6_one_0 (i := 9) rfl)
theorem vyb_cX6_init_0 {i : Nat} {b : UInt8} (h : ([0x2a, 0xb7, 0x00, 0x01, 0x2a, 0xbb, 0x00, 0x07, 0x59, 0xb7] : List UInt8)[i]? = some b) : vy_8 cX6_init (0 + i) b := vy_in (n := 10) (by decide +kernel) h
theorem vyb_cX6_init_1 {i : Nat} {b : UInt8} (h : ([0x00, 0x09, 0xb5, 0x00, 0x0a, 0x2a, 0xbb, 0x00, 0x07, 0x59] : List UInt8)[i]? = some b) : vy_8 cX6_init (10 + i) b := vy_in (n := 10) (by decide +kernel) h
theorem vyb_cX6_init_2 {i : Nat} {b : UInt8} (h : ([0xb7, 0x00, 0x09, 0xb5, 0x00, 0x10, 0x2a, 0xbb, 0x00, 0x07] : List UInt8)[i]? = some b) : vy_8 cX6_init (20 + i) b := vy_in (n := 10) (by decide +kernel) h
theorem vyb_cX6_init_3 {i : Nat} {b : UInt8} (h : ([0x59, 0xb7, 0x00, 0x09, 0xb5, 0x00, 0x13, 0x2a, 0x05, 0xbd] : List UInt8)[i]? = some b) : vy_8 cX6_init (30 + i) b := vy_in (n := 10) (by decide +kernel) h
theorem vyb_cX6_init_4 {i : Nat} {b : UInt8} (h : ([0x00, 0x16, 0x59, 0x03, 0xbb, 0x00, 0x16, 0x59, 0xb7, 0x00] : List UInt8)[i]? = some b) : vy_8 cX6_init (40 + i) b := vy_in (n := 10) (by decide +kernel) h
theorem vyb_cX6_init_5 {i : Nat} {b : UInt8} (h : ([0x18, 0x53, 0x59, 0x04, 0xbb, 0x00, 0x16, 0x59, 0xb7, 0x00] : List UInt8)[i]? = some b) : vy_8 cX6_init (50 + i) b := vy_in (n := 10) (by decide +kernel) h
theorem vyb_cX6_init_6 {i : Nat} {b : UInt8} (h : ([0x18, 0x53, 0xb5, 0x00, 0x19, 0x2a, 0x02, 0xb5, 0x00, 0x1d] : List UInt8)[i]? = some b) : vy_8 cX6_init (60 + i) b := vy_in (n := 10) (by decide +kernel) h
theorem vyb_cX6_init_7 {i : Nat} {b : UInt8} (h : ([0x03, 0x3c, 0x1b, 0x05, 0xa2, 0x00, 0x18, 0x2a, 0xb4, 0x00] : List UInt8)[i]? = some b) : vy_8 cX6_init (70 + i) b := vy_in (n := 10) (by decide +kernel) h
theorem vyb_cX6_init_8 {i : Nat} {b : UInt8} (h : ([0x0a, 0xbb, 0x00, 0x07, 0x59, 0xb7, 0x00, 0x09, 0xb6, 0x00] : List UInt8)[i]? = some b) : vy_8 cX6_init (80 + i) b := vy_in (n := 10) (by decide +kernel) h
theorem vyb_cX6_init_9 {i : Nat} {b : UInt8} (h : ([0x21, 0x57, 0x84, 0x01, 0x01, 0xa7, 0xff, 0xe9, 0xb1] : List UInt8)[i]? = some b) : vy_8 cX6_init (90 + i) b := vy_in (n := 9) (by decide +kernel) h
theorem dX6_init_0 : decode cX6_init 0 = Except.ok (Instr.aload_n 0, 1) := vyd_42 (vyb_cX6_init_0 (i := 0) rfl)
theorem dX6_init_1 : decode cX6_init 1 = Except.ok (Instr.invokespecial 1, 3) := vyd_183 (vyb_cX6_init_0 (i := 1) rfl) (vyb_cX6_init_0 (i := 2) rfl) (vyb_cX6_init_0 (i := 3) rfl) rfl
theorem dX6_init_4 : decode cX6_init 4 = Except.ok (Instr.aload_n 0, 1) := vyd_42 (vyb_cX6_init_0 (i := 4) rfl)
theorem dX6_init_5 : decode cX6_init 5 = Except.ok (Instr.new 7, 3) := vyd_187 (vyb_cX6_init_0 (i := 5) rfl) (vyb_cX6_init_0 (i := 6) rfl) (vyb_cX6_init_0 (i := 7) rfl) rfl
theorem dX6_init_8 : decode cX6_init 8 = Except.ok (Instr.dup, 1) := vyd_89 (vyb_cX6_init_0 (i := 8) rfl)
theorem dX6_init_9 : decode cX6_init 9 = Except.ok (Instr.invokespecial 9, 3) := vyd_183 (vyb_cX6_init_0 (i := 9) rfl) (vyb_cX6_init_1 (i := 0) rfl) (vyb_cX6_init_1 (i := 1) rfl) rfl
theorem dX6_init_12 : decode cX6_init 12 = Except.ok (Instr.putfield 10, 3) := vyd_181 (vyb_cX6_init_1 (i := 2) rfl) (vyb_cX6_init_1 (i := 3) rfl) (vyb_cX6_init_1 (i := 4) rfl) rfl
theorem dX6_init_15 : decode cX6_init 15 = Except.ok (Instr.aload_n 0, 1) := vyd_42 (vyb_cX6_init_1 (i := 5) rfl)
theorem dX6_init_16 : decode cX6_init 16 = Except.ok (Instr.new 7, 3) := vyd_187 (vyb_cX6_init_1 (i := 6) rfl) (vyb_cX6_init_1 (i := 7) rfl) (vyb_cX6_init_1 (i := 8) rfl) rfl
theorem dX6_init_19 : decode cX6_init 19 = Except.ok (Instr.dup, 1) := vyd_89 (vyb_cX6_init_1 (i := 9) rfl)
theorem dX6_init_20 : decode cX6_init 20 = Except.ok (Instr.invokespecial 9, 3) := vyd_183 (vyb_cX6_init_2 (i := 0) rfl) (vyb_cX6_init_2 (i := 1) rfl) (vyb_cX6_init_2 (i := 2) rfl) rfl
theorem dX6_init_23 : decode cX6_init 23 = Except.ok (Instr.putfield 16, 3) := vyd_181 (vyb_cX6_init_2 (i := 3) rfl) (vyb_cX6_init_2 (i := 4) rfl) (vyb_cX6_init_2 (i := 5) rfl) rfl
theorem dX6_init_26 : decode cX6_init 26 = Except.ok (Instr.aload_n 0, 1) := vyd_42 (vyb_cX6_init_2 (i := 6) rfl)
theorem dX6_init_27 : decode cX6_init 27 = Except.ok (Instr.new 7, 3) := vyd_187 (vyb_cX6_init_2 (i := 7) rfl) (vyb_cX6_init_2 (i := 8) rfl) (vyb_cX6_init_2 (i := 9) rfl) rfl
theorem dX6_init_30 : decode cX6_init 30 = Except.ok (Instr.dup, 1) := vyd_89 (vyb_cX6_init_3 (i := 0) rfl)
theorem dX6_init_31 : decode cX6_init 31 = Except.ok (Instr.invokespecial 9, 3) := vyd_183 (vyb_cX6_init_3 (i := 1) rfl) (vyb_cX6_init_3 (i := 2) rfl) (vyb_cX6_init_3 (i := 3) rfl) rfl
theorem dX6_init_34 : decode cX6_init 34 = Except.ok (Instr.putfield 19, 3) := vyd_181 (vyb_cX6_init_3 (i := 4) rfl) (vyb_cX6_init_3 (i := 5) rfl) (vyb_cX6_init_3 (i := 6) rfl) rfl
theorem dX6_init_37 : decode cX6_init 37 = Except.ok (Instr.aload_n 0, 1) := vyd_42 (vyb_cX6_init_3 (i := 7) rfl)
theorem dX6_init_38 : decode cX6_init 38 = Except.ok (Instr.iconst 2, 1) := vyd_5 (vyb_cX6_init_3 (i := 8) rfl)
theorem dX6_init_39 : decode cX6_init 39 = Except.ok (Instr.anewarray 22, 3) := vyd_189 (vyb_cX6_init_3 (i := 9) rfl) (vyb_cX6_init_4 (i := 0) rfl) (vyb_cX6_init_4 (i := 1) rfl) rfl
theorem dX6_init_42 : decode cX6_init 42 = Except.ok (Instr.dup, 1) := vyd_89 (vyb_cX6_init_4 (i := 2) rfl)
theorem dX6_init_43 : decode cX6_init 43 = Except.ok (Instr.iconst 0, 1) := vyd_3 (vyb_cX6_init_4 (i := 3) rfl)
theorem dX6_init_44 : decode cX6_init 44 = Except.ok (Instr.new 22, 3) := vyd_187 (vyb_cX6_init_4 (i := 4) rfl) (vyb_cX6_init_4 (i := 5) rfl) (vyb_cX6_init_4 (i := 6) rfl) rfl
theorem dX6_init_47 : decode cX6_init 47 = Except.ok (Instr.dup, 1) := vyd_89 (vyb_cX6_init_4 (i := 7) rfl)
theorem dX6_init_48 : decode cX6_init 48 = Except.ok (Instr.invokespecial 24, 3) := vyd_183 (vyb_cX6_init_4 (i := 8) rfl) (vyb_cX6_init_4 (i := 9) rfl) (vyb_cX6_init_5 (i := 0) rfl) rfl
theorem dX6_init_51 : decode cX6_init 51 = Except.ok (Instr.aastore, 1) := vyd_83 (vyb_cX6_init_5 (i := 1) rfl)
theorem dX6_init_52 : decode cX6_init 52 = Except.ok (Instr.dup, 1) := vyd_89 (vyb_cX6_init_5 (i := 2) rfl)
theorem dX6_init_53 : decode cX6_init 53 = Except.ok (Instr.iconst 1, 1) := vyd_4 (vyb_cX6_init_5 (i := 3) rfl)
theorem dX6_init_54 : decode cX6_init 54 = Except.ok (Instr.new 22, 3) := vyd_187 (vyb_cX6_init_5 (i := 4) rfl) (vyb_cX6_init_5 (i := 5) rfl) (vyb_cX6_init_5 (i := 6) rfl) rfl
theorem dX6_init_57 : decode cX6_init 57 = Except.ok (Instr.dup, 1) := vyd_89 (vyb_cX6_init_5 (i := 7) rfl)
theorem dX6_init_58 : decode cX6_init 58 = Except.ok (Instr.invokespecial 24, 3) := vyd_183 (vyb_cX6_init_5 (i := 8) rfl) (vyb_cX6_init_5 (i := 9) rfl) (vyb_cX6_init_6 (i := 0) rfl) rfl
theorem dX6_init_61 : decode cX6_init 61 = Except.ok (Instr.aastore, 1) := vyd_83 (vyb_cX6_init_6 (i := 1) rfl)
theorem dX6_init_62 : decode cX6_init 62 = Except.ok (Instr.putfield 25, 3) := vyd_181 (vyb_cX6_init_6 (i := 2) rfl) (vyb_cX6_init_6 (i := 3) rfl) (vyb_cX6_init_6 (i := 4) rfl) rfl
theorem dX6_init_65 : decode cX6_init 65 = Except.ok (Instr.aload_n 0, 1) := vyd_42 (vyb_cX6_init_6 (i := 5) rfl)
theorem dX6_init_66 : decode cX6_init 66 = Except.ok (Instr.iconst (-1), 1) := vyd_2 (vyb_cX6_init_6 (i := 6) rfl)
theorem dX6_init_67 : decode cX6_init 67 = Except.ok (Instr.putfield 29, 3) := vyd_181 (vyb_cX6_init_6 (i := 7) rfl) (vyb_cX6_init_6 (i := 8) rfl) (vyb_cX6_init_6 (i := 9) rfl) rfl
theorem dX6_init_70 : decode cX6_init 70 = Except.ok (Instr.iconst 0, 1) := vyd_3 (vyb_cX6_init_7 (i := 0) rfl)
theorem dX6_init_71 : decode cX6_init 71 = Except.ok (Instr.istore_n 1, 1) := vyd_60 (vyb_cX6_init_7 (i := 1) rfl)
theorem dX6_init_72 : decode cX6_init 72 = Except.ok (Instr.iload_n 1, 1) := vyd_27 (vyb_cX6_init_7 (i := 2) rfl)
theorem dX6_init_73 : decode cX6_init 73 = Except.ok (Instr.iconst 2, 1) := vyd_5 (vyb_cX6_init_7 (i := 3) rfl)
theorem dX6_init_74 : decode cX6_init 74 = Except.ok (Instr.if_icmp .ge 24, 3) := vyd_162 (vyb_cX6_init_7 (i := 4) rfl) (vyb_cX6_init_7 (i := 5) rfl) (vyb_cX6_init_7 (i := 6) rfl) (by decide +kernel)
theorem dX6_init_77 : decode cX6_init 77 = Except.ok (Instr.aload_n 0, 1) := vyd_42 (vyb_cX6_init_7 (i := 7) rfl)
theorem dX6_init_78 : decode cX6_init 78 = Except.ok (Instr.getfield 10, 3) := vyd_180 (vyb_cX6_init_7 (i := 8) rfl) (vyb_cX6_init_7 (i := 9) rfl) (vyb_cX6_init_8 (i := 0) rfl) rfl
theorem dX6_init_81 : decode cX6_init 81 = Except.ok (Instr.new 7, 3) := vyd_187 (vyb_cX6_init_8 (i := 1) rfl) (vyb_cX6_init_8 (i := 2) rfl) (vyb_cX6_init_8 (i := 3) rfl) rfl
theorem dX6_init_84 : decode cX6_init 84 = Except.ok (Instr.dup, 1) := vyd_89 (vyb_cX6_init_8 (i := 4) rfl)
theorem dX6_init_85 : decode cX6_init 85 = Except.ok (Instr.invokespecial 9, 3) := vyd_183 (vyb_cX6_init_8 (i := 5) rfl) (vyb_cX6_init_8 (i := 6) rfl) (vyb_cX6_init_8 (i := 7) rfl) rfl
theorem dX6_init_88 : decode cX6_init 88 = Except.ok (Instr.invokevirtual 33, 3) := vyd_182 (vyb_cX6_init_8 (i := 8) rfl) (vyb_cX6_init_8 (i := 9) rfl) (vyb_cX6_init_9 (i := 0) rfl) rfl
theorem dX6_init_91 : decode cX6_init 91 = Except.ok (Instr.pop, 1) := vyd_87 (vyb_cX6_init_9 (i := 1) rfl)
theorem dX6_init_92 : decode cX6_init 92 = .ok (.iinc 1 1, 3) := by decide +kernel
theorem dX6_init_95 : decode cX6_init 95 = Except.ok (Instr.goto (-23), 3) := vyd_167 (vyb_cX6_init_9 (i := 5) rfl) (vyb_cX6_init_9 (i := 6) rfl) (vyb_cX6_init_9 (i := 7) rfl) (by decide +kernel)
theorem dX6_init_98 : decode cX6_init 98 = Except.ok (Instr.return_, 1) := vyd_177 (vyb_cX6_init_9 (i := 8) rfl)
theorem vyb_cX6_thrown_0 {i : Nat} {b : UInt8} (h : ([0x2a, 0xb4, 0x00, 0x25, 0xac] : List UInt8)[i]? = some b) : vy_8 cX6_thrown (0 + i) b := vy_in (n := 5) (by decide +kernel) h
theorem dX6_thrown_0 : decode cX6_thrown 0 = Except.ok (Instr.aload_n 0, 1) := vyd_42 (vyb_cX6_thrown_0 (i := 0) rfl)
theorem dX6_thrown_1 : decode cX6_thrown 1 = Except.ok (Instr.getfield 37, 3) := vyd_180 (vyb_cX6_thrown_0 (i := 1) rfl) (vyb_cX6_thrown_0 (i := 2) rfl) (vyb_cX6_thrown_0 (i := 3) rfl) rfl
theorem dX6_thrown_4 : decode cX6_thrown 4 = Except.ok (Instr.ireturn, 1) := vyd_172 (vyb_cX6_thrown_0 (i := 4) rfl)
theorem vyb_cX6_refuse_0 {i : Nat} {b : UInt8} (h : ([0x1b, 0x99, 0x00, 0x0f, 0x2a, 0xb4, 0x00, 0x25, 0x9a, 0x00] : List UInt8)[i]? = some b) : vy_8 cX6_refuse (0 + i) b := vy_in (n := 10) (by decide +kernel) h
theorem vyb_cX6_refuse_1 {i : Nat} {b : UInt8} (h : ([0x08, 0x2a, 0x1c, 0xb5, 0x00, 0x25, 0x2a, 0xb4, 0x00, 0x25] : List UInt8)[i]? = some b) : vy_8 cX6_refuse (10 + i) b := vy_in (n := 10) (by decide +kernel) h
theorem vyb_cX6_refuse_2 {i : Nat} {b : UInt8} (h : ([0x9e, 0x00, 0x07, 0x04, 0xa7, 0x00, 0x04, 0x03, 0xac] : List UInt8)[i]? = some b) : vy_8 cX6_refuse (20 + i) b := vy_in (n := 9) (by decide +kernel) h
theorem dX6_refuse_0 : decode cX6_refuse 0 = Except.ok (Instr.iload_n 1, 1) := vyd_27 (vyb_cX6_refuse_0 (i := 0) rfl)
theorem dX6_refuse_1 : decode cX6_refuse 1 = Except.ok (Instr.ifCond .eq 15, 3) := vyd_153 (vyb_cX6_refuse_0 (i := 1) rfl) (vyb_cX6_refuse_0 (i := 2) rfl) (vyb_cX6_refuse_0 (i := 3) rfl) (by decide +kernel)
theorem dX6_refuse_4 : decode cX6_refuse 4 = Except.ok (Instr.aload_n 0, 1) := vyd_42 (vyb_cX6_refuse_0 (i := 4) rfl)
theorem dX6_refuse_5 : decode cX6_refuse 5 = Except.ok (Instr.getfield 37, 3) := vyd_180 (vyb_cX6_refuse_0 (i := 5) rfl) (vyb_cX6_refuse_0 (i := 6) rfl) (vyb_cX6_refuse_0 (i := 7) rfl) rfl
theorem dX6_refuse_8 : decode cX6_refuse 8 = Except.ok (Instr.ifCond .ne 8, 3) := vyd_154 (vyb_cX6_refuse_0 (i := 8) rfl) (vyb_cX6_refuse_0 (i := 9) rfl) (vyb_cX6_refuse_1 (i := 0) rfl) (by decide +kernel)
theorem dX6_refuse_11 : decode cX6_refuse 11 = Except.ok (Instr.aload_n 0, 1) := vyd_42 (vyb_cX6_refuse_1 (i := 1) rfl)
theorem dX6_refuse_12 : decode cX6_refuse 12 = Except.ok (Instr.iload_n 2, 1) := vyd_28 (vyb_cX6_refuse_1 (i := 2) rfl)
theorem dX6_refuse_13 : decode cX6_refuse 13 = Except.ok (Instr.putfield 37, 3) := vyd_181 (vyb_cX6_refuse_1 (i := 3) rfl) (vyb_cX6_refuse_1 (i := 4) rfl) (vyb_cX6_refuse_1 (i := 5) rfl) rfl
theorem dX6_refuse_16 : decode cX6_refuse 16 = Except.ok (Instr.aload_n 0, 1) := vyd_42 (vyb_cX6_refuse_1 (i := 6) rfl)
theorem dX6_refuse_17 : decode cX6_refuse 17 = Except.ok (Instr.getfield 37, 3) := vyd_180 (vyb_cX6_refuse_1 (i := 7) rfl) (vyb_cX6_refuse_1 (i := 8) rfl) (vyb_cX6_refuse_1 (i := 9) rfl) rfl
theorem dX6_refuse_20 : decode cX6_refuse 20 = Except.ok (Instr.ifCond .le 7, 3) := vyd_158 (vyb_cX6_refuse_2 (i := 0) rfl) (vyb_cX6_refuse_2 (i := 1) rfl) (vyb_cX6_refuse_2 (i := 2) rfl) (by decide +kernel)
theorem dX6_refuse_23 : decode cX6_refuse 23 = Except.ok (Instr.iconst 1, 1) := vyd_4 (vyb_cX6_refuse_2 (i := 3) rfl)
theorem dX6_refuse_24 : decode cX6_refuse 24 = Except.ok (Instr.goto 4, 3) := vyd_167 (vyb_cX6_refuse_2 (i := 4) rfl) (vyb_cX6_refuse_2 (i := 5) rfl) (vyb_cX6_refuse_2 (i := 6) rfl) (by decide +kernel)
theorem dX6_refuse_27 : decode cX6_refuse 27 = Except.ok (Instr.iconst 0, 1) := vyd_3 (vyb_cX6_refuse_2 (i := 7) rfl)
theorem dX6_refuse_28 : decode cX6_refuse 28 = Except.ok (Instr.ireturn, 1) := vyd_172 (vyb_cX6_refuse_2 (i := 8) rfl)
theorem vyb_cX6_start_0 {i : Nat} {b : UInt8} (h : ([0x2a, 0x03, 0xb5, 0x00, 0x25, 0x2a, 0x1b, 0x1c, 0xb6, 0x00] : List UInt8)[i]? = some b) : vy_8 cX6_start (0 + i) b := vy_in (n := 10) (by decide +kernel) h
theorem vyb_cX6_start_1 {i : Nat} {b : UInt8} (h : ([0x28, 0xac] : List UInt8)[i]? = some b) : vy_8 cX6_start (10 + i) b := vy_in (n := 2) (by decide +kernel) h
theorem dX6_start_0 : decode cX6_start 0 = Except.ok (Instr.aload_n 0, 1) := vyd_42 (vyb_cX6_start_0 (i := 0) rfl)
theorem dX6_start_1 : decode cX6_start 1 = Except.ok (Instr.iconst 0, 1) := vyd_3 (vyb_cX6_start_0 (i := 1) rfl)
theorem dX6_start_2 : decode cX6_start 2 = Except.ok (Instr.putfield 37, 3) := vyd_181 (vyb_cX6_start_0 (i := 2) rfl) (vyb_cX6_start_0 (i := 3) rfl) (vyb_cX6_start_0 (i := 4) rfl) rfl
theorem dX6_start_5 : decode cX6_start 5 = Except.ok (Instr.aload_n 0, 1) := vyd_42 (vyb_cX6_start_0 (i := 5) rfl)
theorem dX6_start_6 : decode cX6_start 6 = Except.ok (Instr.iload_n 1, 1) := vyd_27 (vyb_cX6_start_0 (i := 6) rfl)
theorem dX6_start_7 : decode cX6_start 7 = Except.ok (Instr.iload_n 2, 1) := vyd_28 (vyb_cX6_start_0 (i := 7) rfl)
theorem dX6_start_8 : decode cX6_start 8 = Except.ok (Instr.invokevirtual 40, 3) := vyd_182 (vyb_cX6_start_0 (i := 8) rfl) (vyb_cX6_start_0 (i := 9) rfl) (vyb_cX6_start_1 (i := 0) rfl) rfl
theorem dX6_start_11 : decode cX6_start 11 = Except.ok (Instr.ireturn, 1) := vyd_172 (vyb_cX6_start_1 (i := 1) rfl)
theorem vyb_cX6_isNoTrack_0 {i : Nat} {b : UInt8} (h : ([0x1a, 0x03, 0x04, 0xb8, 0x00, 0x2c, 0x9a, 0x00, 0x07, 0x04] : List UInt8)[i]? = some b) : vy_8 cX6_isNoTrack (0 + i) b := vy_in (n := 10) (by decide +kernel) h
theorem vyb_cX6_isNoTrack_1 {i : Nat} {b : UInt8} (h : ([0xa7, 0x00, 0x04, 0x03, 0xac] : List UInt8)[i]? = some b) : vy_8 cX6_isNoTrack (10 + i) b := vy_in (n := 5) (by decide +kernel) h
theorem dX6_isNoTrack_0 : decode cX6_isNoTrack 0 = Except.ok (Instr.iload_n 0, 1) := vyd_26 (vyb_cX6_isNoTrack_0 (i := 0) rfl)
theorem dX6_isNoTrack_1 : decode cX6_isNoTrack 1 = Except.ok (Instr.iconst 0, 1) := vyd_3 (vyb_cX6_isNoTrack_0 (i := 1) rfl)
theorem dX6_isNoTrack_2 : decode cX6_isNoTrack 2 = Except.ok (Instr.iconst 1, 1) := vyd_4 (vyb_cX6_isNoTrack_0 (i := 2) rfl)
theorem dX6_isNoTrack_3 : decode cX6_isNoTrack 3 = Except.ok (Instr.invokestatic 44, 3) := vyd_184 (vyb_cX6_isNoTrack_0 (i := 3) rfl) (vyb_cX6_isNoTrack_0 (i := 4) rfl) (vyb_cX6_isNoTrack_0 (i := 5) rfl) rfl
theorem dX6_isNoTrack_6 : decode cX6_isNoTrack 6 = Except.ok (Instr.ifCond .ne 7, 3) := vyd_154 (vyb_cX6_isNoTrack_0 (i := 6) rfl) (vyb_cX6_isNoTrack_0 (i := 7) rfl) (vyb_cX6_isNoTrack_0 (i := 8) rfl) (by decide +kernel)
theorem dX6_isNoTrack_9 : decode cX6_isNoTrack 9 = Except.ok (Instr.iconst 1, 1) := vyd_4 (vyb_cX6_isNoTrack_0 (i := 9) rfl)
theorem dX6_isNoTrack_10 : decode cX6_isNoTrack 10 = Except.ok (Instr.goto 4, 3) := vyd_167 (vyb_cX6_isNoTrack_1 (i := 0) rfl) (vyb_cX6_isNoTrack_1 (i := 1) rfl) (vyb_cX6_isNoTrack_1 (i := 2) rfl) (by decide +kernel)
theorem dX6_isNoTrack_13 : decode cX6_isNoTrack 13 = Except.ok (Instr.iconst 0, 1) := vyd_3 (vyb_cX6_isNoTrack_1 (i := 3) rfl)
theorem dX6_isNoTrack_14 : decode cX6_isNoTrack 14 = Except.ok (Instr.ireturn, 1) := vyd_172 (vyb_cX6_isNoTrack_1 (i := 4) rfl)
theorem vyb_cX6_isNoPiece_0 {i : Nat} {b : UInt8} (h : ([0x1a, 0x03, 0x10, 0x09, 0xb8, 0x00, 0x2c, 0x99, 0x00, 0x0d] : List UInt8)[i]? = some b) : vy_8 cX6_isNoPiece (0 + i) b := vy_in (n := 10) (by decide +kernel) h
theorem vyb_cX6_isNoPiece_1 {i : Nat} {b : UInt8} (h : ([0x1b, 0x03, 0x10, 0x63, 0xb8, 0x00, 0x2c, 0x9a, 0x00, 0x07] : List UInt8)[i]? = some b) : vy_8 cX6_isNoPiece (10 + i) b := vy_in (n := 10) (by decide +kernel) h
theorem vyb_cX6_isNoPiece_2 {i : Nat} {b : UInt8} (h : ([0x04, 0xa7, 0x00, 0x04, 0x03, 0xac] : List UInt8)[i]? = some b) : vy_8 cX6_isNoPiece (20 + i) b := vy_in (n := 6) (by decide +kernel) h
theorem dX6_isNoPiece_0 : decode cX6_isNoPiece 0 = Except.ok (Instr.iload_n 0, 1) := vyd_26 (vyb_cX6_isNoPiece_0 (i := 0) rfl)
theorem dX6_isNoPiece_1 : decode cX6_isNoPiece 1 = Except.ok (Instr.iconst 0, 1) := vyd_3 (vyb_cX6_isNoPiece_0 (i := 1) rfl)
theorem dX6_isNoPiece_2 : decode cX6_isNoPiece 2 = Except.ok (Instr.bipush 9, 2) := vyd_16 (vyb_cX6_isNoPiece_0 (i := 2) rfl) (vyb_cX6_isNoPiece_0 (i := 3) rfl) (by decide +kernel)
theorem dX6_isNoPiece_4 : decode cX6_isNoPiece 4 = Except.ok (Instr.invokestatic 44, 3) := vyd_184 (vyb_cX6_isNoPiece_0 (i := 4) rfl) (vyb_cX6_isNoPiece_0 (i := 5) rfl) (vyb_cX6_isNoPiece_0 (i := 6) rfl) rfl
theorem dX6_isNoPiece_7 : decode cX6_isNoPiece 7 = Except.ok (Instr.ifCond .eq 13, 3) := vyd_153 (vyb_cX6_isNoPiece_0 (i := 7) rfl) (vyb_cX6_isNoPiece_0 (i := 8) rfl) (vyb_cX6_isNoPiece_0 (i := 9) rfl) (by decide +kernel)
theorem dX6_isNoPiece_10 : decode cX6_isNoPiece 10 = Except.ok (Instr.iload_n 1, 1) := vyd_27 (vyb_cX6_isNoPiece_1 (i := 0) rfl)
theorem dX6_isNoPiece_11 : decode cX6_isNoPiece 11 = Except.ok (Instr.iconst 0, 1) := vyd_3 (vyb_cX6_isNoPiece_1 (i := 1) rfl)
theorem dX6_isNoPiece_12 : decode cX6_isNoPiece 12 = Except.ok (Instr.bipush 99, 2) := vyd_16 (vyb_cX6_isNoPiece_1 (i := 2) rfl) (vyb_cX6_isNoPiece_1 (i := 3) rfl) (by decide +kernel)
theorem dX6_isNoPiece_14 : decode cX6_isNoPiece 14 = Except.ok (Instr.invokestatic 44, 3) := vyd_184 (vyb_cX6_isNoPiece_1 (i := 4) rfl) (vyb_cX6_isNoPiece_1 (i := 5) rfl) (vyb_cX6_isNoPiece_1 (i := 6) rfl) rfl
theorem dX6_isNoPiece_17 : decode cX6_isNoPiece 17 = Except.ok (Instr.ifCond .ne 7, 3) := vyd_154 (vyb_cX6_isNoPiece_1 (i := 7) rfl) (vyb_cX6_isNoPiece_1 (i := 8) rfl) (vyb_cX6_isNoPiece_1 (i := 9) rfl) (by decide +kernel)
theorem dX6_isNoPiece_20 : decode cX6_isNoPiece 20 = Except.ok (Instr.iconst 1, 1) := vyd_4 (vyb_cX6_isNoPiece_2 (i := 0) rfl)
theorem dX6_isNoPiece_21 : decode cX6_isNoPiece 21 = Except.ok (Instr.goto 4, 3) := vyd_167 (vyb_cX6_isNoPiece_2 (i := 1) rfl) (vyb_cX6_isNoPiece_2 (i := 2) rfl) (vyb_cX6_isNoPiece_2 (i := 3) rfl) (by decide +kernel)
theorem dX6_isNoPiece_24 : decode cX6_isNoPiece 24 = Except.ok (Instr.iconst 0, 1) := vyd_3 (vyb_cX6_isNoPiece_2 (i := 4) rfl)
theorem dX6_isNoPiece_25 : decode cX6_isNoPiece 25 = Except.ok (Instr.ireturn, 1) := vyd_172 (vyb_cX6_isNoPiece_2 (i := 5) rfl)
theorem vyb_cX6_code_0 {i : Nat} {b : UInt8} (h : ([0x1a, 0x9a, 0x00, 0x07, 0x03, 0xa7, 0x00, 0x09, 0x10, 0x64] : List UInt8)[i]? = some b) : vy_8 cX6_code (0 + i) b := vy_in (n := 10) (by decide +kernel) h
theorem vyb_cX6_code_1 {i : Nat} {b : UInt8} (h : ([0x1a, 0x68, 0x1b, 0x60, 0xac] : List UInt8)[i]? = some b) : vy_8 cX6_code (10 + i) b := vy_in (n := 5) (by decide +kernel) h
theorem dX6_code_0 : decode cX6_code 0 = Except.ok (Instr.iload_n 0, 1) := vyd_26 (vyb_cX6_code_0 (i := 0) rfl)
theorem dX6_code_1 : decode cX6_code 1 = Except.ok (Instr.ifCond .ne 7, 3) := vyd_154 (vyb_cX6_code_0 (i := 1) rfl) (vyb_cX6_code_0 (i := 2) rfl) (vyb_cX6_code_0 (i := 3) rfl) (by decide +kernel)
theorem dX6_code_4 : decode cX6_code 4 = Except.ok (Instr.iconst 0, 1) := vyd_3 (vyb_cX6_code_0 (i := 4) rfl)
theorem dX6_code_5 : decode cX6_code 5 = Except.ok (Instr.goto 9, 3) := vyd_167 (vyb_cX6_code_0 (i := 5) rfl) (vyb_cX6_code_0 (i := 6) rfl) (vyb_cX6_code_0 (i := 7) rfl) (by decide +kernel)
theorem dX6_code_8 : decode cX6_code 8 = Except.ok (Instr.bipush 100, 2) := vyd_16 (vyb_cX6_code_0 (i := 8) rfl) (vyb_cX6_code_0 (i := 9) rfl) (by decide +kernel)
theorem dX6_code_10 : decode cX6_code 10 = Except.ok (Instr.iload_n 0, 1) := vyd_26 (vyb_cX6_code_1 (i := 0) rfl)
theorem dX6_code_11 : decode cX6_code 11 = Except.ok (Instr.imul, 1) := vyd_104 (vyb_cX6_code_1 (i := 1) rfl)
theorem dX6_code_12 : decode cX6_code 12 = Except.ok (Instr.iload_n 1, 1) := vyd_27 (vyb_cX6_code_1 (i := 2) rfl)
theorem dX6_code_13 : decode cX6_code 13 = Except.ok (Instr.iadd, 1) := vyd_96 (vyb_cX6_code_1 (i := 3) rfl)
theorem dX6_code_14 : decode cX6_code 14 = Except.ok (Instr.ireturn, 1) := vyd_172 (vyb_cX6_code_1 (i := 4) rfl)
theorem vyb_cX6_kind_0 {i : Nat} {b : UInt8} (h : ([0x1a, 0x10, 0x64, 0x6c, 0xac] : List UInt8)[i]? = some b) : vy_8 cX6_kind (0 + i) b := vy_in (n := 5) (by decide +kernel) h
theorem dX6_kind_0 : decode cX6_kind 0 = Except.ok (Instr.iload_n 0, 1) := vyd_26 (vyb_cX6_kind_0 (i := 0) rfl)
theorem dX6_kind_1 : decode cX6_kind 1 = Except.ok (Instr.bipush 100, 2) := vyd_16 (vyb_cX6_kind_0 (i := 1) rfl) (vyb_cX6_kind_0 (i := 2) rfl) (by decide +kernel)
theorem dX6_kind_3 : decode cX6_kind 3 = Except.ok (Instr.idiv, 1) := vyd_108 (vyb_cX6_kind_0 (i := 3) rfl)
theorem dX6_kind_4 : decode cX6_kind 4 = Except.ok (Instr.ireturn, 1) := vyd_172 (vyb_cX6_kind_0 (i := 4) rfl)
theorem vyb_cX6_load_0 {i : Nat} {b : UInt8} (h : ([0x1a, 0x10, 0x64, 0x70, 0xac] : List UInt8)[i]? = some b) : vy_8 cX6_load (0 + i) b := vy_in (n := 5) (by decide +kernel) h
theorem dX6_load_0 : decode cX6_load 0 = Except.ok (Instr.iload_n 0, 1) := vyd_26 (vyb_cX6_load_0 (i := 0) rfl)
theorem dX6_load_1 : decode cX6_load 1 = Except.ok (Instr.bipush 100, 2) := vyd_16 (vyb_cX6_load_0 (i := 1) rfl) (vyb_cX6_load_0 (i := 2) rfl) (by decide +kernel)
theorem dX6_load_3 : decode cX6_load 3 = Except.ok (Instr.irem, 1) := vyd_112 (vyb_cX6_load_0 (i := 3) rfl)
theorem dX6_load_4 : decode cX6_load 4 = Except.ok (Instr.ireturn, 1) := vyd_172 (vyb_cX6_load_0 (i := 4) rfl)
theorem vyb_cX6_size_0 {i : Nat} {b : UInt8} (h : ([0x2a, 0xb4, 0x00, 0x0a, 0x1b, 0xb6, 0x00, 0x30, 0xc0, 0x00] : List UInt8)[i]? = some b) : vy_8 cX6_size (0 + i) b := vy_in (n := 10) (by decide +kernel) h
theorem vyb_cX6_size_1 {i : Nat} {b : UInt8} (h : ([0x07, 0xb6, 0x00, 0x34, 0xac] : List UInt8)[i]? = some b) : vy_8 cX6_size (10 + i) b := vy_in (n := 5) (by decide +kernel) h
theorem dX6_size_0 : decode cX6_size 0 = Except.ok (Instr.aload_n 0, 1) := vyd_42 (vyb_cX6_size_0 (i := 0) rfl)
theorem dX6_size_1 : decode cX6_size 1 = Except.ok (Instr.getfield 10, 3) := vyd_180 (vyb_cX6_size_0 (i := 1) rfl) (vyb_cX6_size_0 (i := 2) rfl) (vyb_cX6_size_0 (i := 3) rfl) rfl
theorem dX6_size_4 : decode cX6_size 4 = Except.ok (Instr.iload_n 1, 1) := vyd_27 (vyb_cX6_size_0 (i := 4) rfl)
theorem dX6_size_5 : decode cX6_size 5 = Except.ok (Instr.invokevirtual 48, 3) := vyd_182 (vyb_cX6_size_0 (i := 5) rfl) (vyb_cX6_size_0 (i := 6) rfl) (vyb_cX6_size_0 (i := 7) rfl) rfl
theorem dX6_size_8 : decode cX6_size 8 = Except.ok (Instr.checkcast 7, 3) := vyd_192 (vyb_cX6_size_0 (i := 8) rfl) (vyb_cX6_size_0 (i := 9) rfl) (vyb_cX6_size_1 (i := 0) rfl) rfl
theorem dX6_size_11 : decode cX6_size 11 = Except.ok (Instr.invokevirtual 52, 3) := vyd_182 (vyb_cX6_size_1 (i := 1) rfl) (vyb_cX6_size_1 (i := 2) rfl) (vyb_cX6_size_1 (i := 3) rfl) rfl
theorem dX6_size_14 : decode cX6_size 14 = Except.ok (Instr.ireturn, 1) := vyd_172 (vyb_cX6_size_1 (i := 4) rfl)
theorem vyb_cX6_get_0 {i : Nat} {b : UInt8} (h : ([0x2a, 0xb4, 0x00, 0x0a, 0x1b, 0xb6, 0x00, 0x30, 0xc0, 0x00] : List UInt8)[i]? = some b) : vy_8 cX6_get (0 + i) b := vy_in (n := 10) (by decide +kernel) h
theorem vyb_cX6_get_1 {i : Nat} {b : UInt8} (h : ([0x07, 0x1c, 0xb6, 0x00, 0x30, 0xc0, 0x00, 0x38, 0xb6, 0x00] : List UInt8)[i]? = some b) : vy_8 cX6_get (10 + i) b := vy_in (n := 10) (by decide +kernel) h
theorem vyb_cX6_get_2 {i : Nat} {b : UInt8} (h : ([0x3a, 0xac] : List UInt8)[i]? = some b) : vy_8 cX6_get (20 + i) b := vy_in (n := 2) (by decide +kernel) h
theorem dX6_get_0 : decode cX6_get 0 = Except.ok (Instr.aload_n 0, 1) := vyd_42 (vyb_cX6_get_0 (i := 0) rfl)
theorem dX6_get_1 : decode cX6_get 1 = Except.ok (Instr.getfield 10, 3) := vyd_180 (vyb_cX6_get_0 (i := 1) rfl) (vyb_cX6_get_0 (i := 2) rfl) (vyb_cX6_get_0 (i := 3) rfl) rfl
theorem dX6_get_4 : decode cX6_get 4 = Except.ok (Instr.iload_n 1, 1) := vyd_27 (vyb_cX6_get_0 (i := 4) rfl)
theorem dX6_get_5 : decode cX6_get 5 = Except.ok (Instr.invokevirtual 48, 3) := vyd_182 (vyb_cX6_get_0 (i := 5) rfl) (vyb_cX6_get_0 (i := 6) rfl) (vyb_cX6_get_0 (i := 7) rfl) rfl
theorem dX6_get_8 : decode cX6_get 8 = Except.ok (Instr.checkcast 7, 3) := vyd_192 (vyb_cX6_get_0 (i := 8) rfl) (vyb_cX6_get_0 (i := 9) rfl) (vyb_cX6_get_1 (i := 0) rfl) rfl
theorem dX6_get_11 : decode cX6_get 11 = Except.ok (Instr.iload_n 2, 1) := vyd_28 (vyb_cX6_get_1 (i := 1) rfl)
theorem dX6_get_12 : decode cX6_get 12 = Except.ok (Instr.invokevirtual 48, 3) := vyd_182 (vyb_cX6_get_1 (i := 2) rfl) (vyb_cX6_get_1 (i := 3) rfl) (vyb_cX6_get_1 (i := 4) rfl) rfl
theorem dX6_get_15 : decode cX6_get 15 = Except.ok (Instr.checkcast 56, 3) := vyd_192 (vyb_cX6_get_1 (i := 5) rfl) (vyb_cX6_get_1 (i := 6) rfl) (vyb_cX6_get_1 (i := 7) rfl) rfl
theorem dX6_get_18 : decode cX6_get 18 = Except.ok (Instr.invokevirtual 58, 3) := vyd_182 (vyb_cX6_get_1 (i := 8) rfl) (vyb_cX6_get_1 (i := 9) rfl) (vyb_cX6_get_2 (i := 0) rfl) rfl
theorem dX6_get_21 : decode cX6_get 21 = Except.ok (Instr.ireturn, 1) := vyd_172 (vyb_cX6_get_2 (i := 1) rfl)
theorem vyb_cX6_changed_0 {i : Nat} {b : UInt8} (h : ([0x1b, 0x9a, 0x00, 0x13, 0x2a, 0x03, 0xb5, 0x00, 0x3d, 0x2a] : List UInt8)[i]? = some b) : vy_8 cX6_changed (0 + i) b := vy_in (n := 10) (by decide +kernel) h
theorem vyb_cX6_changed_1 {i : Nat} {b : UInt8} (h : ([0x03, 0xb5, 0x00, 0x40, 0x2a, 0x02, 0xb5, 0x00, 0x1d, 0xb1] : List UInt8)[i]? = some b) : vy_8 cX6_changed (10 + i) b := vy_in (n := 10) (by decide +kernel) h
theorem vyb_cX6_changed_2 {i : Nat} {b : UInt8} (h : ([0x03, 0x3e, 0x1d, 0x05, 0xa2, 0x00, 0x24, 0x1d, 0x1c, 0x9f] : List UInt8)[i]? = some b) : vy_8 cX6_changed (20 + i) b := vy_in (n := 10) (by decide +kernel) h
theorem vyb_cX6_changed_3 {i : Nat} {b : UInt8} (h : ([0x00, 0x19, 0x2a, 0xb4, 0x00, 0x19, 0x1d, 0x32, 0xb4, 0x00] : List UInt8)[i]? = some b) : vy_8 cX6_changed (30 + i) b := vy_in (n := 10) (by decide +kernel) h
theorem vyb_cX6_changed_4 {i : Nat} {b : UInt8} (h : ([0x43, 0x99, 0x00, 0x0d, 0x2a, 0xb4, 0x00, 0x19, 0x1d, 0x32] : List UInt8)[i]? = some b) : vy_8 cX6_changed (40 + i) b := vy_in (n := 10) (by decide +kernel) h
theorem vyb_cX6_changed_5 {i : Nat} {b : UInt8} (h : ([0x05, 0xb5, 0x00, 0x43, 0x84, 0x03, 0x01, 0xa7, 0xff, 0xdd] : List UInt8)[i]? = some b) : vy_8 cX6_changed (50 + i) b := vy_in (n := 10) (by decide +kernel) h
theorem vyb_cX6_changed_6 {i : Nat} {b : UInt8} (h : ([0xb1] : List UInt8)[i]? = some b) : vy_8 cX6_changed (60 + i) b := vy_in (n := 1) (by decide +kernel) h
theorem dX6_changed_0 : decode cX6_changed 0 = Except.ok (Instr.iload_n 1, 1) := vyd_27 (vyb_cX6_changed_0 (i := 0) rfl)
theorem dX6_changed_1 : decode cX6_changed 1 = Except.ok (Instr.ifCond .ne 19, 3) := vyd_154 (vyb_cX6_changed_0 (i := 1) rfl) (vyb_cX6_changed_0 (i := 2) rfl) (vyb_cX6_changed_0 (i := 3) rfl) (by decide +kernel)
theorem dX6_changed_4 : decode cX6_changed 4 = Except.ok (Instr.aload_n 0, 1) := vyd_42 (vyb_cX6_changed_0 (i := 4) rfl)
theorem dX6_changed_5 : decode cX6_changed 5 = Except.ok (Instr.iconst 0, 1) := vyd_3 (vyb_cX6_changed_0 (i := 5) rfl)
theorem dX6_changed_6 : decode cX6_changed 6 = Except.ok (Instr.putfield 61, 3) := vyd_181 (vyb_cX6_changed_0 (i := 6) rfl) (vyb_cX6_changed_0 (i := 7) rfl) (vyb_cX6_changed_0 (i := 8) rfl) rfl
theorem dX6_changed_9 : decode cX6_changed 9 = Except.ok (Instr.aload_n 0, 1) := vyd_42 (vyb_cX6_changed_0 (i := 9) rfl)
theorem dX6_changed_10 : decode cX6_changed 10 = Except.ok (Instr.iconst 0, 1) := vyd_3 (vyb_cX6_changed_1 (i := 0) rfl)
theorem dX6_changed_11 : decode cX6_changed 11 = Except.ok (Instr.putfield 64, 3) := vyd_181 (vyb_cX6_changed_1 (i := 1) rfl) (vyb_cX6_changed_1 (i := 2) rfl) (vyb_cX6_changed_1 (i := 3) rfl) rfl
theorem dX6_changed_14 : decode cX6_changed 14 = Except.ok (Instr.aload_n 0, 1) := vyd_42 (vyb_cX6_changed_1 (i := 4) rfl)
theorem dX6_changed_15 : decode cX6_changed 15 = Except.ok (Instr.iconst (-1), 1) := vyd_2 (vyb_cX6_changed_1 (i := 5) rfl)
theorem dX6_changed_16 : decode cX6_changed 16 = Except.ok (Instr.putfield 29, 3) := vyd_181 (vyb_cX6_changed_1 (i := 6) rfl) (vyb_cX6_changed_1 (i := 7) rfl) (vyb_cX6_changed_1 (i := 8) rfl) rfl
theorem dX6_changed_19 : decode cX6_changed 19 = Except.ok (Instr.return_, 1) := vyd_177 (vyb_cX6_changed_1 (i := 9) rfl)
theorem dX6_changed_20 : decode cX6_changed 20 = Except.ok (Instr.iconst 0, 1) := vyd_3 (vyb_cX6_changed_2 (i := 0) rfl)
theorem dX6_changed_21 : decode cX6_changed 21 = Except.ok (Instr.istore_n 3, 1) := vyd_62 (vyb_cX6_changed_2 (i := 1) rfl)
theorem dX6_changed_22 : decode cX6_changed 22 = Except.ok (Instr.iload_n 3, 1) := vyd_29 (vyb_cX6_changed_2 (i := 2) rfl)
theorem dX6_changed_23 : decode cX6_changed 23 = Except.ok (Instr.iconst 2, 1) := vyd_5 (vyb_cX6_changed_2 (i := 3) rfl)
theorem dX6_changed_24 : decode cX6_changed 24 = Except.ok (Instr.if_icmp .ge 36, 3) := vyd_162 (vyb_cX6_changed_2 (i := 4) rfl) (vyb_cX6_changed_2 (i := 5) rfl) (vyb_cX6_changed_2 (i := 6) rfl) (by decide +kernel)
theorem dX6_changed_27 : decode cX6_changed 27 = Except.ok (Instr.iload_n 3, 1) := vyd_29 (vyb_cX6_changed_2 (i := 7) rfl)
theorem dX6_changed_28 : decode cX6_changed 28 = Except.ok (Instr.iload_n 2, 1) := vyd_28 (vyb_cX6_changed_2 (i := 8) rfl)
theorem dX6_changed_29 : decode cX6_changed 29 = Except.ok (Instr.if_icmp .eq 25, 3) := vyd_159 (vyb_cX6_changed_2 (i := 9) rfl) (vyb_cX6_changed_3 (i := 0) rfl) (vyb_cX6_changed_3 (i := 1) rfl) (by decide +kernel)
theorem dX6_changed_32 : decode cX6_changed 32 = Except.ok (Instr.aload_n 0, 1) := vyd_42 (vyb_cX6_changed_3 (i := 2) rfl)
theorem dX6_changed_33 : decode cX6_changed 33 = Except.ok (Instr.getfield 25, 3) := vyd_180 (vyb_cX6_changed_3 (i := 3) rfl) (vyb_cX6_changed_3 (i := 4) rfl) (vyb_cX6_changed_3 (i := 5) rfl) rfl
theorem dX6_changed_36 : decode cX6_changed 36 = Except.ok (Instr.iload_n 3, 1) := vyd_29 (vyb_cX6_changed_3 (i := 6) rfl)
theorem dX6_changed_37 : decode cX6_changed 37 = Except.ok (Instr.aaload, 1) := vyd_50 (vyb_cX6_changed_3 (i := 7) rfl)
theorem dX6_changed_38 : decode cX6_changed 38 = Except.ok (Instr.getfield 67, 3) := vyd_180 (vyb_cX6_changed_3 (i := 8) rfl) (vyb_cX6_changed_3 (i := 9) rfl) (vyb_cX6_changed_4 (i := 0) rfl) rfl
theorem dX6_changed_41 : decode cX6_changed 41 = Except.ok (Instr.ifCond .eq 13, 3) := vyd_153 (vyb_cX6_changed_4 (i := 1) rfl) (vyb_cX6_changed_4 (i := 2) rfl) (vyb_cX6_changed_4 (i := 3) rfl) (by decide +kernel)
theorem dX6_changed_44 : decode cX6_changed 44 = Except.ok (Instr.aload_n 0, 1) := vyd_42 (vyb_cX6_changed_4 (i := 4) rfl)
theorem dX6_changed_45 : decode cX6_changed 45 = Except.ok (Instr.getfield 25, 3) := vyd_180 (vyb_cX6_changed_4 (i := 5) rfl) (vyb_cX6_changed_4 (i := 6) rfl) (vyb_cX6_changed_4 (i := 7) rfl) rfl
theorem dX6_changed_48 : decode cX6_changed 48 = Except.ok (Instr.iload_n 3, 1) := vyd_29 (vyb_cX6_changed_4 (i := 8) rfl)
theorem dX6_changed_49 : decode cX6_changed 49 = Except.ok (Instr.aaload, 1) := vyd_50 (vyb_cX6_changed_4 (i := 9) rfl)
theorem dX6_changed_50 : decode cX6_changed 50 = Except.ok (Instr.iconst 2, 1) := vyd_5 (vyb_cX6_changed_5 (i := 0) rfl)
theorem dX6_changed_51 : decode cX6_changed 51 = Except.ok (Instr.putfield 67, 3) := vyd_181 (vyb_cX6_changed_5 (i := 1) rfl) (vyb_cX6_changed_5 (i := 2) rfl) (vyb_cX6_changed_5 (i := 3) rfl) rfl
theorem dX6_changed_54 : decode cX6_changed 54 = .ok (.iinc 3 1, 3) := by decide +kernel
theorem dX6_changed_57 : decode cX6_changed 57 = Except.ok (Instr.goto (-35), 3) := vyd_167 (vyb_cX6_changed_5 (i := 7) rfl) (vyb_cX6_changed_5 (i := 8) rfl) (vyb_cX6_changed_5 (i := 9) rfl) (by decide +kernel)
theorem dX6_changed_60 : decode cX6_changed 60 = Except.ok (Instr.return_, 1) := vyd_177 (vyb_cX6_changed_6 (i := 0) rfl)
theorem vyb_cX6_come_0 {i : Nat} {b : UInt8} (h : ([0x2a, 0xb4, 0x00, 0x0a, 0x1b, 0xb6, 0x00, 0x30, 0xc0, 0x00] : List UInt8)[i]? = some b) : vy_8 cX6_come (0 + i) b := vy_in (n := 10) (by decide +kernel) h
theorem vyb_cX6_come_1 {i : Nat} {b : UInt8} (h : ([0x07, 0x1c, 0x1d, 0xb8, 0x00, 0x46, 0xb6, 0x00, 0x4a, 0x2a] : List UInt8)[i]? = some b) : vy_8 cX6_come (10 + i) b := vy_in (n := 10) (by decide +kernel) h
theorem vyb_cX6_come_2 {i : Nat} {b : UInt8} (h : ([0x1b, 0x02, 0xb6, 0x00, 0x4d, 0xb1] : List UInt8)[i]? = some b) : vy_8 cX6_come (20 + i) b := vy_in (n := 6) (by decide +kernel) h
theorem dX6_come_0 : decode cX6_come 0 = Except.ok (Instr.aload_n 0, 1) := vyd_42 (vyb_cX6_come_0 (i := 0) rfl)
theorem dX6_come_1 : decode cX6_come 1 = Except.ok (Instr.getfield 10, 3) := vyd_180 (vyb_cX6_come_0 (i := 1) rfl) (vyb_cX6_come_0 (i := 2) rfl) (vyb_cX6_come_0 (i := 3) rfl) rfl
theorem dX6_come_4 : decode cX6_come 4 = Except.ok (Instr.iload_n 1, 1) := vyd_27 (vyb_cX6_come_0 (i := 4) rfl)
theorem dX6_come_5 : decode cX6_come 5 = Except.ok (Instr.invokevirtual 48, 3) := vyd_182 (vyb_cX6_come_0 (i := 5) rfl) (vyb_cX6_come_0 (i := 6) rfl) (vyb_cX6_come_0 (i := 7) rfl) rfl
theorem dX6_come_8 : decode cX6_come 8 = Except.ok (Instr.checkcast 7, 3) := vyd_192 (vyb_cX6_come_0 (i := 8) rfl) (vyb_cX6_come_0 (i := 9) rfl) (vyb_cX6_come_1 (i := 0) rfl) rfl
theorem dX6_come_11 : decode cX6_come 11 = Except.ok (Instr.iload_n 2, 1) := vyd_28 (vyb_cX6_come_1 (i := 1) rfl)
theorem dX6_come_12 : decode cX6_come 12 = Except.ok (Instr.iload_n 3, 1) := vyd_29 (vyb_cX6_come_1 (i := 2) rfl)
theorem dX6_come_13 : decode cX6_come 13 = Except.ok (Instr.invokestatic 70, 3) := vyd_184 (vyb_cX6_come_1 (i := 3) rfl) (vyb_cX6_come_1 (i := 4) rfl) (vyb_cX6_come_1 (i := 5) rfl) rfl
theorem dX6_come_16 : decode cX6_come 16 = Except.ok (Instr.invokevirtual 74, 3) := vyd_182 (vyb_cX6_come_1 (i := 6) rfl) (vyb_cX6_come_1 (i := 7) rfl) (vyb_cX6_come_1 (i := 8) rfl) rfl
theorem dX6_come_19 : decode cX6_come 19 = Except.ok (Instr.aload_n 0, 1) := vyd_42 (vyb_cX6_come_1 (i := 9) rfl)
theorem dX6_come_20 : decode cX6_come 20 = Except.ok (Instr.iload_n 1, 1) := vyd_27 (vyb_cX6_come_2 (i := 0) rfl)
theorem dX6_come_21 : decode cX6_come 21 = Except.ok (Instr.iconst (-1), 1) := vyd_2 (vyb_cX6_come_2 (i := 1) rfl)
theorem dX6_come_22 : decode cX6_come 22 = Except.ok (Instr.invokevirtual 77, 3) := vyd_182 (vyb_cX6_come_2 (i := 2) rfl) (vyb_cX6_come_2 (i := 3) rfl) (vyb_cX6_come_2 (i := 4) rfl) rfl
theorem dX6_come_25 : decode cX6_come 25 = Except.ok (Instr.return_, 1) := vyd_177 (vyb_cX6_come_2 (i := 5) rfl)
theorem vyb_cX6_go_0 {i : Nat} {b : UInt8} (h : ([0x2a, 0xb4, 0x00, 0x0a, 0x1b, 0xb6, 0x00, 0x30, 0xc0, 0x00] : List UInt8)[i]? = some b) : vy_8 cX6_go (0 + i) b := vy_in (n := 10) (by decide +kernel) h
theorem vyb_cX6_go_1 {i : Nat} {b : UInt8} (h : ([0x07, 0x1c, 0xb6, 0x00, 0x51, 0xc0, 0x00, 0x38, 0xb6, 0x00] : List UInt8)[i]? = some b) : vy_8 cX6_go (10 + i) b := vy_in (n := 10) (by decide +kernel) h
theorem vyb_cX6_go_2 {i : Nat} {b : UInt8} (h : ([0x3a, 0x3e, 0x2a, 0x1b, 0x02, 0xb6, 0x00, 0x4d, 0x1d, 0xac] : List UInt8)[i]? = some b) : vy_8 cX6_go (20 + i) b := vy_in (n := 10) (by decide +kernel) h
theorem dX6_go_0 : decode cX6_go 0 = Except.ok (Instr.aload_n 0, 1) := vyd_42 (vyb_cX6_go_0 (i := 0) rfl)
theorem dX6_go_1 : decode cX6_go 1 = Except.ok (Instr.getfield 10, 3) := vyd_180 (vyb_cX6_go_0 (i := 1) rfl) (vyb_cX6_go_0 (i := 2) rfl) (vyb_cX6_go_0 (i := 3) rfl) rfl
theorem dX6_go_4 : decode cX6_go 4 = Except.ok (Instr.iload_n 1, 1) := vyd_27 (vyb_cX6_go_0 (i := 4) rfl)
theorem dX6_go_5 : decode cX6_go 5 = Except.ok (Instr.invokevirtual 48, 3) := vyd_182 (vyb_cX6_go_0 (i := 5) rfl) (vyb_cX6_go_0 (i := 6) rfl) (vyb_cX6_go_0 (i := 7) rfl) rfl
theorem dX6_go_8 : decode cX6_go 8 = Except.ok (Instr.checkcast 7, 3) := vyd_192 (vyb_cX6_go_0 (i := 8) rfl) (vyb_cX6_go_0 (i := 9) rfl) (vyb_cX6_go_1 (i := 0) rfl) rfl
theorem dX6_go_11 : decode cX6_go 11 = Except.ok (Instr.iload_n 2, 1) := vyd_28 (vyb_cX6_go_1 (i := 1) rfl)
theorem dX6_go_12 : decode cX6_go 12 = Except.ok (Instr.invokevirtual 81, 3) := vyd_182 (vyb_cX6_go_1 (i := 2) rfl) (vyb_cX6_go_1 (i := 3) rfl) (vyb_cX6_go_1 (i := 4) rfl) rfl
theorem dX6_go_15 : decode cX6_go 15 = Except.ok (Instr.checkcast 56, 3) := vyd_192 (vyb_cX6_go_1 (i := 5) rfl) (vyb_cX6_go_1 (i := 6) rfl) (vyb_cX6_go_1 (i := 7) rfl) rfl
theorem dX6_go_18 : decode cX6_go 18 = Except.ok (Instr.invokevirtual 58, 3) := vyd_182 (vyb_cX6_go_1 (i := 8) rfl) (vyb_cX6_go_1 (i := 9) rfl) (vyb_cX6_go_2 (i := 0) rfl) rfl
theorem dX6_go_21 : decode cX6_go 21 = Except.ok (Instr.istore_n 3, 1) := vyd_62 (vyb_cX6_go_2 (i := 1) rfl)
theorem dX6_go_22 : decode cX6_go 22 = Except.ok (Instr.aload_n 0, 1) := vyd_42 (vyb_cX6_go_2 (i := 2) rfl)
theorem dX6_go_23 : decode cX6_go 23 = Except.ok (Instr.iload_n 1, 1) := vyd_27 (vyb_cX6_go_2 (i := 3) rfl)
theorem dX6_go_24 : decode cX6_go 24 = Except.ok (Instr.iconst (-1), 1) := vyd_2 (vyb_cX6_go_2 (i := 4) rfl)
theorem dX6_go_25 : decode cX6_go 25 = Except.ok (Instr.invokevirtual 77, 3) := vyd_182 (vyb_cX6_go_2 (i := 5) rfl) (vyb_cX6_go_2 (i := 6) rfl) (vyb_cX6_go_2 (i := 7) rfl) rfl
theorem dX6_go_28 : decode cX6_go 28 = Except.ok (Instr.iload_n 3, 1) := vyd_29 (vyb_cX6_go_2 (i := 8) rfl)
theorem dX6_go_29 : decode cX6_go 29 = Except.ok (Instr.ireturn, 1) := vyd_172 (vyb_cX6_go_2 (i := 9) rfl)
theorem vyb_cX6_tear_0 {i : Nat} {b : UInt8} (h : ([0x2a, 0xb4, 0x00, 0x10, 0xb6, 0x00, 0x54, 0xb1] : List UInt8)[i]? = some b) : vy_8 cX6_tear (0 + i) b := vy_in (n := 8) (by decide +kernel) h
theorem dX6_tear_0 : decode cX6_tear 0 = Except.ok (Instr.aload_n 0, 1) := vyd_42 (vyb_cX6_tear_0 (i := 0) rfl)
theorem dX6_tear_1 : decode cX6_tear 1 = Except.ok (Instr.getfield 16, 3) := vyd_180 (vyb_cX6_tear_0 (i := 1) rfl) (vyb_cX6_tear_0 (i := 2) rfl) (vyb_cX6_tear_0 (i := 3) rfl) rfl
theorem dX6_tear_4 : decode cX6_tear 4 = Except.ok (Instr.invokevirtual 84, 3) := vyd_182 (vyb_cX6_tear_0 (i := 4) rfl) (vyb_cX6_tear_0 (i := 5) rfl) (vyb_cX6_tear_0 (i := 6) rfl) rfl
theorem dX6_tear_7 : decode cX6_tear 7 = Except.ok (Instr.return_, 1) := vyd_177 (vyb_cX6_tear_0 (i := 7) rfl)
theorem vyb_cX6_slip_0 {i : Nat} {b : UInt8} (h : ([0x2a, 0xb4, 0x00, 0x10, 0xb6, 0x00, 0x34, 0x10, 0x0c, 0xa0] : List UInt8)[i]? = some b) : vy_8 cX6_slip (0 + i) b := vy_in (n := 10) (by decide +kernel) h
theorem vyb_cX6_slip_1 {i : Nat} {b : UInt8} (h : ([0x00, 0x0c, 0x2a, 0xb4, 0x00, 0x10, 0x03, 0xb6, 0x00, 0x51] : List UInt8)[i]? = some b) : vy_8 cX6_slip (10 + i) b := vy_in (n := 10) (by decide +kernel) h
theorem vyb_cX6_slip_2 {i : Nat} {b : UInt8} (h : ([0x57, 0x2a, 0xb4, 0x00, 0x10, 0x11, 0x03, 0xe8, 0x07, 0x1b] : List UInt8)[i]? = some b) : vy_8 cX6_slip (20 + i) b := vy_in (n := 10) (by decide +kernel) h
theorem vyb_cX6_slip_3 {i : Nat} {b : UInt8} (h : ([0x68, 0x05, 0x1c, 0xb8, 0x00, 0x57, 0x68, 0x60, 0x1d, 0xb8] : List UInt8)[i]? = some b) : vy_8 cX6_slip (30 + i) b := vy_in (n := 10) (by decide +kernel) h
theorem vyb_cX6_slip_4 {i : Nat} {b : UInt8} (h : ([0x00, 0x57, 0x60, 0x68, 0x15, 0x04, 0x60, 0xb8, 0x00, 0x46] : List UInt8)[i]? = some b) : vy_8 cX6_slip (40 + i) b := vy_in (n := 10) (by decide +kernel) h
theorem vyb_cX6_slip_5 {i : Nat} {b : UInt8} (h : ([0xb6, 0x00, 0x21, 0x57, 0xb1] : List UInt8)[i]? = some b) : vy_8 cX6_slip (50 + i) b := vy_in (n := 5) (by decide +kernel) h
theorem dX6_slip_0 : decode cX6_slip 0 = Except.ok (Instr.aload_n 0, 1) := vyd_42 (vyb_cX6_slip_0 (i := 0) rfl)
theorem dX6_slip_1 : decode cX6_slip 1 = Except.ok (Instr.getfield 16, 3) := vyd_180 (vyb_cX6_slip_0 (i := 1) rfl) (vyb_cX6_slip_0 (i := 2) rfl) (vyb_cX6_slip_0 (i := 3) rfl) rfl
theorem dX6_slip_4 : decode cX6_slip 4 = Except.ok (Instr.invokevirtual 52, 3) := vyd_182 (vyb_cX6_slip_0 (i := 4) rfl) (vyb_cX6_slip_0 (i := 5) rfl) (vyb_cX6_slip_0 (i := 6) rfl) rfl
theorem dX6_slip_7 : decode cX6_slip 7 = Except.ok (Instr.bipush 12, 2) := vyd_16 (vyb_cX6_slip_0 (i := 7) rfl) (vyb_cX6_slip_0 (i := 8) rfl) (by decide +kernel)
theorem dX6_slip_9 : decode cX6_slip 9 = Except.ok (Instr.if_icmp .ne 12, 3) := vyd_160 (vyb_cX6_slip_0 (i := 9) rfl) (vyb_cX6_slip_1 (i := 0) rfl) (vyb_cX6_slip_1 (i := 1) rfl) (by decide +kernel)
theorem dX6_slip_12 : decode cX6_slip 12 = Except.ok (Instr.aload_n 0, 1) := vyd_42 (vyb_cX6_slip_1 (i := 2) rfl)
theorem dX6_slip_13 : decode cX6_slip 13 = Except.ok (Instr.getfield 16, 3) := vyd_180 (vyb_cX6_slip_1 (i := 3) rfl) (vyb_cX6_slip_1 (i := 4) rfl) (vyb_cX6_slip_1 (i := 5) rfl) rfl
theorem dX6_slip_16 : decode cX6_slip 16 = Except.ok (Instr.iconst 0, 1) := vyd_3 (vyb_cX6_slip_1 (i := 6) rfl)
theorem dX6_slip_17 : decode cX6_slip 17 = Except.ok (Instr.invokevirtual 81, 3) := vyd_182 (vyb_cX6_slip_1 (i := 7) rfl) (vyb_cX6_slip_1 (i := 8) rfl) (vyb_cX6_slip_1 (i := 9) rfl) rfl
theorem dX6_slip_20 : decode cX6_slip 20 = Except.ok (Instr.pop, 1) := vyd_87 (vyb_cX6_slip_2 (i := 0) rfl)
theorem dX6_slip_21 : decode cX6_slip 21 = Except.ok (Instr.aload_n 0, 1) := vyd_42 (vyb_cX6_slip_2 (i := 1) rfl)
theorem dX6_slip_22 : decode cX6_slip 22 = Except.ok (Instr.getfield 16, 3) := vyd_180 (vyb_cX6_slip_2 (i := 2) rfl) (vyb_cX6_slip_2 (i := 3) rfl) (vyb_cX6_slip_2 (i := 4) rfl) rfl
theorem dX6_slip_25 : decode cX6_slip 25 = Except.ok (Instr.sipush 1000, 3) := vyd_17 (vyb_cX6_slip_2 (i := 5) rfl) (vyb_cX6_slip_2 (i := 6) rfl) (vyb_cX6_slip_2 (i := 7) rfl) (by decide +kernel)
theorem dX6_slip_28 : decode cX6_slip 28 = Except.ok (Instr.iconst 4, 1) := vyd_7 (vyb_cX6_slip_2 (i := 8) rfl)
theorem dX6_slip_29 : decode cX6_slip 29 = Except.ok (Instr.iload_n 1, 1) := vyd_27 (vyb_cX6_slip_2 (i := 9) rfl)
theorem dX6_slip_30 : decode cX6_slip 30 = Except.ok (Instr.imul, 1) := vyd_104 (vyb_cX6_slip_3 (i := 0) rfl)
theorem dX6_slip_31 : decode cX6_slip 31 = Except.ok (Instr.iconst 2, 1) := vyd_5 (vyb_cX6_slip_3 (i := 1) rfl)
theorem dX6_slip_32 : decode cX6_slip 32 = Except.ok (Instr.iload_n 2, 1) := vyd_28 (vyb_cX6_slip_3 (i := 2) rfl)
theorem dX6_slip_33 : decode cX6_slip 33 = Except.ok (Instr.invokestatic 87, 3) := vyd_184 (vyb_cX6_slip_3 (i := 3) rfl) (vyb_cX6_slip_3 (i := 4) rfl) (vyb_cX6_slip_3 (i := 5) rfl) rfl
theorem dX6_slip_36 : decode cX6_slip 36 = Except.ok (Instr.imul, 1) := vyd_104 (vyb_cX6_slip_3 (i := 6) rfl)
theorem dX6_slip_37 : decode cX6_slip 37 = Except.ok (Instr.iadd, 1) := vyd_96 (vyb_cX6_slip_3 (i := 7) rfl)
theorem dX6_slip_38 : decode cX6_slip 38 = Except.ok (Instr.iload_n 3, 1) := vyd_29 (vyb_cX6_slip_3 (i := 8) rfl)
theorem dX6_slip_39 : decode cX6_slip 39 = Except.ok (Instr.invokestatic 87, 3) := vyd_184 (vyb_cX6_slip_3 (i := 9) rfl) (vyb_cX6_slip_4 (i := 0) rfl) (vyb_cX6_slip_4 (i := 1) rfl) rfl
theorem dX6_slip_42 : decode cX6_slip 42 = Except.ok (Instr.iadd, 1) := vyd_96 (vyb_cX6_slip_4 (i := 2) rfl)
theorem dX6_slip_43 : decode cX6_slip 43 = Except.ok (Instr.imul, 1) := vyd_104 (vyb_cX6_slip_4 (i := 3) rfl)
theorem dX6_slip_44 : decode cX6_slip 44 = Except.ok (Instr.iload 4, 2) := vyd_21 (vyb_cX6_slip_4 (i := 4) rfl) (vyb_cX6_slip_4 (i := 5) rfl) rfl
theorem dX6_slip_46 : decode cX6_slip 46 = Except.ok (Instr.iadd, 1) := vyd_96 (vyb_cX6_slip_4 (i := 6) rfl)
theorem dX6_slip_47 : decode cX6_slip 47 = Except.ok (Instr.invokestatic 70, 3) := vyd_184 (vyb_cX6_slip_4 (i := 7) rfl) (vyb_cX6_slip_4 (i := 8) rfl) (vyb_cX6_slip_4 (i := 9) rfl) rfl
theorem dX6_slip_50 : decode cX6_slip 50 = Except.ok (Instr.invokevirtual 33, 3) := vyd_182 (vyb_cX6_slip_5 (i := 0) rfl) (vyb_cX6_slip_5 (i := 1) rfl) (vyb_cX6_slip_5 (i := 2) rfl) rfl
theorem dX6_slip_53 : decode cX6_slip 53 = Except.ok (Instr.pop, 1) := vyd_87 (vyb_cX6_slip_5 (i := 3) rfl)
theorem dX6_slip_54 : decode cX6_slip 54 = Except.ok (Instr.return_, 1) := vyd_177 (vyb_cX6_slip_5 (i := 4) rfl)
theorem vyb_cX6_stepIn_0 {i : Nat} {b : UInt8} (h : ([0x2a, 0x1b, 0x1c, 0x99, 0x00, 0x0b, 0x2a, 0x1b, 0xb6, 0x00] : List UInt8)[i]? = some b) : vy_8 cX6_stepIn (0 + i) b := vy_in (n := 10) (by decide +kernel) h
theorem vyb_cX6_stepIn_1 {i : Nat} {b : UInt8} (h : ([0x5b, 0xa7, 0x00, 0x04, 0x03, 0x1d, 0xb6, 0x00, 0x5e, 0x2a] : List UInt8)[i]? = some b) : vy_8 cX6_stepIn (10 + i) b := vy_in (n := 10) (by decide +kernel) h
theorem vyb_cX6_stepIn_2 {i : Nat} {b : UInt8} (h : ([0x1b, 0x1c, 0x04, 0x1d, 0xb6, 0x00, 0x62, 0xb1] : List UInt8)[i]? = some b) : vy_8 cX6_stepIn (20 + i) b := vy_in (n := 8) (by decide +kernel) h
theorem dX6_stepIn_0 : decode cX6_stepIn 0 = Except.ok (Instr.aload_n 0, 1) := vyd_42 (vyb_cX6_stepIn_0 (i := 0) rfl)
theorem dX6_stepIn_1 : decode cX6_stepIn 1 = Except.ok (Instr.iload_n 1, 1) := vyd_27 (vyb_cX6_stepIn_0 (i := 1) rfl)
theorem dX6_stepIn_2 : decode cX6_stepIn 2 = Except.ok (Instr.iload_n 2, 1) := vyd_28 (vyb_cX6_stepIn_0 (i := 2) rfl)
theorem dX6_stepIn_3 : decode cX6_stepIn 3 = Except.ok (Instr.ifCond .eq 11, 3) := vyd_153 (vyb_cX6_stepIn_0 (i := 3) rfl) (vyb_cX6_stepIn_0 (i := 4) rfl) (vyb_cX6_stepIn_0 (i := 5) rfl) (by decide +kernel)
theorem dX6_stepIn_6 : decode cX6_stepIn 6 = Except.ok (Instr.aload_n 0, 1) := vyd_42 (vyb_cX6_stepIn_0 (i := 6) rfl)
theorem dX6_stepIn_7 : decode cX6_stepIn 7 = Except.ok (Instr.iload_n 1, 1) := vyd_27 (vyb_cX6_stepIn_0 (i := 7) rfl)
theorem dX6_stepIn_8 : decode cX6_stepIn 8 = Except.ok (Instr.invokevirtual 91, 3) := vyd_182 (vyb_cX6_stepIn_0 (i := 8) rfl) (vyb_cX6_stepIn_0 (i := 9) rfl) (vyb_cX6_stepIn_1 (i := 0) rfl) rfl
theorem dX6_stepIn_11 : decode cX6_stepIn 11 = Except.ok (Instr.goto 4, 3) := vyd_167 (vyb_cX6_stepIn_1 (i := 1) rfl) (vyb_cX6_stepIn_1 (i := 2) rfl) (vyb_cX6_stepIn_1 (i := 3) rfl) (by decide +kernel)
theorem dX6_stepIn_14 : decode cX6_stepIn 14 = Except.ok (Instr.iconst 0, 1) := vyd_3 (vyb_cX6_stepIn_1 (i := 4) rfl)
theorem dX6_stepIn_15 : decode cX6_stepIn 15 = Except.ok (Instr.iload_n 3, 1) := vyd_29 (vyb_cX6_stepIn_1 (i := 5) rfl)
theorem dX6_stepIn_16 : decode cX6_stepIn 16 = Except.ok (Instr.invokevirtual 94, 3) := vyd_182 (vyb_cX6_stepIn_1 (i := 6) rfl) (vyb_cX6_stepIn_1 (i := 7) rfl) (vyb_cX6_stepIn_1 (i := 8) rfl) rfl
theorem dX6_stepIn_19 : decode cX6_stepIn 19 = Except.ok (Instr.aload_n 0, 1) := vyd_42 (vyb_cX6_stepIn_1 (i := 9) rfl)
theorem dX6_stepIn_20 : decode cX6_stepIn 20 = Except.ok (Instr.iload_n 1, 1) := vyd_27 (vyb_cX6_stepIn_2 (i := 0) rfl)
theorem dX6_stepIn_21 : decode cX6_stepIn 21 = Except.ok (Instr.iload_n 2, 1) := vyd_28 (vyb_cX6_stepIn_2 (i := 1) rfl)
theorem dX6_stepIn_22 : decode cX6_stepIn 22 = Except.ok (Instr.iconst 1, 1) := vyd_4 (vyb_cX6_stepIn_2 (i := 2) rfl)
theorem dX6_stepIn_23 : decode cX6_stepIn 23 = Except.ok (Instr.iload_n 3, 1) := vyd_29 (vyb_cX6_stepIn_2 (i := 3) rfl)
theorem dX6_stepIn_24 : decode cX6_stepIn 24 = Except.ok (Instr.invokevirtual 98, 3) := vyd_182 (vyb_cX6_stepIn_2 (i := 4) rfl) (vyb_cX6_stepIn_2 (i := 5) rfl) (vyb_cX6_stepIn_2 (i := 6) rfl) rfl
theorem dX6_stepIn_27 : decode cX6_stepIn 27 = Except.ok (Instr.return_, 1) := vyd_177 (vyb_cX6_stepIn_2 (i := 7) rfl)
theorem vyb_cX6_stepOut_0 {i : Nat} {b : UInt8} (h : ([0x2a, 0x1b, 0x1c, 0x99, 0x00, 0x0d, 0x2a, 0x1b, 0xb6, 0x00] : List UInt8)[i]? = some b) : vy_8 cX6_stepOut (0 + i) b := vy_in (n := 10) (by decide +kernel) h
theorem vyb_cX6_stepOut_1 {i : Nat} {b : UInt8} (h : ([0x5b, 0x04, 0x64, 0xa7, 0x00, 0x04, 0x03, 0xb6, 0x00, 0x66] : List UInt8)[i]? = some b) : vy_8 cX6_stepOut (10 + i) b := vy_in (n := 10) (by decide +kernel) h
theorem vyb_cX6_stepOut_2 {i : Nat} {b : UInt8} (h : ([0x3e, 0x2a, 0x1b, 0x1c, 0x03, 0x1d, 0xb6, 0x00, 0x62, 0x1d] : List UInt8)[i]? = some b) : vy_8 cX6_stepOut (20 + i) b := vy_in (n := 10) (by decide +kernel) h
theorem vyb_cX6_stepOut_3 {i : Nat} {b : UInt8} (h : ([0xac] : List UInt8)[i]? = some b) : vy_8 cX6_stepOut (30 + i) b := vy_in (n := 1) (by decide +kernel) h
theorem dX6_stepOut_0 : decode cX6_stepOut 0 = Except.ok (Instr.aload_n 0, 1) := vyd_42 (vyb_cX6_stepOut_0 (i := 0) rfl)
theorem dX6_stepOut_1 : decode cX6_stepOut 1 = Except.ok (Instr.iload_n 1, 1) := vyd_27 (vyb_cX6_stepOut_0 (i := 1) rfl)
theorem dX6_stepOut_2 : decode cX6_stepOut 2 = Except.ok (Instr.iload_n 2, 1) := vyd_28 (vyb_cX6_stepOut_0 (i := 2) rfl)
theorem dX6_stepOut_3 : decode cX6_stepOut 3 = Except.ok (Instr.ifCond .eq 13, 3) := vyd_153 (vyb_cX6_stepOut_0 (i := 3) rfl) (vyb_cX6_stepOut_0 (i := 4) rfl) (vyb_cX6_stepOut_0 (i := 5) rfl) (by decide +kernel)
theorem dX6_stepOut_6 : decode cX6_stepOut 6 = Except.ok (Instr.aload_n 0, 1) := vyd_42 (vyb_cX6_stepOut_0 (i := 6) rfl)
theorem dX6_stepOut_7 : decode cX6_stepOut 7 = Except.ok (Instr.iload_n 1, 1) := vyd_27 (vyb_cX6_stepOut_0 (i := 7) rfl)
theorem dX6_stepOut_8 : decode cX6_stepOut 8 = Except.ok (Instr.invokevirtual 91, 3) := vyd_182 (vyb_cX6_stepOut_0 (i := 8) rfl) (vyb_cX6_stepOut_0 (i := 9) rfl) (vyb_cX6_stepOut_1 (i := 0) rfl) rfl
theorem dX6_stepOut_11 : decode cX6_stepOut 11 = Except.ok (Instr.iconst 1, 1) := vyd_4 (vyb_cX6_stepOut_1 (i := 1) rfl)
theorem dX6_stepOut_12 : decode cX6_stepOut 12 = Except.ok (Instr.isub, 1) := vyd_100 (vyb_cX6_stepOut_1 (i := 2) rfl)
theorem dX6_stepOut_13 : decode cX6_stepOut 13 = Except.ok (Instr.goto 4, 3) := vyd_167 (vyb_cX6_stepOut_1 (i := 3) rfl) (vyb_cX6_stepOut_1 (i := 4) rfl) (vyb_cX6_stepOut_1 (i := 5) rfl) (by decide +kernel)
theorem dX6_stepOut_16 : decode cX6_stepOut 16 = Except.ok (Instr.iconst 0, 1) := vyd_3 (vyb_cX6_stepOut_1 (i := 6) rfl)
theorem dX6_stepOut_17 : decode cX6_stepOut 17 = Except.ok (Instr.invokevirtual 102, 3) := vyd_182 (vyb_cX6_stepOut_1 (i := 7) rfl) (vyb_cX6_stepOut_1 (i := 8) rfl) (vyb_cX6_stepOut_1 (i := 9) rfl) rfl
theorem dX6_stepOut_20 : decode cX6_stepOut 20 = Except.ok (Instr.istore_n 3, 1) := vyd_62 (vyb_cX6_stepOut_2 (i := 0) rfl)
theorem dX6_stepOut_21 : decode cX6_stepOut 21 = Except.ok (Instr.aload_n 0, 1) := vyd_42 (vyb_cX6_stepOut_2 (i := 1) rfl)
theorem dX6_stepOut_22 : decode cX6_stepOut 22 = Except.ok (Instr.iload_n 1, 1) := vyd_27 (vyb_cX6_stepOut_2 (i := 2) rfl)
theorem dX6_stepOut_23 : decode cX6_stepOut 23 = Except.ok (Instr.iload_n 2, 1) := vyd_28 (vyb_cX6_stepOut_2 (i := 3) rfl)
theorem dX6_stepOut_24 : decode cX6_stepOut 24 = Except.ok (Instr.iconst 0, 1) := vyd_3 (vyb_cX6_stepOut_2 (i := 4) rfl)
theorem dX6_stepOut_25 : decode cX6_stepOut 25 = Except.ok (Instr.iload_n 3, 1) := vyd_29 (vyb_cX6_stepOut_2 (i := 5) rfl)
theorem dX6_stepOut_26 : decode cX6_stepOut 26 = Except.ok (Instr.invokevirtual 98, 3) := vyd_182 (vyb_cX6_stepOut_2 (i := 6) rfl) (vyb_cX6_stepOut_2 (i := 7) rfl) (vyb_cX6_stepOut_2 (i := 8) rfl) rfl
theorem dX6_stepOut_29 : decode cX6_stepOut 29 = Except.ok (Instr.iload_n 3, 1) := vyd_29 (vyb_cX6_stepOut_2 (i := 9) rfl)
theorem dX6_stepOut_30 : decode cX6_stepOut 30 = Except.ok (Instr.ireturn, 1) := vyd_172 (vyb_cX6_stepOut_3 (i := 0) rfl)
theorem vyb_cX6_mayNot_0 {i : Nat} {b : UInt8} (h : ([0x2a, 0x1b, 0xb8, 0x00, 0x6a, 0x04, 0xb6, 0x00, 0x6e, 0x9a] : List UInt8)[i]? = some b) : vy_8 cX6_mayNot (0 + i) b := vy_in (n := 10) (by decide +kernel) h
theorem vyb_cX6_mayNot_1 {i : Nat} {b : UInt8} (h : ([0x00, 0x2a, 0x2a, 0x1c, 0x1d, 0xb8, 0x00, 0x71, 0x05, 0xb6] : List UInt8)[i]? = some b) : vy_8 cX6_mayNot (10 + i) b := vy_in (n := 10) (by decide +kernel) h
theorem vyb_cX6_mayNot_2 {i : Nat} {b : UInt8} (h : ([0x00, 0x28, 0x9a, 0x00, 0x1d, 0x2a, 0x2a, 0x1b, 0xb6, 0x00] : List UInt8)[i]? = some b) : vy_8 cX6_mayNot (20 + i) b := vy_in (n := 10) (by decide +kernel) h
theorem vyb_cX6_mayNot_3 {i : Nat} {b : UInt8} (h : ([0x5b, 0x15, 0x04, 0x60, 0x10, 0x14, 0xa4, 0x00, 0x07, 0x04] : List UInt8)[i]? = some b) : vy_8 cX6_mayNot (30 + i) b := vy_in (n := 10) (by decide +kernel) h
theorem vyb_cX6_mayNot_4 {i : Nat} {b : UInt8} (h : ([0xa7, 0x00, 0x04, 0x03, 0x06, 0xb6, 0x00, 0x28, 0x99, 0x00] : List UInt8)[i]? = some b) : vy_8 cX6_mayNot (40 + i) b := vy_in (n := 10) (by decide +kernel) h
theorem vyb_cX6_mayNot_5 {i : Nat} {b : UInt8} (h : ([0x07, 0x04, 0xa7, 0x00, 0x04, 0x03, 0xac] : List UInt8)[i]? = some b) : vy_8 cX6_mayNot (50 + i) b := vy_in (n := 7) (by decide +kernel) h
theorem dX6_mayNot_0 : decode cX6_mayNot 0 = Except.ok (Instr.aload_n 0, 1) := vyd_42 (vyb_cX6_mayNot_0 (i := 0) rfl)
theorem dX6_mayNot_1 : decode cX6_mayNot 1 = Except.ok (Instr.iload_n 1, 1) := vyd_27 (vyb_cX6_mayNot_0 (i := 1) rfl)
theorem dX6_mayNot_2 : decode cX6_mayNot 2 = Except.ok (Instr.invokestatic 106, 3) := vyd_184 (vyb_cX6_mayNot_0 (i := 2) rfl) (vyb_cX6_mayNot_0 (i := 3) rfl) (vyb_cX6_mayNot_0 (i := 4) rfl) rfl
theorem dX6_mayNot_5 : decode cX6_mayNot 5 = Except.ok (Instr.iconst 1, 1) := vyd_4 (vyb_cX6_mayNot_0 (i := 5) rfl)
theorem dX6_mayNot_6 : decode cX6_mayNot 6 = Except.ok (Instr.invokevirtual 110, 3) := vyd_182 (vyb_cX6_mayNot_0 (i := 6) rfl) (vyb_cX6_mayNot_0 (i := 7) rfl) (vyb_cX6_mayNot_0 (i := 8) rfl) rfl
theorem dX6_mayNot_9 : decode cX6_mayNot 9 = Except.ok (Instr.ifCond .ne 42, 3) := vyd_154 (vyb_cX6_mayNot_0 (i := 9) rfl) (vyb_cX6_mayNot_1 (i := 0) rfl) (vyb_cX6_mayNot_1 (i := 1) rfl) (by decide +kernel)
theorem dX6_mayNot_12 : decode cX6_mayNot 12 = Except.ok (Instr.aload_n 0, 1) := vyd_42 (vyb_cX6_mayNot_1 (i := 2) rfl)
theorem dX6_mayNot_13 : decode cX6_mayNot 13 = Except.ok (Instr.iload_n 2, 1) := vyd_28 (vyb_cX6_mayNot_1 (i := 3) rfl)
theorem dX6_mayNot_14 : decode cX6_mayNot 14 = Except.ok (Instr.iload_n 3, 1) := vyd_29 (vyb_cX6_mayNot_1 (i := 4) rfl)
theorem dX6_mayNot_15 : decode cX6_mayNot 15 = Except.ok (Instr.invokestatic 113, 3) := vyd_184 (vyb_cX6_mayNot_1 (i := 5) rfl) (vyb_cX6_mayNot_1 (i := 6) rfl) (vyb_cX6_mayNot_1 (i := 7) rfl) rfl
theorem dX6_mayNot_18 : decode cX6_mayNot 18 = Except.ok (Instr.iconst 2, 1) := vyd_5 (vyb_cX6_mayNot_1 (i := 8) rfl)
theorem dX6_mayNot_19 : decode cX6_mayNot 19 = Except.ok (Instr.invokevirtual 40, 3) := vyd_182 (vyb_cX6_mayNot_1 (i := 9) rfl) (vyb_cX6_mayNot_2 (i := 0) rfl) (vyb_cX6_mayNot_2 (i := 1) rfl) rfl
theorem dX6_mayNot_22 : decode cX6_mayNot 22 = Except.ok (Instr.ifCond .ne 29, 3) := vyd_154 (vyb_cX6_mayNot_2 (i := 2) rfl) (vyb_cX6_mayNot_2 (i := 3) rfl) (vyb_cX6_mayNot_2 (i := 4) rfl) (by decide +kernel)
theorem dX6_mayNot_25 : decode cX6_mayNot 25 = Except.ok (Instr.aload_n 0, 1) := vyd_42 (vyb_cX6_mayNot_2 (i := 5) rfl)
theorem dX6_mayNot_26 : decode cX6_mayNot 26 = Except.ok (Instr.aload_n 0, 1) := vyd_42 (vyb_cX6_mayNot_2 (i := 6) rfl)
theorem dX6_mayNot_27 : decode cX6_mayNot 27 = Except.ok (Instr.iload_n 1, 1) := vyd_27 (vyb_cX6_mayNot_2 (i := 7) rfl)
theorem dX6_mayNot_28 : decode cX6_mayNot 28 = Except.ok (Instr.invokevirtual 91, 3) := vyd_182 (vyb_cX6_mayNot_2 (i := 8) rfl) (vyb_cX6_mayNot_2 (i := 9) rfl) (vyb_cX6_mayNot_3 (i := 0) rfl) rfl
theorem dX6_mayNot_31 : decode cX6_mayNot 31 = Except.ok (Instr.iload 4, 2) := vyd_21 (vyb_cX6_mayNot_3 (i := 1) rfl) (vyb_cX6_mayNot_3 (i := 2) rfl) rfl
theorem dX6_mayNot_33 : decode cX6_mayNot 33 = Except.ok (Instr.iadd, 1) := vyd_96 (vyb_cX6_mayNot_3 (i := 3) rfl)
theorem dX6_mayNot_34 : decode cX6_mayNot 34 = Except.ok (Instr.bipush 20, 2) := vyd_16 (vyb_cX6_mayNot_3 (i := 4) rfl) (vyb_cX6_mayNot_3 (i := 5) rfl) (by decide +kernel)
theorem dX6_mayNot_36 : decode cX6_mayNot 36 = Except.ok (Instr.if_icmp .le 7, 3) := vyd_164 (vyb_cX6_mayNot_3 (i := 6) rfl) (vyb_cX6_mayNot_3 (i := 7) rfl) (vyb_cX6_mayNot_3 (i := 8) rfl) (by decide +kernel)
theorem dX6_mayNot_39 : decode cX6_mayNot 39 = Except.ok (Instr.iconst 1, 1) := vyd_4 (vyb_cX6_mayNot_3 (i := 9) rfl)
theorem dX6_mayNot_40 : decode cX6_mayNot 40 = Except.ok (Instr.goto 4, 3) := vyd_167 (vyb_cX6_mayNot_4 (i := 0) rfl) (vyb_cX6_mayNot_4 (i := 1) rfl) (vyb_cX6_mayNot_4 (i := 2) rfl) (by decide +kernel)
theorem dX6_mayNot_43 : decode cX6_mayNot 43 = Except.ok (Instr.iconst 0, 1) := vyd_3 (vyb_cX6_mayNot_4 (i := 3) rfl)
theorem dX6_mayNot_44 : decode cX6_mayNot 44 = Except.ok (Instr.iconst 3, 1) := vyd_6 (vyb_cX6_mayNot_4 (i := 4) rfl)
theorem dX6_mayNot_45 : decode cX6_mayNot 45 = Except.ok (Instr.invokevirtual 40, 3) := vyd_182 (vyb_cX6_mayNot_4 (i := 5) rfl) (vyb_cX6_mayNot_4 (i := 6) rfl) (vyb_cX6_mayNot_4 (i := 7) rfl) rfl
theorem dX6_mayNot_48 : decode cX6_mayNot 48 = Except.ok (Instr.ifCond .eq 7, 3) := vyd_153 (vyb_cX6_mayNot_4 (i := 8) rfl) (vyb_cX6_mayNot_4 (i := 9) rfl) (vyb_cX6_mayNot_5 (i := 0) rfl) (by decide +kernel)
theorem dX6_mayNot_51 : decode cX6_mayNot 51 = Except.ok (Instr.iconst 1, 1) := vyd_4 (vyb_cX6_mayNot_5 (i := 1) rfl)
theorem dX6_mayNot_52 : decode cX6_mayNot 52 = Except.ok (Instr.goto 4, 3) := vyd_167 (vyb_cX6_mayNot_5 (i := 2) rfl) (vyb_cX6_mayNot_5 (i := 3) rfl) (vyb_cX6_mayNot_5 (i := 4) rfl) (by decide +kernel)
theorem dX6_mayNot_55 : decode cX6_mayNot 55 = Except.ok (Instr.iconst 0, 1) := vyd_3 (vyb_cX6_mayNot_5 (i := 5) rfl)
theorem dX6_mayNot_56 : decode cX6_mayNot 56 = Except.ok (Instr.ireturn, 1) := vyd_172 (vyb_cX6_mayNot_5 (i := 6) rfl)
theorem vyb_cX6_isBarred_0 {i : Nat} {b : UInt8} (h : ([0x1a, 0x9a, 0x00, 0x0b, 0x1b, 0x9a, 0x00, 0x07, 0x04, 0xa7] : List UInt8)[i]? = some b) : vy_8 cX6_isBarred (0 + i) b := vy_in (n := 10) (by decide +kernel) h
theorem vyb_cX6_isBarred_1 {i : Nat} {b : UInt8} (h : ([0x00, 0x04, 0x03, 0xac] : List UInt8)[i]? = some b) : vy_8 cX6_isBarred (10 + i) b := vy_in (n := 4) (by decide +kernel) h
theorem dX6_isBarred_0 : decode cX6_isBarred 0 = Except.ok (Instr.iload_n 0, 1) := vyd_26 (vyb_cX6_isBarred_0 (i := 0) rfl)
theorem dX6_isBarred_1 : decode cX6_isBarred 1 = Except.ok (Instr.ifCond .ne 11, 3) := vyd_154 (vyb_cX6_isBarred_0 (i := 1) rfl) (vyb_cX6_isBarred_0 (i := 2) rfl) (vyb_cX6_isBarred_0 (i := 3) rfl) (by decide +kernel)
theorem dX6_isBarred_4 : decode cX6_isBarred 4 = Except.ok (Instr.iload_n 1, 1) := vyd_27 (vyb_cX6_isBarred_0 (i := 4) rfl)
theorem dX6_isBarred_5 : decode cX6_isBarred 5 = Except.ok (Instr.ifCond .ne 7, 3) := vyd_154 (vyb_cX6_isBarred_0 (i := 5) rfl) (vyb_cX6_isBarred_0 (i := 6) rfl) (vyb_cX6_isBarred_0 (i := 7) rfl) (by decide +kernel)
theorem dX6_isBarred_8 : decode cX6_isBarred 8 = Except.ok (Instr.iconst 1, 1) := vyd_4 (vyb_cX6_isBarred_0 (i := 8) rfl)
theorem dX6_isBarred_9 : decode cX6_isBarred 9 = Except.ok (Instr.goto 4, 3) := vyd_167 (vyb_cX6_isBarred_0 (i := 9) rfl) (vyb_cX6_isBarred_1 (i := 0) rfl) (vyb_cX6_isBarred_1 (i := 1) rfl) (by decide +kernel)
theorem dX6_isBarred_12 : decode cX6_isBarred 12 = Except.ok (Instr.iconst 0, 1) := vyd_3 (vyb_cX6_isBarred_1 (i := 2) rfl)
theorem dX6_isBarred_13 : decode cX6_isBarred 13 = Except.ok (Instr.ireturn, 1) := vyd_172 (vyb_cX6_isBarred_1 (i := 3) rfl)
theorem vyb_cX6_join_0 {i : Nat} {b : UInt8} (h : ([0x2a, 0x1b, 0x1d, 0x15, 0x04, 0x04, 0xb6, 0x00, 0x75, 0x99] : List UInt8)[i]? = some b) : vy_8 cX6_join (0 + i) b := vy_in (n := 10) (by decide +kernel) h
theorem vyb_cX6_join_1 {i : Nat} {b : UInt8} (h : ([0x00, 0x05, 0x03, 0xac, 0x1b, 0x1d, 0x15, 0x04, 0xb8, 0x00] : List UInt8)[i]? = some b) : vy_8 cX6_join (10 + i) b := vy_in (n := 10) (by decide +kernel) h
theorem vyb_cX6_join_2 {i : Nat} {b : UInt8} (h : ([0x79, 0xb8, 0x00, 0x7c, 0x99, 0x00, 0x06, 0x10, 0xf7, 0xac] : List UInt8)[i]? = some b) : vy_8 cX6_join (20 + i) b := vy_in (n := 10) (by decide +kernel) h
theorem vyb_cX6_join_3 {i : Nat} {b : UInt8} (h : ([0x2a, 0x1b, 0x1c, 0x1d, 0x15, 0x04, 0xb8, 0x00, 0x79, 0xb6] : List UInt8)[i]? = some b) : vy_8 cX6_join (30 + i) b := vy_in (n := 10) (by decide +kernel) h
theorem vyb_cX6_join_4 {i : Nat} {b : UInt8} (h : ([0x00, 0x7f, 0x2a, 0x1b, 0xb6, 0x00, 0x5b, 0xac] : List UInt8)[i]? = some b) : vy_8 cX6_join (40 + i) b := vy_in (n := 8) (by decide +kernel) h
theorem dX6_join_0 : decode cX6_join 0 = Except.ok (Instr.aload_n 0, 1) := vyd_42 (vyb_cX6_join_0 (i := 0) rfl)
theorem dX6_join_1 : decode cX6_join 1 = Except.ok (Instr.iload_n 1, 1) := vyd_27 (vyb_cX6_join_0 (i := 1) rfl)
theorem dX6_join_2 : decode cX6_join 2 = Except.ok (Instr.iload_n 3, 1) := vyd_29 (vyb_cX6_join_0 (i := 2) rfl)
theorem dX6_join_3 : decode cX6_join 3 = Except.ok (Instr.iload 4, 2) := vyd_21 (vyb_cX6_join_0 (i := 3) rfl) (vyb_cX6_join_0 (i := 4) rfl) rfl
theorem dX6_join_5 : decode cX6_join 5 = Except.ok (Instr.iconst 1, 1) := vyd_4 (vyb_cX6_join_0 (i := 5) rfl)
theorem dX6_join_6 : decode cX6_join 6 = Except.ok (Instr.invokevirtual 117, 3) := vyd_182 (vyb_cX6_join_0 (i := 6) rfl) (vyb_cX6_join_0 (i := 7) rfl) (vyb_cX6_join_0 (i := 8) rfl) rfl
theorem dX6_join_9 : decode cX6_join 9 = Except.ok (Instr.ifCond .eq 5, 3) := vyd_153 (vyb_cX6_join_0 (i := 9) rfl) (vyb_cX6_join_1 (i := 0) rfl) (vyb_cX6_join_1 (i := 1) rfl) (by decide +kernel)
theorem dX6_join_12 : decode cX6_join 12 = Except.ok (Instr.iconst 0, 1) := vyd_3 (vyb_cX6_join_1 (i := 2) rfl)
theorem dX6_join_13 : decode cX6_join 13 = Except.ok (Instr.ireturn, 1) := vyd_172 (vyb_cX6_join_1 (i := 3) rfl)
theorem dX6_join_14 : decode cX6_join 14 = Except.ok (Instr.iload_n 1, 1) := vyd_27 (vyb_cX6_join_1 (i := 4) rfl)
theorem dX6_join_15 : decode cX6_join 15 = Except.ok (Instr.iload_n 3, 1) := vyd_29 (vyb_cX6_join_1 (i := 5) rfl)
theorem dX6_join_16 : decode cX6_join 16 = Except.ok (Instr.iload 4, 2) := vyd_21 (vyb_cX6_join_1 (i := 6) rfl) (vyb_cX6_join_1 (i := 7) rfl) rfl
theorem dX6_join_18 : decode cX6_join 18 = Except.ok (Instr.invokestatic 121, 3) := vyd_184 (vyb_cX6_join_1 (i := 8) rfl) (vyb_cX6_join_1 (i := 9) rfl) (vyb_cX6_join_2 (i := 0) rfl) rfl
theorem dX6_join_21 : decode cX6_join 21 = Except.ok (Instr.invokestatic 124, 3) := vyd_184 (vyb_cX6_join_2 (i := 1) rfl) (vyb_cX6_join_2 (i := 2) rfl) (vyb_cX6_join_2 (i := 3) rfl) rfl
theorem dX6_join_24 : decode cX6_join 24 = Except.ok (Instr.ifCond .eq 6, 3) := vyd_153 (vyb_cX6_join_2 (i := 4) rfl) (vyb_cX6_join_2 (i := 5) rfl) (vyb_cX6_join_2 (i := 6) rfl) (by decide +kernel)
theorem dX6_join_27 : decode cX6_join 27 = Except.ok (Instr.bipush (-9), 2) := vyd_16 (vyb_cX6_join_2 (i := 7) rfl) (vyb_cX6_join_2 (i := 8) rfl) (by decide +kernel)
theorem dX6_join_29 : decode cX6_join 29 = Except.ok (Instr.ireturn, 1) := vyd_172 (vyb_cX6_join_2 (i := 9) rfl)
theorem dX6_join_30 : decode cX6_join 30 = Except.ok (Instr.aload_n 0, 1) := vyd_42 (vyb_cX6_join_3 (i := 0) rfl)
theorem dX6_join_31 : decode cX6_join 31 = Except.ok (Instr.iload_n 1, 1) := vyd_27 (vyb_cX6_join_3 (i := 1) rfl)
theorem dX6_join_32 : decode cX6_join 32 = Except.ok (Instr.iload_n 2, 1) := vyd_28 (vyb_cX6_join_3 (i := 2) rfl)
theorem dX6_join_33 : decode cX6_join 33 = Except.ok (Instr.iload_n 3, 1) := vyd_29 (vyb_cX6_join_3 (i := 3) rfl)
theorem dX6_join_34 : decode cX6_join 34 = Except.ok (Instr.iload 4, 2) := vyd_21 (vyb_cX6_join_3 (i := 4) rfl) (vyb_cX6_join_3 (i := 5) rfl) rfl
theorem dX6_join_36 : decode cX6_join 36 = Except.ok (Instr.invokestatic 121, 3) := vyd_184 (vyb_cX6_join_3 (i := 6) rfl) (vyb_cX6_join_3 (i := 7) rfl) (vyb_cX6_join_3 (i := 8) rfl) rfl
theorem dX6_join_39 : decode cX6_join 39 = Except.ok (Instr.invokevirtual 127, 3) := vyd_182 (vyb_cX6_join_3 (i := 9) rfl) (vyb_cX6_join_4 (i := 0) rfl) (vyb_cX6_join_4 (i := 1) rfl) rfl
theorem dX6_join_42 : decode cX6_join 42 = Except.ok (Instr.aload_n 0, 1) := vyd_42 (vyb_cX6_join_4 (i := 2) rfl)
theorem dX6_join_43 : decode cX6_join 43 = Except.ok (Instr.iload_n 1, 1) := vyd_27 (vyb_cX6_join_4 (i := 3) rfl)
theorem dX6_join_44 : decode cX6_join 44 = Except.ok (Instr.invokevirtual 91, 3) := vyd_182 (vyb_cX6_join_4 (i := 4) rfl) (vyb_cX6_join_4 (i := 5) rfl) (vyb_cX6_join_4 (i := 6) rfl) rfl
theorem dX6_join_47 : decode cX6_join 47 = Except.ok (Instr.ireturn, 1) := vyd_172 (vyb_cX6_join_4 (i := 7) rfl)
theorem vyb_cX6_offer_0 {i : Nat} {b : UInt8} (h : ([0x2a, 0x1b, 0x1d, 0x15, 0x04, 0x04, 0xb6, 0x00, 0x75, 0x9a] : List UInt8)[i]? = some b) : vy_8 cX6_offer (0 + i) b := vy_in (n := 10) (by decide +kernel) h
theorem vyb_cX6_offer_1 {i : Nat} {b : UInt8} (h : ([0x00, 0x10, 0x1b, 0x1d, 0x15, 0x04, 0xb8, 0x00, 0x79, 0xb8] : List UInt8)[i]? = some b) : vy_8 cX6_offer (10 + i) b := vy_in (n := 10) (by decide +kernel) h
theorem vyb_cX6_offer_2 {i : Nat} {b : UInt8} (h : ([0x00, 0x7c, 0x99, 0x00, 0x05, 0x03, 0xac, 0x2a, 0x1b, 0x1c] : List UInt8)[i]? = some b) : vy_8 cX6_offer (20 + i) b := vy_in (n := 10) (by decide +kernel) h
theorem vyb_cX6_offer_3 {i : Nat} {b : UInt8} (h : ([0x1d, 0x15, 0x04, 0xb8, 0x00, 0x79, 0xb6, 0x00, 0x7f, 0x04] : List UInt8)[i]? = some b) : vy_8 cX6_offer (30 + i) b := vy_in (n := 10) (by decide +kernel) h
theorem vyb_cX6_offer_4 {i : Nat} {b : UInt8} (h : ([0xac] : List UInt8)[i]? = some b) : vy_8 cX6_offer (40 + i) b := vy_in (n := 1) (by decide +kernel) h
theorem dX6_offer_0 : decode cX6_offer 0 = Except.ok (Instr.aload_n 0, 1) := vyd_42 (vyb_cX6_offer_0 (i := 0) rfl)
theorem dX6_offer_1 : decode cX6_offer 1 = Except.ok (Instr.iload_n 1, 1) := vyd_27 (vyb_cX6_offer_0 (i := 1) rfl)
theorem dX6_offer_2 : decode cX6_offer 2 = Except.ok (Instr.iload_n 3, 1) := vyd_29 (vyb_cX6_offer_0 (i := 2) rfl)
theorem dX6_offer_3 : decode cX6_offer 3 = Except.ok (Instr.iload 4, 2) := vyd_21 (vyb_cX6_offer_0 (i := 3) rfl) (vyb_cX6_offer_0 (i := 4) rfl) rfl
theorem dX6_offer_5 : decode cX6_offer 5 = Except.ok (Instr.iconst 1, 1) := vyd_4 (vyb_cX6_offer_0 (i := 5) rfl)
theorem dX6_offer_6 : decode cX6_offer 6 = Except.ok (Instr.invokevirtual 117, 3) := vyd_182 (vyb_cX6_offer_0 (i := 6) rfl) (vyb_cX6_offer_0 (i := 7) rfl) (vyb_cX6_offer_0 (i := 8) rfl) rfl
theorem dX6_offer_9 : decode cX6_offer 9 = Except.ok (Instr.ifCond .ne 16, 3) := vyd_154 (vyb_cX6_offer_0 (i := 9) rfl) (vyb_cX6_offer_1 (i := 0) rfl) (vyb_cX6_offer_1 (i := 1) rfl) (by decide +kernel)
theorem dX6_offer_12 : decode cX6_offer 12 = Except.ok (Instr.iload_n 1, 1) := vyd_27 (vyb_cX6_offer_1 (i := 2) rfl)
theorem dX6_offer_13 : decode cX6_offer 13 = Except.ok (Instr.iload_n 3, 1) := vyd_29 (vyb_cX6_offer_1 (i := 3) rfl)
theorem dX6_offer_14 : decode cX6_offer 14 = Except.ok (Instr.iload 4, 2) := vyd_21 (vyb_cX6_offer_1 (i := 4) rfl) (vyb_cX6_offer_1 (i := 5) rfl) rfl
theorem dX6_offer_16 : decode cX6_offer 16 = Except.ok (Instr.invokestatic 121, 3) := vyd_184 (vyb_cX6_offer_1 (i := 6) rfl) (vyb_cX6_offer_1 (i := 7) rfl) (vyb_cX6_offer_1 (i := 8) rfl) rfl
theorem dX6_offer_19 : decode cX6_offer 19 = Except.ok (Instr.invokestatic 124, 3) := vyd_184 (vyb_cX6_offer_1 (i := 9) rfl) (vyb_cX6_offer_2 (i := 0) rfl) (vyb_cX6_offer_2 (i := 1) rfl) rfl
theorem dX6_offer_22 : decode cX6_offer 22 = Except.ok (Instr.ifCond .eq 5, 3) := vyd_153 (vyb_cX6_offer_2 (i := 2) rfl) (vyb_cX6_offer_2 (i := 3) rfl) (vyb_cX6_offer_2 (i := 4) rfl) (by decide +kernel)
theorem dX6_offer_25 : decode cX6_offer 25 = Except.ok (Instr.iconst 0, 1) := vyd_3 (vyb_cX6_offer_2 (i := 5) rfl)
theorem dX6_offer_26 : decode cX6_offer 26 = Except.ok (Instr.ireturn, 1) := vyd_172 (vyb_cX6_offer_2 (i := 6) rfl)
theorem dX6_offer_27 : decode cX6_offer 27 = Except.ok (Instr.aload_n 0, 1) := vyd_42 (vyb_cX6_offer_2 (i := 7) rfl)
theorem dX6_offer_28 : decode cX6_offer 28 = Except.ok (Instr.iload_n 1, 1) := vyd_27 (vyb_cX6_offer_2 (i := 8) rfl)
theorem dX6_offer_29 : decode cX6_offer 29 = Except.ok (Instr.iload_n 2, 1) := vyd_28 (vyb_cX6_offer_2 (i := 9) rfl)
theorem dX6_offer_30 : decode cX6_offer 30 = Except.ok (Instr.iload_n 3, 1) := vyd_29 (vyb_cX6_offer_3 (i := 0) rfl)
theorem dX6_offer_31 : decode cX6_offer 31 = Except.ok (Instr.iload 4, 2) := vyd_21 (vyb_cX6_offer_3 (i := 1) rfl) (vyb_cX6_offer_3 (i := 2) rfl) rfl
theorem dX6_offer_33 : decode cX6_offer 33 = Except.ok (Instr.invokestatic 121, 3) := vyd_184 (vyb_cX6_offer_3 (i := 3) rfl) (vyb_cX6_offer_3 (i := 4) rfl) (vyb_cX6_offer_3 (i := 5) rfl) rfl
theorem dX6_offer_36 : decode cX6_offer 36 = Except.ok (Instr.invokevirtual 127, 3) := vyd_182 (vyb_cX6_offer_3 (i := 6) rfl) (vyb_cX6_offer_3 (i := 7) rfl) (vyb_cX6_offer_3 (i := 8) rfl) rfl
theorem dX6_offer_39 : decode cX6_offer 39 = Except.ok (Instr.iconst 1, 1) := vyd_4 (vyb_cX6_offer_3 (i := 9) rfl)
theorem dX6_offer_40 : decode cX6_offer 40 = Except.ok (Instr.ireturn, 1) := vyd_172 (vyb_cX6_offer_4 (i := 0) rfl)
theorem vyb_cX6_push_0 {i : Nat} {b : UInt8} (h : ([0x2a, 0x1b, 0x1c, 0x1d, 0x04, 0xb6, 0x00, 0x75, 0x99, 0x00] : List UInt8)[i]? = some b) : vy_8 cX6_push (0 + i) b := vy_in (n := 10) (by decide +kernel) h
theorem vyb_cX6_push_1 {i : Nat} {b : UInt8} (h : ([0x05, 0x03, 0xac, 0x1b, 0x1c, 0x1d, 0xb8, 0x00, 0x79, 0xb8] : List UInt8)[i]? = some b) : vy_8 cX6_push (10 + i) b := vy_in (n := 10) (by decide +kernel) h
theorem vyb_cX6_push_2 {i : Nat} {b : UInt8} (h : ([0x00, 0x7c, 0x99, 0x00, 0x06, 0x10, 0xf7, 0xac, 0x2a, 0x1b] : List UInt8)[i]? = some b) : vy_8 cX6_push (20 + i) b := vy_in (n := 10) (by decide +kernel) h
theorem vyb_cX6_push_3 {i : Nat} {b : UInt8} (h : ([0xb6, 0x00, 0x5b, 0x9a, 0x00, 0x07, 0x03, 0xa7, 0x00, 0x09] : List UInt8)[i]? = some b) : vy_8 cX6_push (30 + i) b := vy_in (n := 10) (by decide +kernel) h
theorem vyb_cX6_push_4 {i : Nat} {b : UInt8} (h : ([0x2a, 0x1b, 0x03, 0xb6, 0x00, 0x83, 0x36, 0x04, 0x2a, 0x1b] : List UInt8)[i]? = some b) : vy_8 cX6_push (40 + i) b := vy_in (n := 10) (by decide +kernel) h
theorem vyb_cX6_push_5 {i : Nat} {b : UInt8} (h : ([0x03, 0x1c, 0x1d, 0xb8, 0x00, 0x79, 0xb6, 0x00, 0x7f, 0x15] : List UInt8)[i]? = some b) : vy_8 cX6_push (50 + i) b := vy_in (n := 10) (by decide +kernel) h
theorem vyb_cX6_push_6 {i : Nat} {b : UInt8} (h : ([0x04, 0xac] : List UInt8)[i]? = some b) : vy_8 cX6_push (60 + i) b := vy_in (n := 2) (by decide +kernel) h
theorem dX6_push_0 : decode cX6_push 0 = Except.ok (Instr.aload_n 0, 1) := vyd_42 (vyb_cX6_push_0 (i := 0) rfl)
theorem dX6_push_1 : decode cX6_push 1 = Except.ok (Instr.iload_n 1, 1) := vyd_27 (vyb_cX6_push_0 (i := 1) rfl)
theorem dX6_push_2 : decode cX6_push 2 = Except.ok (Instr.iload_n 2, 1) := vyd_28 (vyb_cX6_push_0 (i := 2) rfl)
theorem dX6_push_3 : decode cX6_push 3 = Except.ok (Instr.iload_n 3, 1) := vyd_29 (vyb_cX6_push_0 (i := 3) rfl)
theorem dX6_push_4 : decode cX6_push 4 = Except.ok (Instr.iconst 1, 1) := vyd_4 (vyb_cX6_push_0 (i := 4) rfl)
theorem dX6_push_5 : decode cX6_push 5 = Except.ok (Instr.invokevirtual 117, 3) := vyd_182 (vyb_cX6_push_0 (i := 5) rfl) (vyb_cX6_push_0 (i := 6) rfl) (vyb_cX6_push_0 (i := 7) rfl) rfl
theorem dX6_push_8 : decode cX6_push 8 = Except.ok (Instr.ifCond .eq 5, 3) := vyd_153 (vyb_cX6_push_0 (i := 8) rfl) (vyb_cX6_push_0 (i := 9) rfl) (vyb_cX6_push_1 (i := 0) rfl) (by decide +kernel)
theorem dX6_push_11 : decode cX6_push 11 = Except.ok (Instr.iconst 0, 1) := vyd_3 (vyb_cX6_push_1 (i := 1) rfl)
theorem dX6_push_12 : decode cX6_push 12 = Except.ok (Instr.ireturn, 1) := vyd_172 (vyb_cX6_push_1 (i := 2) rfl)
theorem dX6_push_13 : decode cX6_push 13 = Except.ok (Instr.iload_n 1, 1) := vyd_27 (vyb_cX6_push_1 (i := 3) rfl)
theorem dX6_push_14 : decode cX6_push 14 = Except.ok (Instr.iload_n 2, 1) := vyd_28 (vyb_cX6_push_1 (i := 4) rfl)
theorem dX6_push_15 : decode cX6_push 15 = Except.ok (Instr.iload_n 3, 1) := vyd_29 (vyb_cX6_push_1 (i := 5) rfl)
theorem dX6_push_16 : decode cX6_push 16 = Except.ok (Instr.invokestatic 121, 3) := vyd_184 (vyb_cX6_push_1 (i := 6) rfl) (vyb_cX6_push_1 (i := 7) rfl) (vyb_cX6_push_1 (i := 8) rfl) rfl
theorem dX6_push_19 : decode cX6_push 19 = Except.ok (Instr.invokestatic 124, 3) := vyd_184 (vyb_cX6_push_1 (i := 9) rfl) (vyb_cX6_push_2 (i := 0) rfl) (vyb_cX6_push_2 (i := 1) rfl) rfl
theorem dX6_push_22 : decode cX6_push 22 = Except.ok (Instr.ifCond .eq 6, 3) := vyd_153 (vyb_cX6_push_2 (i := 2) rfl) (vyb_cX6_push_2 (i := 3) rfl) (vyb_cX6_push_2 (i := 4) rfl) (by decide +kernel)
theorem dX6_push_25 : decode cX6_push 25 = Except.ok (Instr.bipush (-9), 2) := vyd_16 (vyb_cX6_push_2 (i := 5) rfl) (vyb_cX6_push_2 (i := 6) rfl) (by decide +kernel)
theorem dX6_push_27 : decode cX6_push 27 = Except.ok (Instr.ireturn, 1) := vyd_172 (vyb_cX6_push_2 (i := 7) rfl)
theorem dX6_push_28 : decode cX6_push 28 = Except.ok (Instr.aload_n 0, 1) := vyd_42 (vyb_cX6_push_2 (i := 8) rfl)
theorem dX6_push_29 : decode cX6_push 29 = Except.ok (Instr.iload_n 1, 1) := vyd_27 (vyb_cX6_push_2 (i := 9) rfl)
theorem dX6_push_30 : decode cX6_push 30 = Except.ok (Instr.invokevirtual 91, 3) := vyd_182 (vyb_cX6_push_3 (i := 0) rfl) (vyb_cX6_push_3 (i := 1) rfl) (vyb_cX6_push_3 (i := 2) rfl) rfl
theorem dX6_push_33 : decode cX6_push 33 = Except.ok (Instr.ifCond .ne 7, 3) := vyd_154 (vyb_cX6_push_3 (i := 3) rfl) (vyb_cX6_push_3 (i := 4) rfl) (vyb_cX6_push_3 (i := 5) rfl) (by decide +kernel)
theorem dX6_push_36 : decode cX6_push 36 = Except.ok (Instr.iconst 0, 1) := vyd_3 (vyb_cX6_push_3 (i := 6) rfl)
theorem dX6_push_37 : decode cX6_push 37 = Except.ok (Instr.goto 9, 3) := vyd_167 (vyb_cX6_push_3 (i := 7) rfl) (vyb_cX6_push_3 (i := 8) rfl) (vyb_cX6_push_3 (i := 9) rfl) (by decide +kernel)
theorem dX6_push_40 : decode cX6_push 40 = Except.ok (Instr.aload_n 0, 1) := vyd_42 (vyb_cX6_push_4 (i := 0) rfl)
theorem dX6_push_41 : decode cX6_push 41 = Except.ok (Instr.iload_n 1, 1) := vyd_27 (vyb_cX6_push_4 (i := 1) rfl)
theorem dX6_push_42 : decode cX6_push 42 = Except.ok (Instr.iconst 0, 1) := vyd_3 (vyb_cX6_push_4 (i := 2) rfl)
theorem dX6_push_43 : decode cX6_push 43 = Except.ok (Instr.invokevirtual 131, 3) := vyd_182 (vyb_cX6_push_4 (i := 3) rfl) (vyb_cX6_push_4 (i := 4) rfl) (vyb_cX6_push_4 (i := 5) rfl) rfl
theorem dX6_push_46 : decode cX6_push 46 = Except.ok (Instr.istore 4, 2) := vyd_54 (vyb_cX6_push_4 (i := 6) rfl) (vyb_cX6_push_4 (i := 7) rfl) rfl
theorem dX6_push_48 : decode cX6_push 48 = Except.ok (Instr.aload_n 0, 1) := vyd_42 (vyb_cX6_push_4 (i := 8) rfl)
theorem dX6_push_49 : decode cX6_push 49 = Except.ok (Instr.iload_n 1, 1) := vyd_27 (vyb_cX6_push_4 (i := 9) rfl)
theorem dX6_push_50 : decode cX6_push 50 = Except.ok (Instr.iconst 0, 1) := vyd_3 (vyb_cX6_push_5 (i := 0) rfl)
theorem dX6_push_51 : decode cX6_push 51 = Except.ok (Instr.iload_n 2, 1) := vyd_28 (vyb_cX6_push_5 (i := 1) rfl)
theorem dX6_push_52 : decode cX6_push 52 = Except.ok (Instr.iload_n 3, 1) := vyd_29 (vyb_cX6_push_5 (i := 2) rfl)
theorem dX6_push_53 : decode cX6_push 53 = Except.ok (Instr.invokestatic 121, 3) := vyd_184 (vyb_cX6_push_5 (i := 3) rfl) (vyb_cX6_push_5 (i := 4) rfl) (vyb_cX6_push_5 (i := 5) rfl) rfl
theorem dX6_push_56 : decode cX6_push 56 = Except.ok (Instr.invokevirtual 127, 3) := vyd_182 (vyb_cX6_push_5 (i := 6) rfl) (vyb_cX6_push_5 (i := 7) rfl) (vyb_cX6_push_5 (i := 8) rfl) rfl
theorem dX6_push_59 : decode cX6_push 59 = Except.ok (Instr.iload 4, 2) := vyd_21 (vyb_cX6_push_5 (i := 9) rfl) (vyb_cX6_push_6 (i := 0) rfl) rfl
theorem dX6_push_61 : decode cX6_push 61 = Except.ok (Instr.ireturn, 1) := vyd_172 (vyb_cX6_push_6 (i := 1) rfl)
theorem vyb_cX6_append_0 {i : Nat} {b : UInt8} (h : ([0x2a, 0x1b, 0x04, 0x1c, 0x1d, 0xb6, 0x00, 0x85, 0xac] : List UInt8)[i]? = some b) : vy_8 cX6_append (0 + i) b := vy_in (n := 9) (by decide +kernel) h
theorem dX6_append_0 : decode cX6_append 0 = Except.ok (Instr.aload_n 0, 1) := vyd_42 (vyb_cX6_append_0 (i := 0) rfl)
theorem dX6_append_1 : decode cX6_append 1 = Except.ok (Instr.iload_n 1, 1) := vyd_27 (vyb_cX6_append_0 (i := 1) rfl)
theorem dX6_append_2 : decode cX6_append 2 = Except.ok (Instr.iconst 1, 1) := vyd_4 (vyb_cX6_append_0 (i := 2) rfl)
theorem dX6_append_3 : decode cX6_append 3 = Except.ok (Instr.iload_n 2, 1) := vyd_28 (vyb_cX6_append_0 (i := 3) rfl)
theorem dX6_append_4 : decode cX6_append 4 = Except.ok (Instr.iload_n 3, 1) := vyd_29 (vyb_cX6_append_0 (i := 4) rfl)
theorem dX6_append_5 : decode cX6_append 5 = Except.ok (Instr.invokevirtual 133, 3) := vyd_182 (vyb_cX6_append_0 (i := 5) rfl) (vyb_cX6_append_0 (i := 6) rfl) (vyb_cX6_append_0 (i := 7) rfl) rfl
theorem dX6_append_8 : decode cX6_append 8 = Except.ok (Instr.ireturn, 1) := vyd_172 (vyb_cX6_append_0 (i := 8) rfl)
theorem vyb_cX6_train_0 {i : Nat} {b : UInt8} (h : ([0x2a, 0x1b, 0xb8, 0x00, 0x6a, 0x04, 0xb6, 0x00, 0x6e, 0x9a] : List UInt8)[i]? = some b) : vy_8 cX6_train (0 + i) b := vy_in (n := 10) (by decide +kernel) h
theorem vyb_cX6_train_1 {i : Nat} {b : UInt8} (h : ([0x00, 0x41, 0x2a, 0x1c, 0x1d, 0xb8, 0x00, 0x71, 0x9a, 0x00] : List UInt8)[i]? = some b) : vy_8 cX6_train (10 + i) b := vy_in (n := 10) (by decide +kernel) h
theorem vyb_cX6_train_2 {i : Nat} {b : UInt8} (h : ([0x12, 0x1c, 0x99, 0x00, 0x0e, 0x15, 0x04, 0x04, 0x10, 0x0c] : List UInt8)[i]? = some b) : vy_8 cX6_train (20 + i) b := vy_in (n := 10) (by decide +kernel) h
theorem vyb_cX6_train_3 {i : Nat} {b : UInt8} (h : ([0xb8, 0x00, 0x2c, 0x9a, 0x00, 0x07, 0x04, 0xa7, 0x00, 0x04] : List UInt8)[i]? = some b) : vy_8 cX6_train (30 + i) b := vy_in (n := 10) (by decide +kernel) h
theorem vyb_cX6_train_4 {i : Nat} {b : UInt8} (h : ([0x03, 0x05, 0xb6, 0x00, 0x28, 0x9a, 0x00, 0x1d, 0x2a, 0x2a] : List UInt8)[i]? = some b) : vy_8 cX6_train (40 + i) b := vy_in (n := 10) (by decide +kernel) h
theorem vyb_cX6_train_5 {i : Nat} {b : UInt8} (h : ([0x1b, 0xb6, 0x00, 0x5b, 0x15, 0x04, 0x60, 0x10, 0x14, 0xa4] : List UInt8)[i]? = some b) : vy_8 cX6_train (50 + i) b := vy_in (n := 10) (by decide +kernel) h
theorem vyb_cX6_train_6 {i : Nat} {b : UInt8} (h : ([0x00, 0x07, 0x04, 0xa7, 0x00, 0x04, 0x03, 0x06, 0xb6, 0x00] : List UInt8)[i]? = some b) : vy_8 cX6_train (60 + i) b := vy_in (n := 10) (by decide +kernel) h
theorem vyb_cX6_train_7 {i : Nat} {b : UInt8} (h : ([0x28, 0x99, 0x00, 0x05, 0x03, 0xac, 0x03, 0x36, 0x05, 0x15] : List UInt8)[i]? = some b) : vy_8 cX6_train (70 + i) b := vy_in (n := 10) (by decide +kernel) h
theorem vyb_cX6_train_8 {i : Nat} {b : UInt8} (h : ([0x05, 0x15, 0x04, 0xa2, 0x00, 0x27, 0x2a, 0x1b, 0x04, 0x04] : List UInt8)[i]? = some b) : vy_8 cX6_train (80 + i) b := vy_in (n := 10) (by decide +kernel) h
theorem vyb_cX6_train_9 {i : Nat} {b : UInt8} (h : ([0x1c, 0x04, 0x64, 0x15, 0x05, 0x60, 0x10, 0x09, 0x70, 0x60] : List UInt8)[i]? = some b) : vy_8 cX6_train (90 + i) b := vy_in (n := 10) (by decide +kernel) h
theorem vyb_cX6_train_10 {i : Nat} {b : UInt8} (h : ([0x1d, 0x10, 0x07, 0x15, 0x05, 0x68, 0x60, 0x10, 0x64, 0x70] : List UInt8)[i]? = some b) : vy_8 cX6_train (100 + i) b := vy_in (n := 10) (by decide +kernel) h
theorem vyb_cX6_train_11 {i : Nat} {b : UInt8} (h : ([0xb8, 0x00, 0x79, 0xb6, 0x00, 0x7f, 0x84, 0x05, 0x01, 0xa7] : List UInt8)[i]? = some b) : vy_8 cX6_train (110 + i) b := vy_in (n := 10) (by decide +kernel) h
theorem vyb_cX6_train_12 {i : Nat} {b : UInt8} (h : ([0xff, 0xd8, 0x2a, 0x1b, 0xb6, 0x00, 0x5b, 0xac] : List UInt8)[i]? = some b) : vy_8 cX6_train (120 + i) b := vy_in (n := 8) (by decide +kernel) h
theorem dX6_train_0 : decode cX6_train 0 = Except.ok (Instr.aload_n 0, 1) := vyd_42 (vyb_cX6_train_0 (i := 0) rfl)
theorem dX6_train_1 : decode cX6_train 1 = Except.ok (Instr.iload_n 1, 1) := vyd_27 (vyb_cX6_train_0 (i := 1) rfl)
theorem dX6_train_2 : decode cX6_train 2 = Except.ok (Instr.invokestatic 106, 3) := vyd_184 (vyb_cX6_train_0 (i := 2) rfl) (vyb_cX6_train_0 (i := 3) rfl) (vyb_cX6_train_0 (i := 4) rfl) rfl
theorem dX6_train_5 : decode cX6_train 5 = Except.ok (Instr.iconst 1, 1) := vyd_4 (vyb_cX6_train_0 (i := 5) rfl)
theorem dX6_train_6 : decode cX6_train 6 = Except.ok (Instr.invokevirtual 110, 3) := vyd_182 (vyb_cX6_train_0 (i := 6) rfl) (vyb_cX6_train_0 (i := 7) rfl) (vyb_cX6_train_0 (i := 8) rfl) rfl
theorem dX6_train_9 : decode cX6_train 9 = Except.ok (Instr.ifCond .ne 65, 3) := vyd_154 (vyb_cX6_train_0 (i := 9) rfl) (vyb_cX6_train_1 (i := 0) rfl) (vyb_cX6_train_1 (i := 1) rfl) (by decide +kernel)
theorem dX6_train_12 : decode cX6_train 12 = Except.ok (Instr.aload_n 0, 1) := vyd_42 (vyb_cX6_train_1 (i := 2) rfl)
theorem dX6_train_13 : decode cX6_train 13 = Except.ok (Instr.iload_n 2, 1) := vyd_28 (vyb_cX6_train_1 (i := 3) rfl)
theorem dX6_train_14 : decode cX6_train 14 = Except.ok (Instr.iload_n 3, 1) := vyd_29 (vyb_cX6_train_1 (i := 4) rfl)
theorem dX6_train_15 : decode cX6_train 15 = Except.ok (Instr.invokestatic 113, 3) := vyd_184 (vyb_cX6_train_1 (i := 5) rfl) (vyb_cX6_train_1 (i := 6) rfl) (vyb_cX6_train_1 (i := 7) rfl) rfl
theorem dX6_train_18 : decode cX6_train 18 = Except.ok (Instr.ifCond .ne 18, 3) := vyd_154 (vyb_cX6_train_1 (i := 8) rfl) (vyb_cX6_train_1 (i := 9) rfl) (vyb_cX6_train_2 (i := 0) rfl) (by decide +kernel)
theorem dX6_train_21 : decode cX6_train 21 = Except.ok (Instr.iload_n 2, 1) := vyd_28 (vyb_cX6_train_2 (i := 1) rfl)
theorem dX6_train_22 : decode cX6_train 22 = Except.ok (Instr.ifCond .eq 14, 3) := vyd_153 (vyb_cX6_train_2 (i := 2) rfl) (vyb_cX6_train_2 (i := 3) rfl) (vyb_cX6_train_2 (i := 4) rfl) (by decide +kernel)
theorem dX6_train_25 : decode cX6_train 25 = Except.ok (Instr.iload 4, 2) := vyd_21 (vyb_cX6_train_2 (i := 5) rfl) (vyb_cX6_train_2 (i := 6) rfl) rfl
theorem dX6_train_27 : decode cX6_train 27 = Except.ok (Instr.iconst 1, 1) := vyd_4 (vyb_cX6_train_2 (i := 7) rfl)
theorem dX6_train_28 : decode cX6_train 28 = Except.ok (Instr.bipush 12, 2) := vyd_16 (vyb_cX6_train_2 (i := 8) rfl) (vyb_cX6_train_2 (i := 9) rfl) (by decide +kernel)
theorem dX6_train_30 : decode cX6_train 30 = Except.ok (Instr.invokestatic 44, 3) := vyd_184 (vyb_cX6_train_3 (i := 0) rfl) (vyb_cX6_train_3 (i := 1) rfl) (vyb_cX6_train_3 (i := 2) rfl) rfl
theorem dX6_train_33 : decode cX6_train 33 = Except.ok (Instr.ifCond .ne 7, 3) := vyd_154 (vyb_cX6_train_3 (i := 3) rfl) (vyb_cX6_train_3 (i := 4) rfl) (vyb_cX6_train_3 (i := 5) rfl) (by decide +kernel)
theorem dX6_train_36 : decode cX6_train 36 = Except.ok (Instr.iconst 1, 1) := vyd_4 (vyb_cX6_train_3 (i := 6) rfl)
theorem dX6_train_37 : decode cX6_train 37 = Except.ok (Instr.goto 4, 3) := vyd_167 (vyb_cX6_train_3 (i := 7) rfl) (vyb_cX6_train_3 (i := 8) rfl) (vyb_cX6_train_3 (i := 9) rfl) (by decide +kernel)
theorem dX6_train_40 : decode cX6_train 40 = Except.ok (Instr.iconst 0, 1) := vyd_3 (vyb_cX6_train_4 (i := 0) rfl)
theorem dX6_train_41 : decode cX6_train 41 = Except.ok (Instr.iconst 2, 1) := vyd_5 (vyb_cX6_train_4 (i := 1) rfl)
theorem dX6_train_42 : decode cX6_train 42 = Except.ok (Instr.invokevirtual 40, 3) := vyd_182 (vyb_cX6_train_4 (i := 2) rfl) (vyb_cX6_train_4 (i := 3) rfl) (vyb_cX6_train_4 (i := 4) rfl) rfl
theorem dX6_train_45 : decode cX6_train 45 = Except.ok (Instr.ifCond .ne 29, 3) := vyd_154 (vyb_cX6_train_4 (i := 5) rfl) (vyb_cX6_train_4 (i := 6) rfl) (vyb_cX6_train_4 (i := 7) rfl) (by decide +kernel)
theorem dX6_train_48 : decode cX6_train 48 = Except.ok (Instr.aload_n 0, 1) := vyd_42 (vyb_cX6_train_4 (i := 8) rfl)
theorem dX6_train_49 : decode cX6_train 49 = Except.ok (Instr.aload_n 0, 1) := vyd_42 (vyb_cX6_train_4 (i := 9) rfl)
theorem dX6_train_50 : decode cX6_train 50 = Except.ok (Instr.iload_n 1, 1) := vyd_27 (vyb_cX6_train_5 (i := 0) rfl)
theorem dX6_train_51 : decode cX6_train 51 = Except.ok (Instr.invokevirtual 91, 3) := vyd_182 (vyb_cX6_train_5 (i := 1) rfl) (vyb_cX6_train_5 (i := 2) rfl) (vyb_cX6_train_5 (i := 3) rfl) rfl
theorem dX6_train_54 : decode cX6_train 54 = Except.ok (Instr.iload 4, 2) := vyd_21 (vyb_cX6_train_5 (i := 4) rfl) (vyb_cX6_train_5 (i := 5) rfl) rfl
theorem dX6_train_56 : decode cX6_train 56 = Except.ok (Instr.iadd, 1) := vyd_96 (vyb_cX6_train_5 (i := 6) rfl)
theorem dX6_train_57 : decode cX6_train 57 = Except.ok (Instr.bipush 20, 2) := vyd_16 (vyb_cX6_train_5 (i := 7) rfl) (vyb_cX6_train_5 (i := 8) rfl) (by decide +kernel)
theorem dX6_train_59 : decode cX6_train 59 = Except.ok (Instr.if_icmp .le 7, 3) := vyd_164 (vyb_cX6_train_5 (i := 9) rfl) (vyb_cX6_train_6 (i := 0) rfl) (vyb_cX6_train_6 (i := 1) rfl) (by decide +kernel)
theorem dX6_train_62 : decode cX6_train 62 = Except.ok (Instr.iconst 1, 1) := vyd_4 (vyb_cX6_train_6 (i := 2) rfl)
theorem dX6_train_63 : decode cX6_train 63 = Except.ok (Instr.goto 4, 3) := vyd_167 (vyb_cX6_train_6 (i := 3) rfl) (vyb_cX6_train_6 (i := 4) rfl) (vyb_cX6_train_6 (i := 5) rfl) (by decide +kernel)
theorem dX6_train_66 : decode cX6_train 66 = Except.ok (Instr.iconst 0, 1) := vyd_3 (vyb_cX6_train_6 (i := 6) rfl)
theorem dX6_train_67 : decode cX6_train 67 = Except.ok (Instr.iconst 3, 1) := vyd_6 (vyb_cX6_train_6 (i := 7) rfl)
theorem dX6_train_68 : decode cX6_train 68 = Except.ok (Instr.invokevirtual 40, 3) := vyd_182 (vyb_cX6_train_6 (i := 8) rfl) (vyb_cX6_train_6 (i := 9) rfl) (vyb_cX6_train_7 (i := 0) rfl) rfl
theorem dX6_train_71 : decode cX6_train 71 = Except.ok (Instr.ifCond .eq 5, 3) := vyd_153 (vyb_cX6_train_7 (i := 1) rfl) (vyb_cX6_train_7 (i := 2) rfl) (vyb_cX6_train_7 (i := 3) rfl) (by decide +kernel)
theorem dX6_train_74 : decode cX6_train 74 = Except.ok (Instr.iconst 0, 1) := vyd_3 (vyb_cX6_train_7 (i := 4) rfl)
theorem dX6_train_75 : decode cX6_train 75 = Except.ok (Instr.ireturn, 1) := vyd_172 (vyb_cX6_train_7 (i := 5) rfl)
theorem dX6_train_76 : decode cX6_train 76 = Except.ok (Instr.iconst 0, 1) := vyd_3 (vyb_cX6_train_7 (i := 6) rfl)
theorem dX6_train_77 : decode cX6_train 77 = Except.ok (Instr.istore 5, 2) := vyd_54 (vyb_cX6_train_7 (i := 7) rfl) (vyb_cX6_train_7 (i := 8) rfl) rfl
theorem dX6_train_79 : decode cX6_train 79 = Except.ok (Instr.iload 5, 2) := vyd_21 (vyb_cX6_train_7 (i := 9) rfl) (vyb_cX6_train_8 (i := 0) rfl) rfl
theorem dX6_train_81 : decode cX6_train 81 = Except.ok (Instr.iload 4, 2) := vyd_21 (vyb_cX6_train_8 (i := 1) rfl) (vyb_cX6_train_8 (i := 2) rfl) rfl
theorem dX6_train_83 : decode cX6_train 83 = Except.ok (Instr.if_icmp .ge 39, 3) := vyd_162 (vyb_cX6_train_8 (i := 3) rfl) (vyb_cX6_train_8 (i := 4) rfl) (vyb_cX6_train_8 (i := 5) rfl) (by decide +kernel)
theorem dX6_train_86 : decode cX6_train 86 = Except.ok (Instr.aload_n 0, 1) := vyd_42 (vyb_cX6_train_8 (i := 6) rfl)
theorem dX6_train_87 : decode cX6_train 87 = Except.ok (Instr.iload_n 1, 1) := vyd_27 (vyb_cX6_train_8 (i := 7) rfl)
theorem dX6_train_88 : decode cX6_train 88 = Except.ok (Instr.iconst 1, 1) := vyd_4 (vyb_cX6_train_8 (i := 8) rfl)
theorem dX6_train_89 : decode cX6_train 89 = Except.ok (Instr.iconst 1, 1) := vyd_4 (vyb_cX6_train_8 (i := 9) rfl)
theorem dX6_train_90 : decode cX6_train 90 = Except.ok (Instr.iload_n 2, 1) := vyd_28 (vyb_cX6_train_9 (i := 0) rfl)
theorem dX6_train_91 : decode cX6_train 91 = Except.ok (Instr.iconst 1, 1) := vyd_4 (vyb_cX6_train_9 (i := 1) rfl)
theorem dX6_train_92 : decode cX6_train 92 = Except.ok (Instr.isub, 1) := vyd_100 (vyb_cX6_train_9 (i := 2) rfl)
theorem dX6_train_93 : decode cX6_train 93 = Except.ok (Instr.iload 5, 2) := vyd_21 (vyb_cX6_train_9 (i := 3) rfl) (vyb_cX6_train_9 (i := 4) rfl) rfl
theorem dX6_train_95 : decode cX6_train 95 = Except.ok (Instr.iadd, 1) := vyd_96 (vyb_cX6_train_9 (i := 5) rfl)
theorem dX6_train_96 : decode cX6_train 96 = Except.ok (Instr.bipush 9, 2) := vyd_16 (vyb_cX6_train_9 (i := 6) rfl) (vyb_cX6_train_9 (i := 7) rfl) (by decide +kernel)
theorem dX6_train_98 : decode cX6_train 98 = Except.ok (Instr.irem, 1) := vyd_112 (vyb_cX6_train_9 (i := 8) rfl)
theorem dX6_train_99 : decode cX6_train 99 = Except.ok (Instr.iadd, 1) := vyd_96 (vyb_cX6_train_9 (i := 9) rfl)
theorem dX6_train_100 : decode cX6_train 100 = Except.ok (Instr.iload_n 3, 1) := vyd_29 (vyb_cX6_train_10 (i := 0) rfl)
theorem dX6_train_101 : decode cX6_train 101 = Except.ok (Instr.bipush 7, 2) := vyd_16 (vyb_cX6_train_10 (i := 1) rfl) (vyb_cX6_train_10 (i := 2) rfl) (by decide +kernel)
theorem dX6_train_103 : decode cX6_train 103 = Except.ok (Instr.iload 5, 2) := vyd_21 (vyb_cX6_train_10 (i := 3) rfl) (vyb_cX6_train_10 (i := 4) rfl) rfl
theorem dX6_train_105 : decode cX6_train 105 = Except.ok (Instr.imul, 1) := vyd_104 (vyb_cX6_train_10 (i := 5) rfl)
theorem dX6_train_106 : decode cX6_train 106 = Except.ok (Instr.iadd, 1) := vyd_96 (vyb_cX6_train_10 (i := 6) rfl)
theorem dX6_train_107 : decode cX6_train 107 = Except.ok (Instr.bipush 100, 2) := vyd_16 (vyb_cX6_train_10 (i := 7) rfl) (vyb_cX6_train_10 (i := 8) rfl) (by decide +kernel)
theorem dX6_train_109 : decode cX6_train 109 = Except.ok (Instr.irem, 1) := vyd_112 (vyb_cX6_train_10 (i := 9) rfl)
theorem dX6_train_110 : decode cX6_train 110 = Except.ok (Instr.invokestatic 121, 3) := vyd_184 (vyb_cX6_train_11 (i := 0) rfl) (vyb_cX6_train_11 (i := 1) rfl) (vyb_cX6_train_11 (i := 2) rfl) rfl
theorem dX6_train_113 : decode cX6_train 113 = Except.ok (Instr.invokevirtual 127, 3) := vyd_182 (vyb_cX6_train_11 (i := 3) rfl) (vyb_cX6_train_11 (i := 4) rfl) (vyb_cX6_train_11 (i := 5) rfl) rfl
theorem dX6_train_116 : decode cX6_train 116 = .ok (.iinc 5 1, 3) := by decide +kernel
theorem dX6_train_119 : decode cX6_train 119 = Except.ok (Instr.goto (-40), 3) := vyd_167 (vyb_cX6_train_11 (i := 9) rfl) (vyb_cX6_train_12 (i := 0) rfl) (vyb_cX6_train_12 (i := 1) rfl) (by decide +kernel)
theorem dX6_train_122 : decode cX6_train 122 = Except.ok (Instr.aload_n 0, 1) := vyd_42 (vyb_cX6_train_12 (i := 2) rfl)
theorem dX6_train_123 : decode cX6_train 123 = Except.ok (Instr.iload_n 1, 1) := vyd_27 (vyb_cX6_train_12 (i := 3) rfl)
theorem dX6_train_124 : decode cX6_train 124 = Except.ok (Instr.invokevirtual 91, 3) := vyd_182 (vyb_cX6_train_12 (i := 4) rfl) (vyb_cX6_train_12 (i := 5) rfl) (vyb_cX6_train_12 (i := 6) rfl) rfl
theorem dX6_train_127 : decode cX6_train 127 = Except.ok (Instr.ireturn, 1) := vyd_172 (vyb_cX6_train_12 (i := 7) rfl)
theorem vyb_cX6_off_0 {i : Nat} {b : UInt8} (h : ([0x2a, 0x1b, 0xb6, 0x00, 0x5b, 0x9a, 0x00, 0x07, 0x1d, 0xa7] : List UInt8)[i]? = some b) : vy_8 cX6_off (0 + i) b := vy_in (n := 10) (by decide +kernel) h
theorem vyb_cX6_off_1 {i : Nat} {b : UInt8} (h : ([0x00, 0x09, 0x2a, 0x1b, 0x1c, 0xb6, 0x00, 0x89, 0xac] : List UInt8)[i]? = some b) : vy_8 cX6_off (10 + i) b := vy_in (n := 9) (by decide +kernel) h
theorem dX6_off_0 : decode cX6_off 0 = Except.ok (Instr.aload_n 0, 1) := vyd_42 (vyb_cX6_off_0 (i := 0) rfl)
theorem dX6_off_1 : decode cX6_off 1 = Except.ok (Instr.iload_n 1, 1) := vyd_27 (vyb_cX6_off_0 (i := 1) rfl)
theorem dX6_off_2 : decode cX6_off 2 = Except.ok (Instr.invokevirtual 91, 3) := vyd_182 (vyb_cX6_off_0 (i := 2) rfl) (vyb_cX6_off_0 (i := 3) rfl) (vyb_cX6_off_0 (i := 4) rfl) rfl
theorem dX6_off_5 : decode cX6_off 5 = Except.ok (Instr.ifCond .ne 7, 3) := vyd_154 (vyb_cX6_off_0 (i := 5) rfl) (vyb_cX6_off_0 (i := 6) rfl) (vyb_cX6_off_0 (i := 7) rfl) (by decide +kernel)
theorem dX6_off_8 : decode cX6_off 8 = Except.ok (Instr.iload_n 3, 1) := vyd_29 (vyb_cX6_off_0 (i := 8) rfl)
theorem dX6_off_9 : decode cX6_off 9 = Except.ok (Instr.goto 9, 3) := vyd_167 (vyb_cX6_off_0 (i := 9) rfl) (vyb_cX6_off_1 (i := 0) rfl) (vyb_cX6_off_1 (i := 1) rfl) (by decide +kernel)
theorem dX6_off_12 : decode cX6_off 12 = Except.ok (Instr.aload_n 0, 1) := vyd_42 (vyb_cX6_off_1 (i := 2) rfl)
theorem dX6_off_13 : decode cX6_off 13 = Except.ok (Instr.iload_n 1, 1) := vyd_27 (vyb_cX6_off_1 (i := 3) rfl)
theorem dX6_off_14 : decode cX6_off 14 = Except.ok (Instr.iload_n 2, 1) := vyd_28 (vyb_cX6_off_1 (i := 4) rfl)
theorem dX6_off_15 : decode cX6_off 15 = Except.ok (Instr.invokevirtual 137, 3) := vyd_182 (vyb_cX6_off_1 (i := 5) rfl) (vyb_cX6_off_1 (i := 6) rfl) (vyb_cX6_off_1 (i := 7) rfl) rfl
theorem dX6_off_18 : decode cX6_off 18 = Except.ok (Instr.ireturn, 1) := vyd_172 (vyb_cX6_off_1 (i := 8) rfl)
theorem vyb_cX6_take_0 {i : Nat} {b : UInt8} (h : ([0x2a, 0x1b, 0xb8, 0x00, 0x6a, 0x04, 0xb6, 0x00, 0x6e, 0x99] : List UInt8)[i]? = some b) : vy_8 cX6_take (0 + i) b := vy_in (n := 10) (by decide +kernel) h
theorem vyb_cX6_take_1 {i : Nat} {b : UInt8} (h : ([0x00, 0x07, 0x03, 0xa7, 0x00, 0x0b, 0x2a, 0x1b, 0x1c, 0x10] : List UInt8)[i]? = some b) : vy_8 cX6_take (10 + i) b := vy_in (n := 10) (by decide +kernel) h
theorem vyb_cX6_take_2 {i : Nat} {b : UInt8} (h : ([0xf7, 0xb6, 0x00, 0x8d, 0xac] : List UInt8)[i]? = some b) : vy_8 cX6_take (20 + i) b := vy_in (n := 5) (by decide +kernel) h
theorem dX6_take_0 : decode cX6_take 0 = Except.ok (Instr.aload_n 0, 1) := vyd_42 (vyb_cX6_take_0 (i := 0) rfl)
theorem dX6_take_1 : decode cX6_take 1 = Except.ok (Instr.iload_n 1, 1) := vyd_27 (vyb_cX6_take_0 (i := 1) rfl)
theorem dX6_take_2 : decode cX6_take 2 = Except.ok (Instr.invokestatic 106, 3) := vyd_184 (vyb_cX6_take_0 (i := 2) rfl) (vyb_cX6_take_0 (i := 3) rfl) (vyb_cX6_take_0 (i := 4) rfl) rfl
theorem dX6_take_5 : decode cX6_take 5 = Except.ok (Instr.iconst 1, 1) := vyd_4 (vyb_cX6_take_0 (i := 5) rfl)
theorem dX6_take_6 : decode cX6_take 6 = Except.ok (Instr.invokevirtual 110, 3) := vyd_182 (vyb_cX6_take_0 (i := 6) rfl) (vyb_cX6_take_0 (i := 7) rfl) (vyb_cX6_take_0 (i := 8) rfl) rfl
theorem dX6_take_9 : decode cX6_take 9 = Except.ok (Instr.ifCond .eq 7, 3) := vyd_153 (vyb_cX6_take_0 (i := 9) rfl) (vyb_cX6_take_1 (i := 0) rfl) (vyb_cX6_take_1 (i := 1) rfl) (by decide +kernel)
theorem dX6_take_12 : decode cX6_take 12 = Except.ok (Instr.iconst 0, 1) := vyd_3 (vyb_cX6_take_1 (i := 2) rfl)
theorem dX6_take_13 : decode cX6_take 13 = Except.ok (Instr.goto 11, 3) := vyd_167 (vyb_cX6_take_1 (i := 3) rfl) (vyb_cX6_take_1 (i := 4) rfl) (vyb_cX6_take_1 (i := 5) rfl) (by decide +kernel)
theorem dX6_take_16 : decode cX6_take 16 = Except.ok (Instr.aload_n 0, 1) := vyd_42 (vyb_cX6_take_1 (i := 6) rfl)
theorem dX6_take_17 : decode cX6_take 17 = Except.ok (Instr.iload_n 1, 1) := vyd_27 (vyb_cX6_take_1 (i := 7) rfl)
theorem dX6_take_18 : decode cX6_take 18 = Except.ok (Instr.iload_n 2, 1) := vyd_28 (vyb_cX6_take_1 (i := 8) rfl)
theorem dX6_take_19 : decode cX6_take 19 = Except.ok (Instr.bipush (-9), 2) := vyd_16 (vyb_cX6_take_1 (i := 9) rfl) (vyb_cX6_take_2 (i := 0) rfl) (by decide +kernel)
theorem dX6_take_21 : decode cX6_take 21 = Except.ok (Instr.invokevirtual 141, 3) := vyd_182 (vyb_cX6_take_2 (i := 1) rfl) (vyb_cX6_take_2 (i := 2) rfl) (vyb_cX6_take_2 (i := 3) rfl) rfl
theorem dX6_take_24 : decode cX6_take 24 = Except.ok (Instr.ireturn, 1) := vyd_172 (vyb_cX6_take_2 (i := 4) rfl)
theorem vyb_cX6_poll_0 {i : Nat} {b : UInt8} (h : ([0x2a, 0x1b, 0xb8, 0x00, 0x6a, 0x04, 0xb6, 0x00, 0x6e, 0x99] : List UInt8)[i]? = some b) : vy_8 cX6_poll (0 + i) b := vy_in (n := 10) (by decide +kernel) h
theorem vyb_cX6_poll_1 {i : Nat} {b : UInt8} (h : ([0x00, 0x07, 0x03, 0xa7, 0x00, 0x0a, 0x2a, 0x1b, 0x1c, 0x03] : List UInt8)[i]? = some b) : vy_8 cX6_poll (10 + i) b := vy_in (n := 10) (by decide +kernel) h
theorem vyb_cX6_poll_2 {i : Nat} {b : UInt8} (h : ([0xb6, 0x00, 0x8d, 0xac] : List UInt8)[i]? = some b) : vy_8 cX6_poll (20 + i) b := vy_in (n := 4) (by decide +kernel) h
theorem dX6_poll_0 : decode cX6_poll 0 = Except.ok (Instr.aload_n 0, 1) := vyd_42 (vyb_cX6_poll_0 (i := 0) rfl)
theorem dX6_poll_1 : decode cX6_poll 1 = Except.ok (Instr.iload_n 1, 1) := vyd_27 (vyb_cX6_poll_0 (i := 1) rfl)
theorem dX6_poll_2 : decode cX6_poll 2 = Except.ok (Instr.invokestatic 106, 3) := vyd_184 (vyb_cX6_poll_0 (i := 2) rfl) (vyb_cX6_poll_0 (i := 3) rfl) (vyb_cX6_poll_0 (i := 4) rfl) rfl
theorem dX6_poll_5 : decode cX6_poll 5 = Except.ok (Instr.iconst 1, 1) := vyd_4 (vyb_cX6_poll_0 (i := 5) rfl)
theorem dX6_poll_6 : decode cX6_poll 6 = Except.ok (Instr.invokevirtual 110, 3) := vyd_182 (vyb_cX6_poll_0 (i := 6) rfl) (vyb_cX6_poll_0 (i := 7) rfl) (vyb_cX6_poll_0 (i := 8) rfl) rfl
theorem dX6_poll_9 : decode cX6_poll 9 = Except.ok (Instr.ifCond .eq 7, 3) := vyd_153 (vyb_cX6_poll_0 (i := 9) rfl) (vyb_cX6_poll_1 (i := 0) rfl) (vyb_cX6_poll_1 (i := 1) rfl) (by decide +kernel)
theorem dX6_poll_12 : decode cX6_poll 12 = Except.ok (Instr.iconst 0, 1) := vyd_3 (vyb_cX6_poll_1 (i := 2) rfl)
theorem dX6_poll_13 : decode cX6_poll 13 = Except.ok (Instr.goto 10, 3) := vyd_167 (vyb_cX6_poll_1 (i := 3) rfl) (vyb_cX6_poll_1 (i := 4) rfl) (vyb_cX6_poll_1 (i := 5) rfl) (by decide +kernel)
theorem dX6_poll_16 : decode cX6_poll 16 = Except.ok (Instr.aload_n 0, 1) := vyd_42 (vyb_cX6_poll_1 (i := 6) rfl)
theorem dX6_poll_17 : decode cX6_poll 17 = Except.ok (Instr.iload_n 1, 1) := vyd_27 (vyb_cX6_poll_1 (i := 7) rfl)
theorem dX6_poll_18 : decode cX6_poll 18 = Except.ok (Instr.iload_n 2, 1) := vyd_28 (vyb_cX6_poll_1 (i := 8) rfl)
theorem dX6_poll_19 : decode cX6_poll 19 = Except.ok (Instr.iconst 0, 1) := vyd_3 (vyb_cX6_poll_1 (i := 9) rfl)
theorem dX6_poll_20 : decode cX6_poll 20 = Except.ok (Instr.invokevirtual 141, 3) := vyd_182 (vyb_cX6_poll_2 (i := 0) rfl) (vyb_cX6_poll_2 (i := 1) rfl) (vyb_cX6_poll_2 (i := 2) rfl) rfl
theorem dX6_poll_23 : decode cX6_poll 23 = Except.ok (Instr.ireturn, 1) := vyd_172 (vyb_cX6_poll_2 (i := 3) rfl)
theorem vyb_cX6_pop_0 {i : Nat} {b : UInt8} (h : ([0x2a, 0x1b, 0xb8, 0x00, 0x6a, 0x04, 0xb6, 0x00, 0x6e, 0x99] : List UInt8)[i]? = some b) : vy_8 cX6_pop (0 + i) b := vy_in (n := 10) (by decide +kernel) h
theorem vyb_cX6_pop_1 {i : Nat} {b : UInt8} (h : ([0x00, 0x07, 0x03, 0xa7, 0x00, 0x0b, 0x2a, 0x1b, 0x03, 0x10] : List UInt8)[i]? = some b) : vy_8 cX6_pop (10 + i) b := vy_in (n := 10) (by decide +kernel) h
theorem vyb_cX6_pop_2 {i : Nat} {b : UInt8} (h : ([0xf7, 0xb6, 0x00, 0x8d, 0xac] : List UInt8)[i]? = some b) : vy_8 cX6_pop (20 + i) b := vy_in (n := 5) (by decide +kernel) h
theorem dX6_pop_0 : decode cX6_pop 0 = Except.ok (Instr.aload_n 0, 1) := vyd_42 (vyb_cX6_pop_0 (i := 0) rfl)
theorem dX6_pop_1 : decode cX6_pop 1 = Except.ok (Instr.iload_n 1, 1) := vyd_27 (vyb_cX6_pop_0 (i := 1) rfl)
theorem dX6_pop_2 : decode cX6_pop 2 = Except.ok (Instr.invokestatic 106, 3) := vyd_184 (vyb_cX6_pop_0 (i := 2) rfl) (vyb_cX6_pop_0 (i := 3) rfl) (vyb_cX6_pop_0 (i := 4) rfl) rfl
theorem dX6_pop_5 : decode cX6_pop 5 = Except.ok (Instr.iconst 1, 1) := vyd_4 (vyb_cX6_pop_0 (i := 5) rfl)
theorem dX6_pop_6 : decode cX6_pop 6 = Except.ok (Instr.invokevirtual 110, 3) := vyd_182 (vyb_cX6_pop_0 (i := 6) rfl) (vyb_cX6_pop_0 (i := 7) rfl) (vyb_cX6_pop_0 (i := 8) rfl) rfl
theorem dX6_pop_9 : decode cX6_pop 9 = Except.ok (Instr.ifCond .eq 7, 3) := vyd_153 (vyb_cX6_pop_0 (i := 9) rfl) (vyb_cX6_pop_1 (i := 0) rfl) (vyb_cX6_pop_1 (i := 1) rfl) (by decide +kernel)
theorem dX6_pop_12 : decode cX6_pop 12 = Except.ok (Instr.iconst 0, 1) := vyd_3 (vyb_cX6_pop_1 (i := 2) rfl)
theorem dX6_pop_13 : decode cX6_pop 13 = Except.ok (Instr.goto 11, 3) := vyd_167 (vyb_cX6_pop_1 (i := 3) rfl) (vyb_cX6_pop_1 (i := 4) rfl) (vyb_cX6_pop_1 (i := 5) rfl) (by decide +kernel)
theorem dX6_pop_16 : decode cX6_pop 16 = Except.ok (Instr.aload_n 0, 1) := vyd_42 (vyb_cX6_pop_1 (i := 6) rfl)
theorem dX6_pop_17 : decode cX6_pop 17 = Except.ok (Instr.iload_n 1, 1) := vyd_27 (vyb_cX6_pop_1 (i := 7) rfl)
theorem dX6_pop_18 : decode cX6_pop 18 = Except.ok (Instr.iconst 0, 1) := vyd_3 (vyb_cX6_pop_1 (i := 8) rfl)
theorem dX6_pop_19 : decode cX6_pop 19 = Except.ok (Instr.bipush (-9), 2) := vyd_16 (vyb_cX6_pop_1 (i := 9) rfl) (vyb_cX6_pop_2 (i := 0) rfl) (by decide +kernel)
theorem dX6_pop_21 : decode cX6_pop 21 = Except.ok (Instr.invokevirtual 141, 3) := vyd_182 (vyb_cX6_pop_2 (i := 1) rfl) (vyb_cX6_pop_2 (i := 2) rfl) (vyb_cX6_pop_2 (i := 3) rfl) rfl
theorem dX6_pop_24 : decode cX6_pop 24 = Except.ok (Instr.ireturn, 1) := vyd_172 (vyb_cX6_pop_2 (i := 4) rfl)
theorem vyb_cX6_serve_0 {i : Nat} {b : UInt8} (h : ([0x2a, 0x1b, 0xb8, 0x00, 0x6a, 0x04, 0xb6, 0x00, 0x6e, 0x99] : List UInt8)[i]? = some b) : vy_8 cX6_serve (0 + i) b := vy_in (n := 10) (by decide +kernel) h
theorem vyb_cX6_serve_1 {i : Nat} {b : UInt8} (h : ([0x00, 0x07, 0x03, 0xa7, 0x00, 0x13, 0x2a, 0x1b, 0x03, 0x1c] : List UInt8)[i]? = some b) : vy_8 cX6_serve (10 + i) b := vy_in (n := 10) (by decide +kernel) h
theorem vyb_cX6_serve_2 {i : Nat} {b : UInt8} (h : ([0x99, 0x00, 0x07, 0x03, 0xa7, 0x00, 0x05, 0x10, 0xf7, 0xb6] : List UInt8)[i]? = some b) : vy_8 cX6_serve (20 + i) b := vy_in (n := 10) (by decide +kernel) h
theorem vyb_cX6_serve_3 {i : Nat} {b : UInt8} (h : ([0x00, 0x8d, 0xac] : List UInt8)[i]? = some b) : vy_8 cX6_serve (30 + i) b := vy_in (n := 3) (by decide +kernel) h
theorem dX6_serve_0 : decode cX6_serve 0 = Except.ok (Instr.aload_n 0, 1) := vyd_42 (vyb_cX6_serve_0 (i := 0) rfl)
theorem dX6_serve_1 : decode cX6_serve 1 = Except.ok (Instr.iload_n 1, 1) := vyd_27 (vyb_cX6_serve_0 (i := 1) rfl)
theorem dX6_serve_2 : decode cX6_serve 2 = Except.ok (Instr.invokestatic 106, 3) := vyd_184 (vyb_cX6_serve_0 (i := 2) rfl) (vyb_cX6_serve_0 (i := 3) rfl) (vyb_cX6_serve_0 (i := 4) rfl) rfl
theorem dX6_serve_5 : decode cX6_serve 5 = Except.ok (Instr.iconst 1, 1) := vyd_4 (vyb_cX6_serve_0 (i := 5) rfl)
theorem dX6_serve_6 : decode cX6_serve 6 = Except.ok (Instr.invokevirtual 110, 3) := vyd_182 (vyb_cX6_serve_0 (i := 6) rfl) (vyb_cX6_serve_0 (i := 7) rfl) (vyb_cX6_serve_0 (i := 8) rfl) rfl
theorem dX6_serve_9 : decode cX6_serve 9 = Except.ok (Instr.ifCond .eq 7, 3) := vyd_153 (vyb_cX6_serve_0 (i := 9) rfl) (vyb_cX6_serve_1 (i := 0) rfl) (vyb_cX6_serve_1 (i := 1) rfl) (by decide +kernel)
theorem dX6_serve_12 : decode cX6_serve 12 = Except.ok (Instr.iconst 0, 1) := vyd_3 (vyb_cX6_serve_1 (i := 2) rfl)
theorem dX6_serve_13 : decode cX6_serve 13 = Except.ok (Instr.goto 19, 3) := vyd_167 (vyb_cX6_serve_1 (i := 3) rfl) (vyb_cX6_serve_1 (i := 4) rfl) (vyb_cX6_serve_1 (i := 5) rfl) (by decide +kernel)
theorem dX6_serve_16 : decode cX6_serve 16 = Except.ok (Instr.aload_n 0, 1) := vyd_42 (vyb_cX6_serve_1 (i := 6) rfl)
theorem dX6_serve_17 : decode cX6_serve 17 = Except.ok (Instr.iload_n 1, 1) := vyd_27 (vyb_cX6_serve_1 (i := 7) rfl)
theorem dX6_serve_18 : decode cX6_serve 18 = Except.ok (Instr.iconst 0, 1) := vyd_3 (vyb_cX6_serve_1 (i := 8) rfl)
theorem dX6_serve_19 : decode cX6_serve 19 = Except.ok (Instr.iload_n 2, 1) := vyd_28 (vyb_cX6_serve_1 (i := 9) rfl)
theorem dX6_serve_20 : decode cX6_serve 20 = Except.ok (Instr.ifCond .eq 7, 3) := vyd_153 (vyb_cX6_serve_2 (i := 0) rfl) (vyb_cX6_serve_2 (i := 1) rfl) (vyb_cX6_serve_2 (i := 2) rfl) (by decide +kernel)
theorem dX6_serve_23 : decode cX6_serve 23 = Except.ok (Instr.iconst 0, 1) := vyd_3 (vyb_cX6_serve_2 (i := 3) rfl)
theorem dX6_serve_24 : decode cX6_serve 24 = Except.ok (Instr.goto 5, 3) := vyd_167 (vyb_cX6_serve_2 (i := 4) rfl) (vyb_cX6_serve_2 (i := 5) rfl) (vyb_cX6_serve_2 (i := 6) rfl) (by decide +kernel)
theorem dX6_serve_27 : decode cX6_serve 27 = Except.ok (Instr.bipush (-9), 2) := vyd_16 (vyb_cX6_serve_2 (i := 7) rfl) (vyb_cX6_serve_2 (i := 8) rfl) (by decide +kernel)
theorem dX6_serve_29 : decode cX6_serve 29 = Except.ok (Instr.invokevirtual 141, 3) := vyd_182 (vyb_cX6_serve_2 (i := 9) rfl) (vyb_cX6_serve_3 (i := 0) rfl) (vyb_cX6_serve_3 (i := 1) rfl) rfl
theorem dX6_serve_32 : decode cX6_serve 32 = Except.ok (Instr.ireturn, 1) := vyd_172 (vyb_cX6_serve_3 (i := 2) rfl)
theorem vyb_cX6_rotate_0 {i : Nat} {b : UInt8} (h : ([0x2a, 0x1b, 0xb8, 0x00, 0x6a, 0x04, 0xb6, 0x00, 0x6e, 0x9a] : List UInt8)[i]? = some b) : vy_8 cX6_rotate (0 + i) b := vy_in (n := 10) (by decide +kernel) h
theorem vyb_cX6_rotate_1 {i : Nat} {b : UInt8} (h : ([0x00, 0x1b, 0x2a, 0x1c, 0x10, 0xfa, 0x10, 0x06, 0xb8, 0x00] : List UInt8)[i]? = some b) : vy_8 cX6_rotate (10 + i) b := vy_in (n := 10) (by decide +kernel) h
theorem vyb_cX6_rotate_2 {i : Nat} {b : UInt8} (h : ([0x2c, 0x9a, 0x00, 0x07, 0x04, 0xa7, 0x00, 0x04, 0x03, 0x05] : List UInt8)[i]? = some b) : vy_8 cX6_rotate (20 + i) b := vy_in (n := 10) (by decide +kernel) h
theorem vyb_cX6_rotate_3 {i : Nat} {b : UInt8} (h : ([0xb6, 0x00, 0x28, 0x99, 0x00, 0x05, 0x03, 0xac, 0x2a, 0x1b] : List UInt8)[i]? = some b) : vy_8 cX6_rotate (30 + i) b := vy_in (n := 10) (by decide +kernel) h
theorem vyb_cX6_rotate_4 {i : Nat} {b : UInt8} (h : ([0xb6, 0x00, 0x5b, 0x9a, 0x00, 0x05, 0x03, 0xac, 0x03, 0x3e] : List UInt8)[i]? = some b) : vy_8 cX6_rotate (40 + i) b := vy_in (n := 10) (by decide +kernel) h
theorem vyb_cX6_rotate_5 {i : Nat} {b : UInt8} (h : ([0x1d, 0x1c, 0xb8, 0x00, 0x91, 0xa2, 0x00, 0x25, 0x2a, 0x1b] : List UInt8)[i]? = some b) : vy_8 cX6_rotate (50 + i) b := vy_in (n := 10) (by decide +kernel) h
theorem vyb_cX6_rotate_6 {i : Nat} {b : UInt8} (h : ([0x1c, 0x9c, 0x00, 0x07, 0x04, 0xa7, 0x00, 0x04, 0x03, 0x2a] : List UInt8)[i]? = some b) : vy_8 cX6_rotate (60 + i) b := vy_in (n := 10) (by decide +kernel) h
theorem vyb_cX6_rotate_7 {i : Nat} {b : UInt8} (h : ([0x1b, 0x1c, 0x9e, 0x00, 0x07, 0x04, 0xa7, 0x00, 0x04, 0x03] : List UInt8)[i]? = some b) : vy_8 cX6_rotate (70 + i) b := vy_in (n := 10) (by decide +kernel) h
theorem vyb_cX6_rotate_8 {i : Nat} {b : UInt8} (h : ([0xb6, 0x00, 0x89, 0xb6, 0x00, 0x7f, 0x84, 0x03, 0x01, 0xa7] : List UInt8)[i]? = some b) : vy_8 cX6_rotate (80 + i) b := vy_in (n := 10) (by decide +kernel) h
theorem vyb_cX6_rotate_9 {i : Nat} {b : UInt8} (h : ([0xff, 0xd9, 0x2a, 0x1b, 0x03, 0xb6, 0x00, 0x83, 0xac] : List UInt8)[i]? = some b) : vy_8 cX6_rotate (90 + i) b := vy_in (n := 9) (by decide +kernel) h
theorem dX6_rotate_0 : decode cX6_rotate 0 = Except.ok (Instr.aload_n 0, 1) := vyd_42 (vyb_cX6_rotate_0 (i := 0) rfl)
theorem dX6_rotate_1 : decode cX6_rotate 1 = Except.ok (Instr.iload_n 1, 1) := vyd_27 (vyb_cX6_rotate_0 (i := 1) rfl)
theorem dX6_rotate_2 : decode cX6_rotate 2 = Except.ok (Instr.invokestatic 106, 3) := vyd_184 (vyb_cX6_rotate_0 (i := 2) rfl) (vyb_cX6_rotate_0 (i := 3) rfl) (vyb_cX6_rotate_0 (i := 4) rfl) rfl
theorem dX6_rotate_5 : decode cX6_rotate 5 = Except.ok (Instr.iconst 1, 1) := vyd_4 (vyb_cX6_rotate_0 (i := 5) rfl)
theorem dX6_rotate_6 : decode cX6_rotate 6 = Except.ok (Instr.invokevirtual 110, 3) := vyd_182 (vyb_cX6_rotate_0 (i := 6) rfl) (vyb_cX6_rotate_0 (i := 7) rfl) (vyb_cX6_rotate_0 (i := 8) rfl) rfl
theorem dX6_rotate_9 : decode cX6_rotate 9 = Except.ok (Instr.ifCond .ne 27, 3) := vyd_154 (vyb_cX6_rotate_0 (i := 9) rfl) (vyb_cX6_rotate_1 (i := 0) rfl) (vyb_cX6_rotate_1 (i := 1) rfl) (by decide +kernel)
theorem dX6_rotate_12 : decode cX6_rotate 12 = Except.ok (Instr.aload_n 0, 1) := vyd_42 (vyb_cX6_rotate_1 (i := 2) rfl)
theorem dX6_rotate_13 : decode cX6_rotate 13 = Except.ok (Instr.iload_n 2, 1) := vyd_28 (vyb_cX6_rotate_1 (i := 3) rfl)
theorem dX6_rotate_14 : decode cX6_rotate 14 = Except.ok (Instr.bipush (-6), 2) := vyd_16 (vyb_cX6_rotate_1 (i := 4) rfl) (vyb_cX6_rotate_1 (i := 5) rfl) (by decide +kernel)
theorem dX6_rotate_16 : decode cX6_rotate 16 = Except.ok (Instr.bipush 6, 2) := vyd_16 (vyb_cX6_rotate_1 (i := 6) rfl) (vyb_cX6_rotate_1 (i := 7) rfl) (by decide +kernel)
theorem dX6_rotate_18 : decode cX6_rotate 18 = Except.ok (Instr.invokestatic 44, 3) := vyd_184 (vyb_cX6_rotate_1 (i := 8) rfl) (vyb_cX6_rotate_1 (i := 9) rfl) (vyb_cX6_rotate_2 (i := 0) rfl) rfl
theorem dX6_rotate_21 : decode cX6_rotate 21 = Except.ok (Instr.ifCond .ne 7, 3) := vyd_154 (vyb_cX6_rotate_2 (i := 1) rfl) (vyb_cX6_rotate_2 (i := 2) rfl) (vyb_cX6_rotate_2 (i := 3) rfl) (by decide +kernel)
theorem dX6_rotate_24 : decode cX6_rotate 24 = Except.ok (Instr.iconst 1, 1) := vyd_4 (vyb_cX6_rotate_2 (i := 4) rfl)
theorem dX6_rotate_25 : decode cX6_rotate 25 = Except.ok (Instr.goto 4, 3) := vyd_167 (vyb_cX6_rotate_2 (i := 5) rfl) (vyb_cX6_rotate_2 (i := 6) rfl) (vyb_cX6_rotate_2 (i := 7) rfl) (by decide +kernel)
theorem dX6_rotate_28 : decode cX6_rotate 28 = Except.ok (Instr.iconst 0, 1) := vyd_3 (vyb_cX6_rotate_2 (i := 8) rfl)
theorem dX6_rotate_29 : decode cX6_rotate 29 = Except.ok (Instr.iconst 2, 1) := vyd_5 (vyb_cX6_rotate_2 (i := 9) rfl)
theorem dX6_rotate_30 : decode cX6_rotate 30 = Except.ok (Instr.invokevirtual 40, 3) := vyd_182 (vyb_cX6_rotate_3 (i := 0) rfl) (vyb_cX6_rotate_3 (i := 1) rfl) (vyb_cX6_rotate_3 (i := 2) rfl) rfl
theorem dX6_rotate_33 : decode cX6_rotate 33 = Except.ok (Instr.ifCond .eq 5, 3) := vyd_153 (vyb_cX6_rotate_3 (i := 3) rfl) (vyb_cX6_rotate_3 (i := 4) rfl) (vyb_cX6_rotate_3 (i := 5) rfl) (by decide +kernel)
theorem dX6_rotate_36 : decode cX6_rotate 36 = Except.ok (Instr.iconst 0, 1) := vyd_3 (vyb_cX6_rotate_3 (i := 6) rfl)
theorem dX6_rotate_37 : decode cX6_rotate 37 = Except.ok (Instr.ireturn, 1) := vyd_172 (vyb_cX6_rotate_3 (i := 7) rfl)
theorem dX6_rotate_38 : decode cX6_rotate 38 = Except.ok (Instr.aload_n 0, 1) := vyd_42 (vyb_cX6_rotate_3 (i := 8) rfl)
theorem dX6_rotate_39 : decode cX6_rotate 39 = Except.ok (Instr.iload_n 1, 1) := vyd_27 (vyb_cX6_rotate_3 (i := 9) rfl)
theorem dX6_rotate_40 : decode cX6_rotate 40 = Except.ok (Instr.invokevirtual 91, 3) := vyd_182 (vyb_cX6_rotate_4 (i := 0) rfl) (vyb_cX6_rotate_4 (i := 1) rfl) (vyb_cX6_rotate_4 (i := 2) rfl) rfl
theorem dX6_rotate_43 : decode cX6_rotate 43 = Except.ok (Instr.ifCond .ne 5, 3) := vyd_154 (vyb_cX6_rotate_4 (i := 3) rfl) (vyb_cX6_rotate_4 (i := 4) rfl) (vyb_cX6_rotate_4 (i := 5) rfl) (by decide +kernel)
theorem dX6_rotate_46 : decode cX6_rotate 46 = Except.ok (Instr.iconst 0, 1) := vyd_3 (vyb_cX6_rotate_4 (i := 6) rfl)
theorem dX6_rotate_47 : decode cX6_rotate 47 = Except.ok (Instr.ireturn, 1) := vyd_172 (vyb_cX6_rotate_4 (i := 7) rfl)
theorem dX6_rotate_48 : decode cX6_rotate 48 = Except.ok (Instr.iconst 0, 1) := vyd_3 (vyb_cX6_rotate_4 (i := 8) rfl)
theorem dX6_rotate_49 : decode cX6_rotate 49 = Except.ok (Instr.istore_n 3, 1) := vyd_62 (vyb_cX6_rotate_4 (i := 9) rfl)
theorem dX6_rotate_50 : decode cX6_rotate 50 = Except.ok (Instr.iload_n 3, 1) := vyd_29 (vyb_cX6_rotate_5 (i := 0) rfl)
theorem dX6_rotate_51 : decode cX6_rotate 51 = Except.ok (Instr.iload_n 2, 1) := vyd_28 (vyb_cX6_rotate_5 (i := 1) rfl)
theorem dX6_rotate_52 : decode cX6_rotate 52 = Except.ok (Instr.invokestatic 145, 3) := vyd_184 (vyb_cX6_rotate_5 (i := 2) rfl) (vyb_cX6_rotate_5 (i := 3) rfl) (vyb_cX6_rotate_5 (i := 4) rfl) rfl
theorem dX6_rotate_55 : decode cX6_rotate 55 = Except.ok (Instr.if_icmp .ge 37, 3) := vyd_162 (vyb_cX6_rotate_5 (i := 5) rfl) (vyb_cX6_rotate_5 (i := 6) rfl) (vyb_cX6_rotate_5 (i := 7) rfl) (by decide +kernel)
theorem dX6_rotate_58 : decode cX6_rotate 58 = Except.ok (Instr.aload_n 0, 1) := vyd_42 (vyb_cX6_rotate_5 (i := 8) rfl)
theorem dX6_rotate_59 : decode cX6_rotate 59 = Except.ok (Instr.iload_n 1, 1) := vyd_27 (vyb_cX6_rotate_5 (i := 9) rfl)
theorem dX6_rotate_60 : decode cX6_rotate 60 = Except.ok (Instr.iload_n 2, 1) := vyd_28 (vyb_cX6_rotate_6 (i := 0) rfl)
theorem dX6_rotate_61 : decode cX6_rotate 61 = Except.ok (Instr.ifCond .ge 7, 3) := vyd_156 (vyb_cX6_rotate_6 (i := 1) rfl) (vyb_cX6_rotate_6 (i := 2) rfl) (vyb_cX6_rotate_6 (i := 3) rfl) (by decide +kernel)
theorem dX6_rotate_64 : decode cX6_rotate 64 = Except.ok (Instr.iconst 1, 1) := vyd_4 (vyb_cX6_rotate_6 (i := 4) rfl)
theorem dX6_rotate_65 : decode cX6_rotate 65 = Except.ok (Instr.goto 4, 3) := vyd_167 (vyb_cX6_rotate_6 (i := 5) rfl) (vyb_cX6_rotate_6 (i := 6) rfl) (vyb_cX6_rotate_6 (i := 7) rfl) (by decide +kernel)
theorem dX6_rotate_68 : decode cX6_rotate 68 = Except.ok (Instr.iconst 0, 1) := vyd_3 (vyb_cX6_rotate_6 (i := 8) rfl)
theorem dX6_rotate_69 : decode cX6_rotate 69 = Except.ok (Instr.aload_n 0, 1) := vyd_42 (vyb_cX6_rotate_6 (i := 9) rfl)
theorem dX6_rotate_70 : decode cX6_rotate 70 = Except.ok (Instr.iload_n 1, 1) := vyd_27 (vyb_cX6_rotate_7 (i := 0) rfl)
theorem dX6_rotate_71 : decode cX6_rotate 71 = Except.ok (Instr.iload_n 2, 1) := vyd_28 (vyb_cX6_rotate_7 (i := 1) rfl)
theorem dX6_rotate_72 : decode cX6_rotate 72 = Except.ok (Instr.ifCond .le 7, 3) := vyd_158 (vyb_cX6_rotate_7 (i := 2) rfl) (vyb_cX6_rotate_7 (i := 3) rfl) (vyb_cX6_rotate_7 (i := 4) rfl) (by decide +kernel)
theorem dX6_rotate_75 : decode cX6_rotate 75 = Except.ok (Instr.iconst 1, 1) := vyd_4 (vyb_cX6_rotate_7 (i := 5) rfl)
theorem dX6_rotate_76 : decode cX6_rotate 76 = Except.ok (Instr.goto 4, 3) := vyd_167 (vyb_cX6_rotate_7 (i := 6) rfl) (vyb_cX6_rotate_7 (i := 7) rfl) (vyb_cX6_rotate_7 (i := 8) rfl) (by decide +kernel)
theorem dX6_rotate_79 : decode cX6_rotate 79 = Except.ok (Instr.iconst 0, 1) := vyd_3 (vyb_cX6_rotate_7 (i := 9) rfl)
theorem dX6_rotate_80 : decode cX6_rotate 80 = Except.ok (Instr.invokevirtual 137, 3) := vyd_182 (vyb_cX6_rotate_8 (i := 0) rfl) (vyb_cX6_rotate_8 (i := 1) rfl) (vyb_cX6_rotate_8 (i := 2) rfl) rfl
theorem dX6_rotate_83 : decode cX6_rotate 83 = Except.ok (Instr.invokevirtual 127, 3) := vyd_182 (vyb_cX6_rotate_8 (i := 3) rfl) (vyb_cX6_rotate_8 (i := 4) rfl) (vyb_cX6_rotate_8 (i := 5) rfl) rfl
theorem dX6_rotate_86 : decode cX6_rotate 86 = .ok (.iinc 3 1, 3) := by decide +kernel
theorem dX6_rotate_89 : decode cX6_rotate 89 = Except.ok (Instr.goto (-39), 3) := vyd_167 (vyb_cX6_rotate_8 (i := 9) rfl) (vyb_cX6_rotate_9 (i := 0) rfl) (vyb_cX6_rotate_9 (i := 1) rfl) (by decide +kernel)
theorem dX6_rotate_92 : decode cX6_rotate 92 = Except.ok (Instr.aload_n 0, 1) := vyd_42 (vyb_cX6_rotate_9 (i := 2) rfl)
theorem dX6_rotate_93 : decode cX6_rotate 93 = Except.ok (Instr.iload_n 1, 1) := vyd_27 (vyb_cX6_rotate_9 (i := 3) rfl)
theorem dX6_rotate_94 : decode cX6_rotate 94 = Except.ok (Instr.iconst 0, 1) := vyd_3 (vyb_cX6_rotate_9 (i := 4) rfl)
theorem dX6_rotate_95 : decode cX6_rotate 95 = Except.ok (Instr.invokevirtual 131, 3) := vyd_182 (vyb_cX6_rotate_9 (i := 5) rfl) (vyb_cX6_rotate_9 (i := 6) rfl) (vyb_cX6_rotate_9 (i := 7) rfl) rfl
theorem dX6_rotate_98 : decode cX6_rotate 98 = Except.ok (Instr.ireturn, 1) := vyd_172 (vyb_cX6_rotate_9 (i := 8) rfl)
theorem vyb_cX6_undo_0 {i : Nat} {b : UInt8} (h : ([0x2a, 0x03, 0xb5, 0x00, 0x25, 0x2a, 0xb4, 0x00, 0x10, 0xb6] : List UInt8)[i]? = some b) : vy_8 cX6_undo (0 + i) b := vy_in (n := 10) (by decide +kernel) h
theorem vyb_cX6_undo_1 {i : Nat} {b : UInt8} (h : ([0x00, 0x96, 0x99, 0x00, 0x06, 0x10, 0xf7, 0xac, 0x2a, 0xb4] : List UInt8)[i]? = some b) : vy_8 cX6_undo (10 + i) b := vy_in (n := 10) (by decide +kernel) h
theorem vyb_cX6_undo_2 {i : Nat} {b : UInt8} (h : ([0x00, 0x10, 0x2a, 0xb4, 0x00, 0x10, 0xb6, 0x00, 0x34, 0x04] : List UInt8)[i]? = some b) : vy_8 cX6_undo (20 + i) b := vy_in (n := 10) (by decide +kernel) h
theorem vyb_cX6_undo_3 {i : Nat} {b : UInt8} (h : ([0x64, 0xb6, 0x00, 0x51, 0xc0, 0x00, 0x38, 0xb6, 0x00, 0x3a] : List UInt8)[i]? = some b) : vy_8 cX6_undo (30 + i) b := vy_in (n := 10) (by decide +kernel) h
theorem vyb_cX6_undo_4 {i : Nat} {b : UInt8} (h : ([0x3c, 0x1b, 0x11, 0x0f, 0xa0, 0x6c, 0x3d, 0x1b, 0x11, 0x07] : List UInt8)[i]? = some b) : vy_8 cX6_undo (40 + i) b := vy_in (n := 10) (by decide +kernel) h
theorem vyb_cX6_undo_5 {i : Nat} {b : UInt8} (h : ([0xd0, 0x6c, 0x05, 0x70, 0x04, 0xa0, 0x00, 0x07, 0x04, 0xa7] : List UInt8)[i]? = some b) : vy_8 cX6_undo (50 + i) b := vy_in (n := 10) (by decide +kernel) h
theorem vyb_cX6_undo_6 {i : Nat} {b : UInt8} (h : ([0x00, 0x04, 0x03, 0x3e, 0x1b, 0x11, 0x03, 0xe8, 0x6c, 0x05] : List UInt8)[i]? = some b) : vy_8 cX6_undo (60 + i) b := vy_in (n := 10) (by decide +kernel) h
theorem vyb_cX6_undo_7 {i : Nat} {b : UInt8} (h : ([0x70, 0x04, 0xa0, 0x00, 0x1b, 0x2a, 0x1c, 0x1d, 0x99, 0x00] : List UInt8)[i]? = some b) : vy_8 cX6_undo (70 + i) b := vy_in (n := 10) (by decide +kernel) h
theorem vyb_cX6_undo_8 {i : Nat} {b : UInt8} (h : ([0x0d, 0x2a, 0x1c, 0xb6, 0x00, 0x5b, 0x04, 0x64, 0xa7, 0x00] : List UInt8)[i]? = some b) : vy_8 cX6_undo (80 + i) b := vy_in (n := 10) (by decide +kernel) h
theorem vyb_cX6_undo_9 {i : Nat} {b : UInt8} (h : ([0x04, 0x03, 0xb6, 0x00, 0x66, 0x57, 0xa7, 0x00, 0x1a, 0x2a] : List UInt8)[i]? = some b) : vy_8 cX6_undo (90 + i) b := vy_in (n := 10) (by decide +kernel) h
theorem vyb_cX6_undo_10 {i : Nat} {b : UInt8} (h : ([0x1c, 0x1d, 0x99, 0x00, 0x0b, 0x2a, 0x1c, 0xb6, 0x00, 0x5b] : List UInt8)[i]? = some b) : vy_8 cX6_undo (100 + i) b := vy_in (n := 10) (by decide +kernel) h
theorem vyb_cX6_undo_11 {i : Nat} {b : UInt8} (h : ([0xa7, 0x00, 0x04, 0x03, 0x1b, 0x11, 0x03, 0xe8, 0x70, 0xb6] : List UInt8)[i]? = some b) : vy_8 cX6_undo (110 + i) b := vy_in (n := 10) (by decide +kernel) h
theorem vyb_cX6_undo_12 {i : Nat} {b : UInt8} (h : ([0x00, 0x5e, 0x1b, 0xac] : List UInt8)[i]? = some b) : vy_8 cX6_undo (120 + i) b := vy_in (n := 4) (by decide +kernel) h
theorem dX6_undo_0 : decode cX6_undo 0 = Except.ok (Instr.aload_n 0, 1) := vyd_42 (vyb_cX6_undo_0 (i := 0) rfl)
theorem dX6_undo_1 : decode cX6_undo 1 = Except.ok (Instr.iconst 0, 1) := vyd_3 (vyb_cX6_undo_0 (i := 1) rfl)
theorem dX6_undo_2 : decode cX6_undo 2 = Except.ok (Instr.putfield 37, 3) := vyd_181 (vyb_cX6_undo_0 (i := 2) rfl) (vyb_cX6_undo_0 (i := 3) rfl) (vyb_cX6_undo_0 (i := 4) rfl) rfl
theorem dX6_undo_5 : decode cX6_undo 5 = Except.ok (Instr.aload_n 0, 1) := vyd_42 (vyb_cX6_undo_0 (i := 5) rfl)
theorem dX6_undo_6 : decode cX6_undo 6 = Except.ok (Instr.getfield 16, 3) := vyd_180 (vyb_cX6_undo_0 (i := 6) rfl) (vyb_cX6_undo_0 (i := 7) rfl) (vyb_cX6_undo_0 (i := 8) rfl) rfl
theorem dX6_undo_9 : decode cX6_undo 9 = Except.ok (Instr.invokevirtual 150, 3) := vyd_182 (vyb_cX6_undo_0 (i := 9) rfl) (vyb_cX6_undo_1 (i := 0) rfl) (vyb_cX6_undo_1 (i := 1) rfl) rfl
theorem dX6_undo_12 : decode cX6_undo 12 = Except.ok (Instr.ifCond .eq 6, 3) := vyd_153 (vyb_cX6_undo_1 (i := 2) rfl) (vyb_cX6_undo_1 (i := 3) rfl) (vyb_cX6_undo_1 (i := 4) rfl) (by decide +kernel)
theorem dX6_undo_15 : decode cX6_undo 15 = Except.ok (Instr.bipush (-9), 2) := vyd_16 (vyb_cX6_undo_1 (i := 5) rfl) (vyb_cX6_undo_1 (i := 6) rfl) (by decide +kernel)
theorem dX6_undo_17 : decode cX6_undo 17 = Except.ok (Instr.ireturn, 1) := vyd_172 (vyb_cX6_undo_1 (i := 7) rfl)
theorem dX6_undo_18 : decode cX6_undo 18 = Except.ok (Instr.aload_n 0, 1) := vyd_42 (vyb_cX6_undo_1 (i := 8) rfl)
theorem dX6_undo_19 : decode cX6_undo 19 = Except.ok (Instr.getfield 16, 3) := vyd_180 (vyb_cX6_undo_1 (i := 9) rfl) (vyb_cX6_undo_2 (i := 0) rfl) (vyb_cX6_undo_2 (i := 1) rfl) rfl
theorem dX6_undo_22 : decode cX6_undo 22 = Except.ok (Instr.aload_n 0, 1) := vyd_42 (vyb_cX6_undo_2 (i := 2) rfl)
theorem dX6_undo_23 : decode cX6_undo 23 = Except.ok (Instr.getfield 16, 3) := vyd_180 (vyb_cX6_undo_2 (i := 3) rfl) (vyb_cX6_undo_2 (i := 4) rfl) (vyb_cX6_undo_2 (i := 5) rfl) rfl
theorem dX6_undo_26 : decode cX6_undo 26 = Except.ok (Instr.invokevirtual 52, 3) := vyd_182 (vyb_cX6_undo_2 (i := 6) rfl) (vyb_cX6_undo_2 (i := 7) rfl) (vyb_cX6_undo_2 (i := 8) rfl) rfl
theorem dX6_undo_29 : decode cX6_undo 29 = Except.ok (Instr.iconst 1, 1) := vyd_4 (vyb_cX6_undo_2 (i := 9) rfl)
theorem dX6_undo_30 : decode cX6_undo 30 = Except.ok (Instr.isub, 1) := vyd_100 (vyb_cX6_undo_3 (i := 0) rfl)
theorem dX6_undo_31 : decode cX6_undo 31 = Except.ok (Instr.invokevirtual 81, 3) := vyd_182 (vyb_cX6_undo_3 (i := 1) rfl) (vyb_cX6_undo_3 (i := 2) rfl) (vyb_cX6_undo_3 (i := 3) rfl) rfl
theorem dX6_undo_34 : decode cX6_undo 34 = Except.ok (Instr.checkcast 56, 3) := vyd_192 (vyb_cX6_undo_3 (i := 4) rfl) (vyb_cX6_undo_3 (i := 5) rfl) (vyb_cX6_undo_3 (i := 6) rfl) rfl
theorem dX6_undo_37 : decode cX6_undo 37 = Except.ok (Instr.invokevirtual 58, 3) := vyd_182 (vyb_cX6_undo_3 (i := 7) rfl) (vyb_cX6_undo_3 (i := 8) rfl) (vyb_cX6_undo_3 (i := 9) rfl) rfl
theorem dX6_undo_40 : decode cX6_undo 40 = Except.ok (Instr.istore_n 1, 1) := vyd_60 (vyb_cX6_undo_4 (i := 0) rfl)
theorem dX6_undo_41 : decode cX6_undo 41 = Except.ok (Instr.iload_n 1, 1) := vyd_27 (vyb_cX6_undo_4 (i := 1) rfl)
theorem dX6_undo_42 : decode cX6_undo 42 = Except.ok (Instr.sipush 4000, 3) := vyd_17 (vyb_cX6_undo_4 (i := 2) rfl) (vyb_cX6_undo_4 (i := 3) rfl) (vyb_cX6_undo_4 (i := 4) rfl) (by decide +kernel)
theorem dX6_undo_45 : decode cX6_undo 45 = Except.ok (Instr.idiv, 1) := vyd_108 (vyb_cX6_undo_4 (i := 5) rfl)
theorem dX6_undo_46 : decode cX6_undo 46 = Except.ok (Instr.istore_n 2, 1) := vyd_61 (vyb_cX6_undo_4 (i := 6) rfl)
theorem dX6_undo_47 : decode cX6_undo 47 = Except.ok (Instr.iload_n 1, 1) := vyd_27 (vyb_cX6_undo_4 (i := 7) rfl)
theorem dX6_undo_48 : decode cX6_undo 48 = Except.ok (Instr.sipush 2000, 3) := vyd_17 (vyb_cX6_undo_4 (i := 8) rfl) (vyb_cX6_undo_4 (i := 9) rfl) (vyb_cX6_undo_5 (i := 0) rfl) (by decide +kernel)
theorem dX6_undo_51 : decode cX6_undo 51 = Except.ok (Instr.idiv, 1) := vyd_108 (vyb_cX6_undo_5 (i := 1) rfl)
theorem dX6_undo_52 : decode cX6_undo 52 = Except.ok (Instr.iconst 2, 1) := vyd_5 (vyb_cX6_undo_5 (i := 2) rfl)
theorem dX6_undo_53 : decode cX6_undo 53 = Except.ok (Instr.irem, 1) := vyd_112 (vyb_cX6_undo_5 (i := 3) rfl)
theorem dX6_undo_54 : decode cX6_undo 54 = Except.ok (Instr.iconst 1, 1) := vyd_4 (vyb_cX6_undo_5 (i := 4) rfl)
theorem dX6_undo_55 : decode cX6_undo 55 = Except.ok (Instr.if_icmp .ne 7, 3) := vyd_160 (vyb_cX6_undo_5 (i := 5) rfl) (vyb_cX6_undo_5 (i := 6) rfl) (vyb_cX6_undo_5 (i := 7) rfl) (by decide +kernel)
theorem dX6_undo_58 : decode cX6_undo 58 = Except.ok (Instr.iconst 1, 1) := vyd_4 (vyb_cX6_undo_5 (i := 8) rfl)
theorem dX6_undo_59 : decode cX6_undo 59 = Except.ok (Instr.goto 4, 3) := vyd_167 (vyb_cX6_undo_5 (i := 9) rfl) (vyb_cX6_undo_6 (i := 0) rfl) (vyb_cX6_undo_6 (i := 1) rfl) (by decide +kernel)
theorem dX6_undo_62 : decode cX6_undo 62 = Except.ok (Instr.iconst 0, 1) := vyd_3 (vyb_cX6_undo_6 (i := 2) rfl)
theorem dX6_undo_63 : decode cX6_undo 63 = Except.ok (Instr.istore_n 3, 1) := vyd_62 (vyb_cX6_undo_6 (i := 3) rfl)
theorem dX6_undo_64 : decode cX6_undo 64 = Except.ok (Instr.iload_n 1, 1) := vyd_27 (vyb_cX6_undo_6 (i := 4) rfl)
theorem dX6_undo_65 : decode cX6_undo 65 = Except.ok (Instr.sipush 1000, 3) := vyd_17 (vyb_cX6_undo_6 (i := 5) rfl) (vyb_cX6_undo_6 (i := 6) rfl) (vyb_cX6_undo_6 (i := 7) rfl) (by decide +kernel)
theorem dX6_undo_68 : decode cX6_undo 68 = Except.ok (Instr.idiv, 1) := vyd_108 (vyb_cX6_undo_6 (i := 8) rfl)
theorem dX6_undo_69 : decode cX6_undo 69 = Except.ok (Instr.iconst 2, 1) := vyd_5 (vyb_cX6_undo_6 (i := 9) rfl)
theorem dX6_undo_70 : decode cX6_undo 70 = Except.ok (Instr.irem, 1) := vyd_112 (vyb_cX6_undo_7 (i := 0) rfl)
theorem dX6_undo_71 : decode cX6_undo 71 = Except.ok (Instr.iconst 1, 1) := vyd_4 (vyb_cX6_undo_7 (i := 1) rfl)
theorem dX6_undo_72 : decode cX6_undo 72 = Except.ok (Instr.if_icmp .ne 27, 3) := vyd_160 (vyb_cX6_undo_7 (i := 2) rfl) (vyb_cX6_undo_7 (i := 3) rfl) (vyb_cX6_undo_7 (i := 4) rfl) (by decide +kernel)
theorem dX6_undo_75 : decode cX6_undo 75 = Except.ok (Instr.aload_n 0, 1) := vyd_42 (vyb_cX6_undo_7 (i := 5) rfl)
theorem dX6_undo_76 : decode cX6_undo 76 = Except.ok (Instr.iload_n 2, 1) := vyd_28 (vyb_cX6_undo_7 (i := 6) rfl)
theorem dX6_undo_77 : decode cX6_undo 77 = Except.ok (Instr.iload_n 3, 1) := vyd_29 (vyb_cX6_undo_7 (i := 7) rfl)
theorem dX6_undo_78 : decode cX6_undo 78 = Except.ok (Instr.ifCond .eq 13, 3) := vyd_153 (vyb_cX6_undo_7 (i := 8) rfl) (vyb_cX6_undo_7 (i := 9) rfl) (vyb_cX6_undo_8 (i := 0) rfl) (by decide +kernel)
theorem dX6_undo_81 : decode cX6_undo 81 = Except.ok (Instr.aload_n 0, 1) := vyd_42 (vyb_cX6_undo_8 (i := 1) rfl)
theorem dX6_undo_82 : decode cX6_undo 82 = Except.ok (Instr.iload_n 2, 1) := vyd_28 (vyb_cX6_undo_8 (i := 2) rfl)
theorem dX6_undo_83 : decode cX6_undo 83 = Except.ok (Instr.invokevirtual 91, 3) := vyd_182 (vyb_cX6_undo_8 (i := 3) rfl) (vyb_cX6_undo_8 (i := 4) rfl) (vyb_cX6_undo_8 (i := 5) rfl) rfl
theorem dX6_undo_86 : decode cX6_undo 86 = Except.ok (Instr.iconst 1, 1) := vyd_4 (vyb_cX6_undo_8 (i := 6) rfl)
theorem dX6_undo_87 : decode cX6_undo 87 = Except.ok (Instr.isub, 1) := vyd_100 (vyb_cX6_undo_8 (i := 7) rfl)
theorem dX6_undo_88 : decode cX6_undo 88 = Except.ok (Instr.goto 4, 3) := vyd_167 (vyb_cX6_undo_8 (i := 8) rfl) (vyb_cX6_undo_8 (i := 9) rfl) (vyb_cX6_undo_9 (i := 0) rfl) (by decide +kernel)
theorem dX6_undo_91 : decode cX6_undo 91 = Except.ok (Instr.iconst 0, 1) := vyd_3 (vyb_cX6_undo_9 (i := 1) rfl)
theorem dX6_undo_92 : decode cX6_undo 92 = Except.ok (Instr.invokevirtual 102, 3) := vyd_182 (vyb_cX6_undo_9 (i := 2) rfl) (vyb_cX6_undo_9 (i := 3) rfl) (vyb_cX6_undo_9 (i := 4) rfl) rfl
theorem dX6_undo_95 : decode cX6_undo 95 = Except.ok (Instr.pop, 1) := vyd_87 (vyb_cX6_undo_9 (i := 5) rfl)
theorem dX6_undo_96 : decode cX6_undo 96 = Except.ok (Instr.goto 26, 3) := vyd_167 (vyb_cX6_undo_9 (i := 6) rfl) (vyb_cX6_undo_9 (i := 7) rfl) (vyb_cX6_undo_9 (i := 8) rfl) (by decide +kernel)
theorem dX6_undo_99 : decode cX6_undo 99 = Except.ok (Instr.aload_n 0, 1) := vyd_42 (vyb_cX6_undo_9 (i := 9) rfl)
theorem dX6_undo_100 : decode cX6_undo 100 = Except.ok (Instr.iload_n 2, 1) := vyd_28 (vyb_cX6_undo_10 (i := 0) rfl)
theorem dX6_undo_101 : decode cX6_undo 101 = Except.ok (Instr.iload_n 3, 1) := vyd_29 (vyb_cX6_undo_10 (i := 1) rfl)
theorem dX6_undo_102 : decode cX6_undo 102 = Except.ok (Instr.ifCond .eq 11, 3) := vyd_153 (vyb_cX6_undo_10 (i := 2) rfl) (vyb_cX6_undo_10 (i := 3) rfl) (vyb_cX6_undo_10 (i := 4) rfl) (by decide +kernel)
theorem dX6_undo_105 : decode cX6_undo 105 = Except.ok (Instr.aload_n 0, 1) := vyd_42 (vyb_cX6_undo_10 (i := 5) rfl)
theorem dX6_undo_106 : decode cX6_undo 106 = Except.ok (Instr.iload_n 2, 1) := vyd_28 (vyb_cX6_undo_10 (i := 6) rfl)
theorem dX6_undo_107 : decode cX6_undo 107 = Except.ok (Instr.invokevirtual 91, 3) := vyd_182 (vyb_cX6_undo_10 (i := 7) rfl) (vyb_cX6_undo_10 (i := 8) rfl) (vyb_cX6_undo_10 (i := 9) rfl) rfl
theorem dX6_undo_110 : decode cX6_undo 110 = Except.ok (Instr.goto 4, 3) := vyd_167 (vyb_cX6_undo_11 (i := 0) rfl) (vyb_cX6_undo_11 (i := 1) rfl) (vyb_cX6_undo_11 (i := 2) rfl) (by decide +kernel)
theorem dX6_undo_113 : decode cX6_undo 113 = Except.ok (Instr.iconst 0, 1) := vyd_3 (vyb_cX6_undo_11 (i := 3) rfl)
theorem dX6_undo_114 : decode cX6_undo 114 = Except.ok (Instr.iload_n 1, 1) := vyd_27 (vyb_cX6_undo_11 (i := 4) rfl)
theorem dX6_undo_115 : decode cX6_undo 115 = Except.ok (Instr.sipush 1000, 3) := vyd_17 (vyb_cX6_undo_11 (i := 5) rfl) (vyb_cX6_undo_11 (i := 6) rfl) (vyb_cX6_undo_11 (i := 7) rfl) (by decide +kernel)
theorem dX6_undo_118 : decode cX6_undo 118 = Except.ok (Instr.irem, 1) := vyd_112 (vyb_cX6_undo_11 (i := 8) rfl)
theorem dX6_undo_119 : decode cX6_undo 119 = Except.ok (Instr.invokevirtual 94, 3) := vyd_182 (vyb_cX6_undo_11 (i := 9) rfl) (vyb_cX6_undo_12 (i := 0) rfl) (vyb_cX6_undo_12 (i := 1) rfl) rfl
theorem dX6_undo_122 : decode cX6_undo 122 = Except.ok (Instr.iload_n 1, 1) := vyd_27 (vyb_cX6_undo_12 (i := 2) rfl)
theorem dX6_undo_123 : decode cX6_undo 123 = Except.ok (Instr.ireturn, 1) := vyd_172 (vyb_cX6_undo_12 (i := 3) rfl)
theorem vyb_cX6_found_0 {i : Nat} {b : UInt8} (h : ([0x02, 0x36, 0x04, 0x03, 0x36, 0x05, 0x15, 0x05, 0x2a, 0x1b] : List UInt8)[i]? = some b) : vy_8 cX6_found (0 + i) b := vy_in (n := 10) (by decide +kernel) h
theorem vyb_cX6_found_1 {i : Nat} {b : UInt8} (h : ([0xb6, 0x00, 0x5b, 0xa2, 0x00, 0x25, 0x2a, 0x1b, 0x15, 0x05] : List UInt8)[i]? = some b) : vy_8 cX6_found (10 + i) b := vy_in (n := 10) (by decide +kernel) h
theorem vyb_cX6_found_2 {i : Nat} {b : UInt8} (h : ([0xb6, 0x00, 0x83, 0xb8, 0x00, 0x9a, 0x1c, 0xa0, 0x00, 0x11] : List UInt8)[i]? = some b) : vy_8 cX6_found (20 + i) b := vy_in (n := 10) (by decide +kernel) h
theorem vyb_cX6_found_3 {i : Nat} {b : UInt8} (h : ([0x1d, 0x9a, 0x00, 0x09, 0x15, 0x04, 0x02, 0xa0, 0x00, 0x07] : List UInt8)[i]? = some b) : vy_8 cX6_found (30 + i) b := vy_in (n := 10) (by decide +kernel) h
theorem vyb_cX6_found_4 {i : Nat} {b : UInt8} (h : ([0x15, 0x05, 0x36, 0x04, 0x84, 0x05, 0x01, 0xa7, 0xff, 0xd7] : List UInt8)[i]? = some b) : vy_8 cX6_found (40 + i) b := vy_in (n := 10) (by decide +kernel) h
theorem vyb_cX6_found_5 {i : Nat} {b : UInt8} (h : ([0x15, 0x04, 0xac] : List UInt8)[i]? = some b) : vy_8 cX6_found (50 + i) b := vy_in (n := 3) (by decide +kernel) h
theorem dX6_found_0 : decode cX6_found 0 = Except.ok (Instr.iconst (-1), 1) := vyd_2 (vyb_cX6_found_0 (i := 0) rfl)
theorem dX6_found_1 : decode cX6_found 1 = Except.ok (Instr.istore 4, 2) := vyd_54 (vyb_cX6_found_0 (i := 1) rfl) (vyb_cX6_found_0 (i := 2) rfl) rfl
theorem dX6_found_3 : decode cX6_found 3 = Except.ok (Instr.iconst 0, 1) := vyd_3 (vyb_cX6_found_0 (i := 3) rfl)
theorem dX6_found_4 : decode cX6_found 4 = Except.ok (Instr.istore 5, 2) := vyd_54 (vyb_cX6_found_0 (i := 4) rfl) (vyb_cX6_found_0 (i := 5) rfl) rfl
theorem dX6_found_6 : decode cX6_found 6 = Except.ok (Instr.iload 5, 2) := vyd_21 (vyb_cX6_found_0 (i := 6) rfl) (vyb_cX6_found_0 (i := 7) rfl) rfl
theorem dX6_found_8 : decode cX6_found 8 = Except.ok (Instr.aload_n 0, 1) := vyd_42 (vyb_cX6_found_0 (i := 8) rfl)
theorem dX6_found_9 : decode cX6_found 9 = Except.ok (Instr.iload_n 1, 1) := vyd_27 (vyb_cX6_found_0 (i := 9) rfl)
theorem dX6_found_10 : decode cX6_found 10 = Except.ok (Instr.invokevirtual 91, 3) := vyd_182 (vyb_cX6_found_1 (i := 0) rfl) (vyb_cX6_found_1 (i := 1) rfl) (vyb_cX6_found_1 (i := 2) rfl) rfl
theorem dX6_found_13 : decode cX6_found 13 = Except.ok (Instr.if_icmp .ge 37, 3) := vyd_162 (vyb_cX6_found_1 (i := 3) rfl) (vyb_cX6_found_1 (i := 4) rfl) (vyb_cX6_found_1 (i := 5) rfl) (by decide +kernel)
theorem dX6_found_16 : decode cX6_found 16 = Except.ok (Instr.aload_n 0, 1) := vyd_42 (vyb_cX6_found_1 (i := 6) rfl)
theorem dX6_found_17 : decode cX6_found 17 = Except.ok (Instr.iload_n 1, 1) := vyd_27 (vyb_cX6_found_1 (i := 7) rfl)
theorem dX6_found_18 : decode cX6_found 18 = Except.ok (Instr.iload 5, 2) := vyd_21 (vyb_cX6_found_1 (i := 8) rfl) (vyb_cX6_found_1 (i := 9) rfl) rfl
theorem dX6_found_20 : decode cX6_found 20 = Except.ok (Instr.invokevirtual 131, 3) := vyd_182 (vyb_cX6_found_2 (i := 0) rfl) (vyb_cX6_found_2 (i := 1) rfl) (vyb_cX6_found_2 (i := 2) rfl) rfl
theorem dX6_found_23 : decode cX6_found 23 = Except.ok (Instr.invokestatic 154, 3) := vyd_184 (vyb_cX6_found_2 (i := 3) rfl) (vyb_cX6_found_2 (i := 4) rfl) (vyb_cX6_found_2 (i := 5) rfl) rfl
theorem dX6_found_26 : decode cX6_found 26 = Except.ok (Instr.iload_n 2, 1) := vyd_28 (vyb_cX6_found_2 (i := 6) rfl)
theorem dX6_found_27 : decode cX6_found 27 = Except.ok (Instr.if_icmp .ne 17, 3) := vyd_160 (vyb_cX6_found_2 (i := 7) rfl) (vyb_cX6_found_2 (i := 8) rfl) (vyb_cX6_found_2 (i := 9) rfl) (by decide +kernel)
theorem dX6_found_30 : decode cX6_found 30 = Except.ok (Instr.iload_n 3, 1) := vyd_29 (vyb_cX6_found_3 (i := 0) rfl)
theorem dX6_found_31 : decode cX6_found 31 = Except.ok (Instr.ifCond .ne 9, 3) := vyd_154 (vyb_cX6_found_3 (i := 1) rfl) (vyb_cX6_found_3 (i := 2) rfl) (vyb_cX6_found_3 (i := 3) rfl) (by decide +kernel)
theorem dX6_found_34 : decode cX6_found 34 = Except.ok (Instr.iload 4, 2) := vyd_21 (vyb_cX6_found_3 (i := 4) rfl) (vyb_cX6_found_3 (i := 5) rfl) rfl
theorem dX6_found_36 : decode cX6_found 36 = Except.ok (Instr.iconst (-1), 1) := vyd_2 (vyb_cX6_found_3 (i := 6) rfl)
theorem dX6_found_37 : decode cX6_found 37 = Except.ok (Instr.if_icmp .ne 7, 3) := vyd_160 (vyb_cX6_found_3 (i := 7) rfl) (vyb_cX6_found_3 (i := 8) rfl) (vyb_cX6_found_3 (i := 9) rfl) (by decide +kernel)
theorem dX6_found_40 : decode cX6_found 40 = Except.ok (Instr.iload 5, 2) := vyd_21 (vyb_cX6_found_4 (i := 0) rfl) (vyb_cX6_found_4 (i := 1) rfl) rfl
theorem dX6_found_42 : decode cX6_found 42 = Except.ok (Instr.istore 4, 2) := vyd_54 (vyb_cX6_found_4 (i := 2) rfl) (vyb_cX6_found_4 (i := 3) rfl) rfl
theorem dX6_found_44 : decode cX6_found 44 = .ok (.iinc 5 1, 3) := by decide +kernel
theorem dX6_found_47 : decode cX6_found 47 = Except.ok (Instr.goto (-41), 3) := vyd_167 (vyb_cX6_found_4 (i := 7) rfl) (vyb_cX6_found_4 (i := 8) rfl) (vyb_cX6_found_4 (i := 9) rfl) (by decide +kernel)
theorem dX6_found_50 : decode cX6_found 50 = Except.ok (Instr.iload 4, 2) := vyd_21 (vyb_cX6_found_5 (i := 0) rfl) (vyb_cX6_found_5 (i := 1) rfl) rfl
theorem dX6_found_52 : decode cX6_found 52 = Except.ok (Instr.ireturn, 1) := vyd_172 (vyb_cX6_found_5 (i := 2) rfl)
theorem vyb_cX6_isNoKind_0 {i : Nat} {b : UInt8} (h : ([0x2a, 0x1b, 0xb8, 0x00, 0x6a, 0x04, 0xb6, 0x00, 0x6e, 0x9a] : List UInt8)[i]? = some b) : vy_8 cX6_isNoKind (0 + i) b := vy_in (n := 10) (by decide +kernel) h
theorem vyb_cX6_isNoKind_1 {i : Nat} {b : UInt8} (h : ([0x00, 0x22, 0x2a, 0x1c, 0x03, 0x10, 0x09, 0xb8, 0x00, 0x2c] : List UInt8)[i]? = some b) : vy_8 cX6_isNoKind (10 + i) b := vy_in (n := 10) (by decide +kernel) h
theorem vyb_cX6_isNoKind_2 {i : Nat} {b : UInt8} (h : ([0x99, 0x00, 0x0b, 0x1c, 0x9a, 0x00, 0x0b, 0x1b, 0x9a, 0x00] : List UInt8)[i]? = some b) : vy_8 cX6_isNoKind (20 + i) b := vy_in (n := 10) (by decide +kernel) h
theorem vyb_cX6_isNoKind_3 {i : Nat} {b : UInt8} (h : ([0x07, 0x04, 0xa7, 0x00, 0x04, 0x03, 0x05, 0xb6, 0x00, 0x28] : List UInt8)[i]? = some b) : vy_8 cX6_isNoKind (30 + i) b := vy_in (n := 10) (by decide +kernel) h
theorem vyb_cX6_isNoKind_4 {i : Nat} {b : UInt8} (h : ([0x99, 0x00, 0x07, 0x04, 0xa7, 0x00, 0x04, 0x03, 0xac] : List UInt8)[i]? = some b) : vy_8 cX6_isNoKind (40 + i) b := vy_in (n := 9) (by decide +kernel) h
theorem dX6_isNoKind_0 : decode cX6_isNoKind 0 = Except.ok (Instr.aload_n 0, 1) := vyd_42 (vyb_cX6_isNoKind_0 (i := 0) rfl)
theorem dX6_isNoKind_1 : decode cX6_isNoKind 1 = Except.ok (Instr.iload_n 1, 1) := vyd_27 (vyb_cX6_isNoKind_0 (i := 1) rfl)
theorem dX6_isNoKind_2 : decode cX6_isNoKind 2 = Except.ok (Instr.invokestatic 106, 3) := vyd_184 (vyb_cX6_isNoKind_0 (i := 2) rfl) (vyb_cX6_isNoKind_0 (i := 3) rfl) (vyb_cX6_isNoKind_0 (i := 4) rfl) rfl
theorem dX6_isNoKind_5 : decode cX6_isNoKind 5 = Except.ok (Instr.iconst 1, 1) := vyd_4 (vyb_cX6_isNoKind_0 (i := 5) rfl)
theorem dX6_isNoKind_6 : decode cX6_isNoKind 6 = Except.ok (Instr.invokevirtual 110, 3) := vyd_182 (vyb_cX6_isNoKind_0 (i := 6) rfl) (vyb_cX6_isNoKind_0 (i := 7) rfl) (vyb_cX6_isNoKind_0 (i := 8) rfl) rfl
theorem dX6_isNoKind_9 : decode cX6_isNoKind 9 = Except.ok (Instr.ifCond .ne 34, 3) := vyd_154 (vyb_cX6_isNoKind_0 (i := 9) rfl) (vyb_cX6_isNoKind_1 (i := 0) rfl) (vyb_cX6_isNoKind_1 (i := 1) rfl) (by decide +kernel)
theorem dX6_isNoKind_12 : decode cX6_isNoKind 12 = Except.ok (Instr.aload_n 0, 1) := vyd_42 (vyb_cX6_isNoKind_1 (i := 2) rfl)
theorem dX6_isNoKind_13 : decode cX6_isNoKind 13 = Except.ok (Instr.iload_n 2, 1) := vyd_28 (vyb_cX6_isNoKind_1 (i := 3) rfl)
theorem dX6_isNoKind_14 : decode cX6_isNoKind 14 = Except.ok (Instr.iconst 0, 1) := vyd_3 (vyb_cX6_isNoKind_1 (i := 4) rfl)
theorem dX6_isNoKind_15 : decode cX6_isNoKind 15 = Except.ok (Instr.bipush 9, 2) := vyd_16 (vyb_cX6_isNoKind_1 (i := 5) rfl) (vyb_cX6_isNoKind_1 (i := 6) rfl) (by decide +kernel)
theorem dX6_isNoKind_17 : decode cX6_isNoKind 17 = Except.ok (Instr.invokestatic 44, 3) := vyd_184 (vyb_cX6_isNoKind_1 (i := 7) rfl) (vyb_cX6_isNoKind_1 (i := 8) rfl) (vyb_cX6_isNoKind_1 (i := 9) rfl) rfl
theorem dX6_isNoKind_20 : decode cX6_isNoKind 20 = Except.ok (Instr.ifCond .eq 11, 3) := vyd_153 (vyb_cX6_isNoKind_2 (i := 0) rfl) (vyb_cX6_isNoKind_2 (i := 1) rfl) (vyb_cX6_isNoKind_2 (i := 2) rfl) (by decide +kernel)
theorem dX6_isNoKind_23 : decode cX6_isNoKind 23 = Except.ok (Instr.iload_n 2, 1) := vyd_28 (vyb_cX6_isNoKind_2 (i := 3) rfl)
theorem dX6_isNoKind_24 : decode cX6_isNoKind 24 = Except.ok (Instr.ifCond .ne 11, 3) := vyd_154 (vyb_cX6_isNoKind_2 (i := 4) rfl) (vyb_cX6_isNoKind_2 (i := 5) rfl) (vyb_cX6_isNoKind_2 (i := 6) rfl) (by decide +kernel)
theorem dX6_isNoKind_27 : decode cX6_isNoKind 27 = Except.ok (Instr.iload_n 1, 1) := vyd_27 (vyb_cX6_isNoKind_2 (i := 7) rfl)
theorem dX6_isNoKind_28 : decode cX6_isNoKind 28 = Except.ok (Instr.ifCond .ne 7, 3) := vyd_154 (vyb_cX6_isNoKind_2 (i := 8) rfl) (vyb_cX6_isNoKind_2 (i := 9) rfl) (vyb_cX6_isNoKind_3 (i := 0) rfl) (by decide +kernel)
theorem dX6_isNoKind_31 : decode cX6_isNoKind 31 = Except.ok (Instr.iconst 1, 1) := vyd_4 (vyb_cX6_isNoKind_3 (i := 1) rfl)
theorem dX6_isNoKind_32 : decode cX6_isNoKind 32 = Except.ok (Instr.goto 4, 3) := vyd_167 (vyb_cX6_isNoKind_3 (i := 2) rfl) (vyb_cX6_isNoKind_3 (i := 3) rfl) (vyb_cX6_isNoKind_3 (i := 4) rfl) (by decide +kernel)
theorem dX6_isNoKind_35 : decode cX6_isNoKind 35 = Except.ok (Instr.iconst 0, 1) := vyd_3 (vyb_cX6_isNoKind_3 (i := 5) rfl)
theorem dX6_isNoKind_36 : decode cX6_isNoKind 36 = Except.ok (Instr.iconst 2, 1) := vyd_5 (vyb_cX6_isNoKind_3 (i := 6) rfl)
theorem dX6_isNoKind_37 : decode cX6_isNoKind 37 = Except.ok (Instr.invokevirtual 40, 3) := vyd_182 (vyb_cX6_isNoKind_3 (i := 7) rfl) (vyb_cX6_isNoKind_3 (i := 8) rfl) (vyb_cX6_isNoKind_3 (i := 9) rfl) rfl
theorem dX6_isNoKind_40 : decode cX6_isNoKind 40 = Except.ok (Instr.ifCond .eq 7, 3) := vyd_153 (vyb_cX6_isNoKind_4 (i := 0) rfl) (vyb_cX6_isNoKind_4 (i := 1) rfl) (vyb_cX6_isNoKind_4 (i := 2) rfl) (by decide +kernel)
theorem dX6_isNoKind_43 : decode cX6_isNoKind 43 = Except.ok (Instr.iconst 1, 1) := vyd_4 (vyb_cX6_isNoKind_4 (i := 3) rfl)
theorem dX6_isNoKind_44 : decode cX6_isNoKind 44 = Except.ok (Instr.goto 4, 3) := vyd_167 (vyb_cX6_isNoKind_4 (i := 4) rfl) (vyb_cX6_isNoKind_4 (i := 5) rfl) (vyb_cX6_isNoKind_4 (i := 6) rfl) (by decide +kernel)
theorem dX6_isNoKind_47 : decode cX6_isNoKind 47 = Except.ok (Instr.iconst 0, 1) := vyd_3 (vyb_cX6_isNoKind_4 (i := 7) rfl)
theorem dX6_isNoKind_48 : decode cX6_isNoKind 48 = Except.ok (Instr.ireturn, 1) := vyd_172 (vyb_cX6_isNoKind_4 (i := 8) rfl)
theorem vyb_cX6_drop_0 {i : Nat} {b : UInt8} (h : ([0x2a, 0x1b, 0x1c, 0xb6, 0x00, 0x9d, 0x99, 0x00, 0x05, 0x03] : List UInt8)[i]? = some b) : vy_8 cX6_drop (0 + i) b := vy_in (n := 10) (by decide +kernel) h
theorem vyb_cX6_drop_1 {i : Nat} {b : UInt8} (h : ([0xac, 0x2a, 0x1b, 0x1c, 0x1d, 0xb6, 0x00, 0xa0, 0x36, 0x04] : List UInt8)[i]? = some b) : vy_8 cX6_drop (10 + i) b := vy_in (n := 10) (by decide +kernel) h
theorem vyb_cX6_drop_2 {i : Nat} {b : UInt8} (h : ([0x15, 0x04, 0x02, 0xa0, 0x00, 0x05, 0x03, 0xac, 0x2a, 0x1b] : List UInt8)[i]? = some b) : vy_8 cX6_drop (20 + i) b := vy_in (n := 10) (by decide +kernel) h
theorem vyb_cX6_drop_3 {i : Nat} {b : UInt8} (h : ([0x15, 0x04, 0xb6, 0x00, 0x66, 0x57, 0x2a, 0xb6, 0x00, 0xa4] : List UInt8)[i]? = some b) : vy_8 cX6_drop (30 + i) b := vy_in (n := 10) (by decide +kernel) h
theorem vyb_cX6_drop_4 {i : Nat} {b : UInt8} (h : ([0x04, 0xac] : List UInt8)[i]? = some b) : vy_8 cX6_drop (40 + i) b := vy_in (n := 2) (by decide +kernel) h
theorem dX6_drop_0 : decode cX6_drop 0 = Except.ok (Instr.aload_n 0, 1) := vyd_42 (vyb_cX6_drop_0 (i := 0) rfl)
theorem dX6_drop_1 : decode cX6_drop 1 = Except.ok (Instr.iload_n 1, 1) := vyd_27 (vyb_cX6_drop_0 (i := 1) rfl)
theorem dX6_drop_2 : decode cX6_drop 2 = Except.ok (Instr.iload_n 2, 1) := vyd_28 (vyb_cX6_drop_0 (i := 2) rfl)
theorem dX6_drop_3 : decode cX6_drop 3 = Except.ok (Instr.invokevirtual 157, 3) := vyd_182 (vyb_cX6_drop_0 (i := 3) rfl) (vyb_cX6_drop_0 (i := 4) rfl) (vyb_cX6_drop_0 (i := 5) rfl) rfl
theorem dX6_drop_6 : decode cX6_drop 6 = Except.ok (Instr.ifCond .eq 5, 3) := vyd_153 (vyb_cX6_drop_0 (i := 6) rfl) (vyb_cX6_drop_0 (i := 7) rfl) (vyb_cX6_drop_0 (i := 8) rfl) (by decide +kernel)
theorem dX6_drop_9 : decode cX6_drop 9 = Except.ok (Instr.iconst 0, 1) := vyd_3 (vyb_cX6_drop_0 (i := 9) rfl)
theorem dX6_drop_10 : decode cX6_drop 10 = Except.ok (Instr.ireturn, 1) := vyd_172 (vyb_cX6_drop_1 (i := 0) rfl)
theorem dX6_drop_11 : decode cX6_drop 11 = Except.ok (Instr.aload_n 0, 1) := vyd_42 (vyb_cX6_drop_1 (i := 1) rfl)
theorem dX6_drop_12 : decode cX6_drop 12 = Except.ok (Instr.iload_n 1, 1) := vyd_27 (vyb_cX6_drop_1 (i := 2) rfl)
theorem dX6_drop_13 : decode cX6_drop 13 = Except.ok (Instr.iload_n 2, 1) := vyd_28 (vyb_cX6_drop_1 (i := 3) rfl)
theorem dX6_drop_14 : decode cX6_drop 14 = Except.ok (Instr.iload_n 3, 1) := vyd_29 (vyb_cX6_drop_1 (i := 4) rfl)
theorem dX6_drop_15 : decode cX6_drop 15 = Except.ok (Instr.invokevirtual 160, 3) := vyd_182 (vyb_cX6_drop_1 (i := 5) rfl) (vyb_cX6_drop_1 (i := 6) rfl) (vyb_cX6_drop_1 (i := 7) rfl) rfl
theorem dX6_drop_18 : decode cX6_drop 18 = Except.ok (Instr.istore 4, 2) := vyd_54 (vyb_cX6_drop_1 (i := 8) rfl) (vyb_cX6_drop_1 (i := 9) rfl) rfl
theorem dX6_drop_20 : decode cX6_drop 20 = Except.ok (Instr.iload 4, 2) := vyd_21 (vyb_cX6_drop_2 (i := 0) rfl) (vyb_cX6_drop_2 (i := 1) rfl) rfl
theorem dX6_drop_22 : decode cX6_drop 22 = Except.ok (Instr.iconst (-1), 1) := vyd_2 (vyb_cX6_drop_2 (i := 2) rfl)
theorem dX6_drop_23 : decode cX6_drop 23 = Except.ok (Instr.if_icmp .ne 5, 3) := vyd_160 (vyb_cX6_drop_2 (i := 3) rfl) (vyb_cX6_drop_2 (i := 4) rfl) (vyb_cX6_drop_2 (i := 5) rfl) (by decide +kernel)
theorem dX6_drop_26 : decode cX6_drop 26 = Except.ok (Instr.iconst 0, 1) := vyd_3 (vyb_cX6_drop_2 (i := 6) rfl)
theorem dX6_drop_27 : decode cX6_drop 27 = Except.ok (Instr.ireturn, 1) := vyd_172 (vyb_cX6_drop_2 (i := 7) rfl)
theorem dX6_drop_28 : decode cX6_drop 28 = Except.ok (Instr.aload_n 0, 1) := vyd_42 (vyb_cX6_drop_2 (i := 8) rfl)
theorem dX6_drop_29 : decode cX6_drop 29 = Except.ok (Instr.iload_n 1, 1) := vyd_27 (vyb_cX6_drop_2 (i := 9) rfl)
theorem dX6_drop_30 : decode cX6_drop 30 = Except.ok (Instr.iload 4, 2) := vyd_21 (vyb_cX6_drop_3 (i := 0) rfl) (vyb_cX6_drop_3 (i := 1) rfl) rfl
theorem dX6_drop_32 : decode cX6_drop 32 = Except.ok (Instr.invokevirtual 102, 3) := vyd_182 (vyb_cX6_drop_3 (i := 2) rfl) (vyb_cX6_drop_3 (i := 3) rfl) (vyb_cX6_drop_3 (i := 4) rfl) rfl
theorem dX6_drop_35 : decode cX6_drop 35 = Except.ok (Instr.pop, 1) := vyd_87 (vyb_cX6_drop_3 (i := 5) rfl)
theorem dX6_drop_36 : decode cX6_drop 36 = Except.ok (Instr.aload_n 0, 1) := vyd_42 (vyb_cX6_drop_3 (i := 6) rfl)
theorem dX6_drop_37 : decode cX6_drop 37 = Except.ok (Instr.invokevirtual 164, 3) := vyd_182 (vyb_cX6_drop_3 (i := 7) rfl) (vyb_cX6_drop_3 (i := 8) rfl) (vyb_cX6_drop_3 (i := 9) rfl) rfl
theorem dX6_drop_40 : decode cX6_drop 40 = Except.ok (Instr.iconst 1, 1) := vyd_4 (vyb_cX6_drop_4 (i := 0) rfl)
theorem dX6_drop_41 : decode cX6_drop 41 = Except.ok (Instr.ireturn, 1) := vyd_172 (vyb_cX6_drop_4 (i := 1) rfl)
theorem vyb_cX6_offAll_0 {i : Nat} {b : UInt8} (h : ([0x03, 0x3e, 0x2c, 0xbe, 0x04, 0x64, 0x36, 0x04, 0x15, 0x04] : List UInt8)[i]? = some b) : vy_8 cX6_offAll (0 + i) b := vy_in (n := 10) (by decide +kernel) h
theorem vyb_cX6_offAll_1 {i : Nat} {b : UInt8} (h : ([0x9b, 0x00, 0x1b, 0x2c, 0x15, 0x04, 0x33, 0x99, 0x00, 0x0e] : List UInt8)[i]? = some b) : vy_8 cX6_offAll (10 + i) b := vy_in (n := 10) (by decide +kernel) h
theorem vyb_cX6_offAll_2 {i : Nat} {b : UInt8} (h : ([0x2a, 0x1b, 0x15, 0x04, 0xb6, 0x00, 0x66, 0x57, 0x84, 0x03] : List UInt8)[i]? = some b) : vy_8 cX6_offAll (20 + i) b := vy_in (n := 10) (by decide +kernel) h
theorem vyb_cX6_offAll_3 {i : Nat} {b : UInt8} (h : ([0x01, 0x84, 0x04, 0xff, 0xa7, 0xff, 0xe6, 0x1d, 0x9e, 0x00] : List UInt8)[i]? = some b) : vy_8 cX6_offAll (30 + i) b := vy_in (n := 10) (by decide +kernel) h
theorem vyb_cX6_offAll_4 {i : Nat} {b : UInt8} (h : ([0x07, 0x2a, 0xb6, 0x00, 0xa4, 0x1d, 0xac] : List UInt8)[i]? = some b) : vy_8 cX6_offAll (40 + i) b := vy_in (n := 7) (by decide +kernel) h
theorem dX6_offAll_0 : decode cX6_offAll 0 = Except.ok (Instr.iconst 0, 1) := vyd_3 (vyb_cX6_offAll_0 (i := 0) rfl)
theorem dX6_offAll_1 : decode cX6_offAll 1 = Except.ok (Instr.istore_n 3, 1) := vyd_62 (vyb_cX6_offAll_0 (i := 1) rfl)
theorem dX6_offAll_2 : decode cX6_offAll 2 = Except.ok (Instr.aload_n 2, 1) := vyd_44 (vyb_cX6_offAll_0 (i := 2) rfl)
theorem dX6_offAll_3 : decode cX6_offAll 3 = Except.ok (Instr.arraylength, 1) := vyd_190 (vyb_cX6_offAll_0 (i := 3) rfl)
theorem dX6_offAll_4 : decode cX6_offAll 4 = Except.ok (Instr.iconst 1, 1) := vyd_4 (vyb_cX6_offAll_0 (i := 4) rfl)
theorem dX6_offAll_5 : decode cX6_offAll 5 = Except.ok (Instr.isub, 1) := vyd_100 (vyb_cX6_offAll_0 (i := 5) rfl)
theorem dX6_offAll_6 : decode cX6_offAll 6 = Except.ok (Instr.istore 4, 2) := vyd_54 (vyb_cX6_offAll_0 (i := 6) rfl) (vyb_cX6_offAll_0 (i := 7) rfl) rfl
theorem dX6_offAll_8 : decode cX6_offAll 8 = Except.ok (Instr.iload 4, 2) := vyd_21 (vyb_cX6_offAll_0 (i := 8) rfl) (vyb_cX6_offAll_0 (i := 9) rfl) rfl
theorem dX6_offAll_10 : decode cX6_offAll 10 = Except.ok (Instr.ifCond .lt 27, 3) := vyd_155 (vyb_cX6_offAll_1 (i := 0) rfl) (vyb_cX6_offAll_1 (i := 1) rfl) (vyb_cX6_offAll_1 (i := 2) rfl) (by decide +kernel)
theorem dX6_offAll_13 : decode cX6_offAll 13 = Except.ok (Instr.aload_n 2, 1) := vyd_44 (vyb_cX6_offAll_1 (i := 3) rfl)
theorem dX6_offAll_14 : decode cX6_offAll 14 = Except.ok (Instr.iload 4, 2) := vyd_21 (vyb_cX6_offAll_1 (i := 4) rfl) (vyb_cX6_offAll_1 (i := 5) rfl) rfl
theorem dX6_offAll_16 : decode cX6_offAll 16 = Except.ok (Instr.baload, 1) := vyd_51 (vyb_cX6_offAll_1 (i := 6) rfl)
theorem dX6_offAll_17 : decode cX6_offAll 17 = Except.ok (Instr.ifCond .eq 14, 3) := vyd_153 (vyb_cX6_offAll_1 (i := 7) rfl) (vyb_cX6_offAll_1 (i := 8) rfl) (vyb_cX6_offAll_1 (i := 9) rfl) (by decide +kernel)
theorem dX6_offAll_20 : decode cX6_offAll 20 = Except.ok (Instr.aload_n 0, 1) := vyd_42 (vyb_cX6_offAll_2 (i := 0) rfl)
theorem dX6_offAll_21 : decode cX6_offAll 21 = Except.ok (Instr.iload_n 1, 1) := vyd_27 (vyb_cX6_offAll_2 (i := 1) rfl)
theorem dX6_offAll_22 : decode cX6_offAll 22 = Except.ok (Instr.iload 4, 2) := vyd_21 (vyb_cX6_offAll_2 (i := 2) rfl) (vyb_cX6_offAll_2 (i := 3) rfl) rfl
theorem dX6_offAll_24 : decode cX6_offAll 24 = Except.ok (Instr.invokevirtual 102, 3) := vyd_182 (vyb_cX6_offAll_2 (i := 4) rfl) (vyb_cX6_offAll_2 (i := 5) rfl) (vyb_cX6_offAll_2 (i := 6) rfl) rfl
theorem dX6_offAll_27 : decode cX6_offAll 27 = Except.ok (Instr.pop, 1) := vyd_87 (vyb_cX6_offAll_2 (i := 7) rfl)
theorem dX6_offAll_28 : decode cX6_offAll 28 = .ok (.iinc 3 1, 3) := by decide +kernel
theorem dX6_offAll_31 : decode cX6_offAll 31 = .ok (.iinc 4 (-1), 3) := by decide +kernel
theorem dX6_offAll_34 : decode cX6_offAll 34 = Except.ok (Instr.goto (-26), 3) := vyd_167 (vyb_cX6_offAll_3 (i := 4) rfl) (vyb_cX6_offAll_3 (i := 5) rfl) (vyb_cX6_offAll_3 (i := 6) rfl) (by decide +kernel)
theorem dX6_offAll_37 : decode cX6_offAll 37 = Except.ok (Instr.iload_n 3, 1) := vyd_29 (vyb_cX6_offAll_3 (i := 7) rfl)
theorem dX6_offAll_38 : decode cX6_offAll 38 = Except.ok (Instr.ifCond .le 7, 3) := vyd_158 (vyb_cX6_offAll_3 (i := 8) rfl) (vyb_cX6_offAll_3 (i := 9) rfl) (vyb_cX6_offAll_4 (i := 0) rfl) (by decide +kernel)
theorem dX6_offAll_41 : decode cX6_offAll 41 = Except.ok (Instr.aload_n 0, 1) := vyd_42 (vyb_cX6_offAll_4 (i := 1) rfl)
theorem dX6_offAll_42 : decode cX6_offAll 42 = Except.ok (Instr.invokevirtual 164, 3) := vyd_182 (vyb_cX6_offAll_4 (i := 2) rfl) (vyb_cX6_offAll_4 (i := 3) rfl) (vyb_cX6_offAll_4 (i := 4) rfl) rfl
theorem dX6_offAll_45 : decode cX6_offAll 45 = Except.ok (Instr.iload_n 3, 1) := vyd_29 (vyb_cX6_offAll_4 (i := 5) rfl)
theorem dX6_offAll_46 : decode cX6_offAll 46 = Except.ok (Instr.ireturn, 1) := vyd_172 (vyb_cX6_offAll_4 (i := 6) rfl)
theorem vyb_cX6_dropAll_0 {i : Nat} {b : UInt8} (h : ([0x2a, 0x1b, 0x1c, 0xb6, 0x00, 0x9d, 0x99, 0x00, 0x05, 0x03] : List UInt8)[i]? = some b) : vy_8 cX6_dropAll (0 + i) b := vy_in (n := 10) (by decide +kernel) h
theorem vyb_cX6_dropAll_1 {i : Nat} {b : UInt8} (h : ([0xac, 0x2a, 0x1b, 0xb6, 0x00, 0x5b, 0xbc, 0x04, 0x4e, 0x03] : List UInt8)[i]? = some b) : vy_8 cX6_dropAll (10 + i) b := vy_in (n := 10) (by decide +kernel) h
theorem vyb_cX6_dropAll_2 {i : Nat} {b : UInt8} (h : ([0x36, 0x04, 0x15, 0x04, 0x2d, 0xbe, 0xa2, 0x00, 0x20, 0x2d] : List UInt8)[i]? = some b) : vy_8 cX6_dropAll (20 + i) b := vy_in (n := 10) (by decide +kernel) h
theorem vyb_cX6_dropAll_3 {i : Nat} {b : UInt8} (h : ([0x15, 0x04, 0x2a, 0x1b, 0x15, 0x04, 0xb6, 0x00, 0x83, 0xb8] : List UInt8)[i]? = some b) : vy_8 cX6_dropAll (30 + i) b := vy_in (n := 10) (by decide +kernel) h
theorem vyb_cX6_dropAll_4 {i : Nat} {b : UInt8} (h : ([0x00, 0x9a, 0x1c, 0xa0, 0x00, 0x07, 0x04, 0xa7, 0x00, 0x04] : List UInt8)[i]? = some b) : vy_8 cX6_dropAll (40 + i) b := vy_in (n := 10) (by decide +kernel) h
theorem vyb_cX6_dropAll_5 {i : Nat} {b : UInt8} (h : ([0x03, 0x54, 0x84, 0x04, 0x01, 0xa7, 0xff, 0xdf, 0x2a, 0x1b] : List UInt8)[i]? = some b) : vy_8 cX6_dropAll (50 + i) b := vy_in (n := 10) (by decide +kernel) h
theorem vyb_cX6_dropAll_6 {i : Nat} {b : UInt8} (h : ([0x2d, 0xb6, 0x00, 0xa7, 0xac] : List UInt8)[i]? = some b) : vy_8 cX6_dropAll (60 + i) b := vy_in (n := 5) (by decide +kernel) h
theorem dX6_dropAll_0 : decode cX6_dropAll 0 = Except.ok (Instr.aload_n 0, 1) := vyd_42 (vyb_cX6_dropAll_0 (i := 0) rfl)
theorem dX6_dropAll_1 : decode cX6_dropAll 1 = Except.ok (Instr.iload_n 1, 1) := vyd_27 (vyb_cX6_dropAll_0 (i := 1) rfl)
theorem dX6_dropAll_2 : decode cX6_dropAll 2 = Except.ok (Instr.iload_n 2, 1) := vyd_28 (vyb_cX6_dropAll_0 (i := 2) rfl)
theorem dX6_dropAll_3 : decode cX6_dropAll 3 = Except.ok (Instr.invokevirtual 157, 3) := vyd_182 (vyb_cX6_dropAll_0 (i := 3) rfl) (vyb_cX6_dropAll_0 (i := 4) rfl) (vyb_cX6_dropAll_0 (i := 5) rfl) rfl
theorem dX6_dropAll_6 : decode cX6_dropAll 6 = Except.ok (Instr.ifCond .eq 5, 3) := vyd_153 (vyb_cX6_dropAll_0 (i := 6) rfl) (vyb_cX6_dropAll_0 (i := 7) rfl) (vyb_cX6_dropAll_0 (i := 8) rfl) (by decide +kernel)
theorem dX6_dropAll_9 : decode cX6_dropAll 9 = Except.ok (Instr.iconst 0, 1) := vyd_3 (vyb_cX6_dropAll_0 (i := 9) rfl)
theorem dX6_dropAll_10 : decode cX6_dropAll 10 = Except.ok (Instr.ireturn, 1) := vyd_172 (vyb_cX6_dropAll_1 (i := 0) rfl)
theorem dX6_dropAll_11 : decode cX6_dropAll 11 = Except.ok (Instr.aload_n 0, 1) := vyd_42 (vyb_cX6_dropAll_1 (i := 1) rfl)
theorem dX6_dropAll_12 : decode cX6_dropAll 12 = Except.ok (Instr.iload_n 1, 1) := vyd_27 (vyb_cX6_dropAll_1 (i := 2) rfl)
theorem dX6_dropAll_13 : decode cX6_dropAll 13 = Except.ok (Instr.invokevirtual 91, 3) := vyd_182 (vyb_cX6_dropAll_1 (i := 3) rfl) (vyb_cX6_dropAll_1 (i := 4) rfl) (vyb_cX6_dropAll_1 (i := 5) rfl) rfl
theorem dX6_dropAll_16 : decode cX6_dropAll 16 = .ok (.newarray .boolean, 2) := by decide +kernel
theorem dX6_dropAll_18 : decode cX6_dropAll 18 = Except.ok (Instr.astore_n 3, 1) := vyd_78 (vyb_cX6_dropAll_1 (i := 8) rfl)
theorem dX6_dropAll_19 : decode cX6_dropAll 19 = Except.ok (Instr.iconst 0, 1) := vyd_3 (vyb_cX6_dropAll_1 (i := 9) rfl)
theorem dX6_dropAll_20 : decode cX6_dropAll 20 = Except.ok (Instr.istore 4, 2) := vyd_54 (vyb_cX6_dropAll_2 (i := 0) rfl) (vyb_cX6_dropAll_2 (i := 1) rfl) rfl
theorem dX6_dropAll_22 : decode cX6_dropAll 22 = Except.ok (Instr.iload 4, 2) := vyd_21 (vyb_cX6_dropAll_2 (i := 2) rfl) (vyb_cX6_dropAll_2 (i := 3) rfl) rfl
theorem dX6_dropAll_24 : decode cX6_dropAll 24 = Except.ok (Instr.aload_n 3, 1) := vyd_45 (vyb_cX6_dropAll_2 (i := 4) rfl)
theorem dX6_dropAll_25 : decode cX6_dropAll 25 = Except.ok (Instr.arraylength, 1) := vyd_190 (vyb_cX6_dropAll_2 (i := 5) rfl)
theorem dX6_dropAll_26 : decode cX6_dropAll 26 = Except.ok (Instr.if_icmp .ge 32, 3) := vyd_162 (vyb_cX6_dropAll_2 (i := 6) rfl) (vyb_cX6_dropAll_2 (i := 7) rfl) (vyb_cX6_dropAll_2 (i := 8) rfl) (by decide +kernel)
theorem dX6_dropAll_29 : decode cX6_dropAll 29 = Except.ok (Instr.aload_n 3, 1) := vyd_45 (vyb_cX6_dropAll_2 (i := 9) rfl)
theorem dX6_dropAll_30 : decode cX6_dropAll 30 = Except.ok (Instr.iload 4, 2) := vyd_21 (vyb_cX6_dropAll_3 (i := 0) rfl) (vyb_cX6_dropAll_3 (i := 1) rfl) rfl
theorem dX6_dropAll_32 : decode cX6_dropAll 32 = Except.ok (Instr.aload_n 0, 1) := vyd_42 (vyb_cX6_dropAll_3 (i := 2) rfl)
theorem dX6_dropAll_33 : decode cX6_dropAll 33 = Except.ok (Instr.iload_n 1, 1) := vyd_27 (vyb_cX6_dropAll_3 (i := 3) rfl)
theorem dX6_dropAll_34 : decode cX6_dropAll 34 = Except.ok (Instr.iload 4, 2) := vyd_21 (vyb_cX6_dropAll_3 (i := 4) rfl) (vyb_cX6_dropAll_3 (i := 5) rfl) rfl
theorem dX6_dropAll_36 : decode cX6_dropAll 36 = Except.ok (Instr.invokevirtual 131, 3) := vyd_182 (vyb_cX6_dropAll_3 (i := 6) rfl) (vyb_cX6_dropAll_3 (i := 7) rfl) (vyb_cX6_dropAll_3 (i := 8) rfl) rfl
theorem dX6_dropAll_39 : decode cX6_dropAll 39 = Except.ok (Instr.invokestatic 154, 3) := vyd_184 (vyb_cX6_dropAll_3 (i := 9) rfl) (vyb_cX6_dropAll_4 (i := 0) rfl) (vyb_cX6_dropAll_4 (i := 1) rfl) rfl
theorem dX6_dropAll_42 : decode cX6_dropAll 42 = Except.ok (Instr.iload_n 2, 1) := vyd_28 (vyb_cX6_dropAll_4 (i := 2) rfl)
theorem dX6_dropAll_43 : decode cX6_dropAll 43 = Except.ok (Instr.if_icmp .ne 7, 3) := vyd_160 (vyb_cX6_dropAll_4 (i := 3) rfl) (vyb_cX6_dropAll_4 (i := 4) rfl) (vyb_cX6_dropAll_4 (i := 5) rfl) (by decide +kernel)
theorem dX6_dropAll_46 : decode cX6_dropAll 46 = Except.ok (Instr.iconst 1, 1) := vyd_4 (vyb_cX6_dropAll_4 (i := 6) rfl)
theorem dX6_dropAll_47 : decode cX6_dropAll 47 = Except.ok (Instr.goto 4, 3) := vyd_167 (vyb_cX6_dropAll_4 (i := 7) rfl) (vyb_cX6_dropAll_4 (i := 8) rfl) (vyb_cX6_dropAll_4 (i := 9) rfl) (by decide +kernel)
theorem dX6_dropAll_50 : decode cX6_dropAll 50 = Except.ok (Instr.iconst 0, 1) := vyd_3 (vyb_cX6_dropAll_5 (i := 0) rfl)
theorem dX6_dropAll_51 : decode cX6_dropAll 51 = Except.ok (Instr.bastore, 1) := vyd_84 (vyb_cX6_dropAll_5 (i := 1) rfl)
theorem dX6_dropAll_52 : decode cX6_dropAll 52 = .ok (.iinc 4 1, 3) := by decide +kernel
theorem dX6_dropAll_55 : decode cX6_dropAll 55 = Except.ok (Instr.goto (-33), 3) := vyd_167 (vyb_cX6_dropAll_5 (i := 5) rfl) (vyb_cX6_dropAll_5 (i := 6) rfl) (vyb_cX6_dropAll_5 (i := 7) rfl) (by decide +kernel)
theorem dX6_dropAll_58 : decode cX6_dropAll 58 = Except.ok (Instr.aload_n 0, 1) := vyd_42 (vyb_cX6_dropAll_5 (i := 8) rfl)
theorem dX6_dropAll_59 : decode cX6_dropAll 59 = Except.ok (Instr.iload_n 1, 1) := vyd_27 (vyb_cX6_dropAll_5 (i := 9) rfl)
theorem dX6_dropAll_60 : decode cX6_dropAll 60 = Except.ok (Instr.aload_n 3, 1) := vyd_45 (vyb_cX6_dropAll_6 (i := 0) rfl)
theorem dX6_dropAll_61 : decode cX6_dropAll 61 = Except.ok (Instr.invokevirtual 167, 3) := vyd_182 (vyb_cX6_dropAll_6 (i := 1) rfl) (vyb_cX6_dropAll_6 (i := 2) rfl) (vyb_cX6_dropAll_6 (i := 3) rfl) rfl
theorem dX6_dropAll_64 : decode cX6_dropAll 64 = Except.ok (Instr.ireturn, 1) := vyd_172 (vyb_cX6_dropAll_6 (i := 4) rfl)
theorem vyb_cX6_shed_0 {i : Nat} {b : UInt8} (h : ([0x2a, 0x1b, 0xb8, 0x00, 0x6a, 0x04, 0xb6, 0x00, 0x6e, 0x9a] : List UInt8)[i]? = some b) : vy_8 cX6_shed (0 + i) b := vy_in (n := 10) (by decide +kernel) h
theorem vyb_cX6_shed_1 {i : Nat} {b : UInt8} (h : ([0x00, 0x25, 0x2a, 0x1d, 0x03, 0x10, 0x63, 0xb8, 0x00, 0x2c] : List UInt8)[i]? = some b) : vy_8 cX6_shed (10 + i) b := vy_in (n := 10) (by decide +kernel) h
theorem vyb_cX6_shed_2 {i : Nat} {b : UInt8} (h : ([0x99, 0x00, 0x0e, 0x15, 0x04, 0x04, 0x10, 0x14, 0xb8, 0x00] : List UInt8)[i]? = some b) : vy_8 cX6_shed (20 + i) b := vy_in (n := 10) (by decide +kernel) h
theorem vyb_cX6_shed_3 {i : Nat} {b : UInt8} (h : ([0x2c, 0x9a, 0x00, 0x07, 0x04, 0xa7, 0x00, 0x04, 0x03, 0x05] : List UInt8)[i]? = some b) : vy_8 cX6_shed (30 + i) b := vy_in (n := 10) (by decide +kernel) h
theorem vyb_cX6_shed_4 {i : Nat} {b : UInt8} (h : ([0xb6, 0x00, 0x28, 0x99, 0x00, 0x05, 0x03, 0xac, 0x2a, 0x1b] : List UInt8)[i]? = some b) : vy_8 cX6_shed (40 + i) b := vy_in (n := 10) (by decide +kernel) h
theorem vyb_cX6_shed_5 {i : Nat} {b : UInt8} (h : ([0xb6, 0x00, 0x5b, 0xbc, 0x04, 0x3a, 0x05, 0x15, 0x04, 0x36] : List UInt8)[i]? = some b) : vy_8 cX6_shed (50 + i) b := vy_in (n := 10) (by decide +kernel) h
theorem vyb_cX6_shed_6 {i : Nat} {b : UInt8} (h : ([0x06, 0x03, 0x36, 0x07, 0x03, 0x36, 0x08, 0x15, 0x08, 0x19] : List UInt8)[i]? = some b) : vy_8 cX6_shed (60 + i) b := vy_in (n := 10) (by decide +kernel) h
theorem vyb_cX6_shed_7 {i : Nat} {b : UInt8} (h : ([0x05, 0xbe, 0xa2, 0x00, 0x4a, 0x1c, 0x99, 0x00, 0x0e, 0x19] : List UInt8)[i]? = some b) : vy_8 cX6_shed (70 + i) b := vy_in (n := 10) (by decide +kernel) h
theorem vyb_cX6_shed_8 {i : Nat} {b : UInt8} (h : ([0x05, 0xbe, 0x04, 0x64, 0x15, 0x08, 0x64, 0xa7, 0x00, 0x05] : List UInt8)[i]? = some b) : vy_8 cX6_shed (80 + i) b := vy_in (n := 10) (by decide +kernel) h
theorem vyb_cX6_shed_9 {i : Nat} {b : UInt8} (h : ([0x15, 0x08, 0x36, 0x09, 0x15, 0x06, 0x99, 0x00, 0x2c, 0x2a] : List UInt8)[i]? = some b) : vy_8 cX6_shed (90 + i) b := vy_in (n := 10) (by decide +kernel) h
theorem vyb_cX6_shed_10 {i : Nat} {b : UInt8} (h : ([0x1b, 0x15, 0x09, 0xb6, 0x00, 0x83, 0xb8, 0x00, 0xab, 0x1d] : List UInt8)[i]? = some b) : vy_8 cX6_shed (100 + i) b := vy_in (n := 10) (by decide +kernel) h
theorem vyb_cX6_shed_11 {i : Nat} {b : UInt8} (h : ([0xa2, 0x00, 0x06, 0xa7, 0x00, 0x1b, 0x19, 0x05, 0x15, 0x09] : List UInt8)[i]? = some b) : vy_8 cX6_shed (110 + i) b := vy_in (n := 10) (by decide +kernel) h
theorem vyb_cX6_shed_12 {i : Nat} {b : UInt8} (h : ([0x04, 0x54, 0x15, 0x07, 0x2a, 0x1b, 0x15, 0x09, 0xb6, 0x00] : List UInt8)[i]? = some b) : vy_8 cX6_shed (120 + i) b := vy_in (n := 10) (by decide +kernel) h
theorem vyb_cX6_shed_13 {i : Nat} {b : UInt8} (h : ([0x83, 0xb8, 0x00, 0xab, 0x60, 0x36, 0x07, 0x84, 0x06, 0xff] : List UInt8)[i]? = some b) : vy_8 cX6_shed (130 + i) b := vy_in (n := 10) (by decide +kernel) h
theorem vyb_cX6_shed_14 {i : Nat} {b : UInt8} (h : ([0x84, 0x08, 0x01, 0xa7, 0xff, 0xb4, 0x2a, 0x1b, 0x19, 0x05] : List UInt8)[i]? = some b) : vy_8 cX6_shed (140 + i) b := vy_in (n := 10) (by decide +kernel) h
theorem vyb_cX6_shed_15 {i : Nat} {b : UInt8} (h : ([0xb6, 0x00, 0xa7, 0x57, 0x15, 0x07, 0xac] : List UInt8)[i]? = some b) : vy_8 cX6_shed (150 + i) b := vy_in (n := 7) (by decide +kernel) h
theorem dX6_shed_0 : decode cX6_shed 0 = Except.ok (Instr.aload_n 0, 1) := vyd_42 (vyb_cX6_shed_0 (i := 0) rfl)
theorem dX6_shed_1 : decode cX6_shed 1 = Except.ok (Instr.iload_n 1, 1) := vyd_27 (vyb_cX6_shed_0 (i := 1) rfl)
theorem dX6_shed_2 : decode cX6_shed 2 = Except.ok (Instr.invokestatic 106, 3) := vyd_184 (vyb_cX6_shed_0 (i := 2) rfl) (vyb_cX6_shed_0 (i := 3) rfl) (vyb_cX6_shed_0 (i := 4) rfl) rfl
theorem dX6_shed_5 : decode cX6_shed 5 = Except.ok (Instr.iconst 1, 1) := vyd_4 (vyb_cX6_shed_0 (i := 5) rfl)
theorem dX6_shed_6 : decode cX6_shed 6 = Except.ok (Instr.invokevirtual 110, 3) := vyd_182 (vyb_cX6_shed_0 (i := 6) rfl) (vyb_cX6_shed_0 (i := 7) rfl) (vyb_cX6_shed_0 (i := 8) rfl) rfl
theorem dX6_shed_9 : decode cX6_shed 9 = Except.ok (Instr.ifCond .ne 37, 3) := vyd_154 (vyb_cX6_shed_0 (i := 9) rfl) (vyb_cX6_shed_1 (i := 0) rfl) (vyb_cX6_shed_1 (i := 1) rfl) (by decide +kernel)
theorem dX6_shed_12 : decode cX6_shed 12 = Except.ok (Instr.aload_n 0, 1) := vyd_42 (vyb_cX6_shed_1 (i := 2) rfl)
theorem dX6_shed_13 : decode cX6_shed 13 = Except.ok (Instr.iload_n 3, 1) := vyd_29 (vyb_cX6_shed_1 (i := 3) rfl)
theorem dX6_shed_14 : decode cX6_shed 14 = Except.ok (Instr.iconst 0, 1) := vyd_3 (vyb_cX6_shed_1 (i := 4) rfl)
theorem dX6_shed_15 : decode cX6_shed 15 = Except.ok (Instr.bipush 99, 2) := vyd_16 (vyb_cX6_shed_1 (i := 5) rfl) (vyb_cX6_shed_1 (i := 6) rfl) (by decide +kernel)
theorem dX6_shed_17 : decode cX6_shed 17 = Except.ok (Instr.invokestatic 44, 3) := vyd_184 (vyb_cX6_shed_1 (i := 7) rfl) (vyb_cX6_shed_1 (i := 8) rfl) (vyb_cX6_shed_1 (i := 9) rfl) rfl
theorem dX6_shed_20 : decode cX6_shed 20 = Except.ok (Instr.ifCond .eq 14, 3) := vyd_153 (vyb_cX6_shed_2 (i := 0) rfl) (vyb_cX6_shed_2 (i := 1) rfl) (vyb_cX6_shed_2 (i := 2) rfl) (by decide +kernel)
theorem dX6_shed_23 : decode cX6_shed 23 = Except.ok (Instr.iload 4, 2) := vyd_21 (vyb_cX6_shed_2 (i := 3) rfl) (vyb_cX6_shed_2 (i := 4) rfl) rfl
theorem dX6_shed_25 : decode cX6_shed 25 = Except.ok (Instr.iconst 1, 1) := vyd_4 (vyb_cX6_shed_2 (i := 5) rfl)
theorem dX6_shed_26 : decode cX6_shed 26 = Except.ok (Instr.bipush 20, 2) := vyd_16 (vyb_cX6_shed_2 (i := 6) rfl) (vyb_cX6_shed_2 (i := 7) rfl) (by decide +kernel)
theorem dX6_shed_28 : decode cX6_shed 28 = Except.ok (Instr.invokestatic 44, 3) := vyd_184 (vyb_cX6_shed_2 (i := 8) rfl) (vyb_cX6_shed_2 (i := 9) rfl) (vyb_cX6_shed_3 (i := 0) rfl) rfl
theorem dX6_shed_31 : decode cX6_shed 31 = Except.ok (Instr.ifCond .ne 7, 3) := vyd_154 (vyb_cX6_shed_3 (i := 1) rfl) (vyb_cX6_shed_3 (i := 2) rfl) (vyb_cX6_shed_3 (i := 3) rfl) (by decide +kernel)
theorem dX6_shed_34 : decode cX6_shed 34 = Except.ok (Instr.iconst 1, 1) := vyd_4 (vyb_cX6_shed_3 (i := 4) rfl)
theorem dX6_shed_35 : decode cX6_shed 35 = Except.ok (Instr.goto 4, 3) := vyd_167 (vyb_cX6_shed_3 (i := 5) rfl) (vyb_cX6_shed_3 (i := 6) rfl) (vyb_cX6_shed_3 (i := 7) rfl) (by decide +kernel)
theorem dX6_shed_38 : decode cX6_shed 38 = Except.ok (Instr.iconst 0, 1) := vyd_3 (vyb_cX6_shed_3 (i := 8) rfl)
theorem dX6_shed_39 : decode cX6_shed 39 = Except.ok (Instr.iconst 2, 1) := vyd_5 (vyb_cX6_shed_3 (i := 9) rfl)
theorem dX6_shed_40 : decode cX6_shed 40 = Except.ok (Instr.invokevirtual 40, 3) := vyd_182 (vyb_cX6_shed_4 (i := 0) rfl) (vyb_cX6_shed_4 (i := 1) rfl) (vyb_cX6_shed_4 (i := 2) rfl) rfl
theorem dX6_shed_43 : decode cX6_shed 43 = Except.ok (Instr.ifCond .eq 5, 3) := vyd_153 (vyb_cX6_shed_4 (i := 3) rfl) (vyb_cX6_shed_4 (i := 4) rfl) (vyb_cX6_shed_4 (i := 5) rfl) (by decide +kernel)
theorem dX6_shed_46 : decode cX6_shed 46 = Except.ok (Instr.iconst 0, 1) := vyd_3 (vyb_cX6_shed_4 (i := 6) rfl)
theorem dX6_shed_47 : decode cX6_shed 47 = Except.ok (Instr.ireturn, 1) := vyd_172 (vyb_cX6_shed_4 (i := 7) rfl)
theorem dX6_shed_48 : decode cX6_shed 48 = Except.ok (Instr.aload_n 0, 1) := vyd_42 (vyb_cX6_shed_4 (i := 8) rfl)
theorem dX6_shed_49 : decode cX6_shed 49 = Except.ok (Instr.iload_n 1, 1) := vyd_27 (vyb_cX6_shed_4 (i := 9) rfl)
theorem dX6_shed_50 : decode cX6_shed 50 = Except.ok (Instr.invokevirtual 91, 3) := vyd_182 (vyb_cX6_shed_5 (i := 0) rfl) (vyb_cX6_shed_5 (i := 1) rfl) (vyb_cX6_shed_5 (i := 2) rfl) rfl
theorem dX6_shed_53 : decode cX6_shed 53 = .ok (.newarray .boolean, 2) := by decide +kernel
theorem dX6_shed_55 : decode cX6_shed 55 = Except.ok (Instr.astore 5, 2) := vyd_58 (vyb_cX6_shed_5 (i := 5) rfl) (vyb_cX6_shed_5 (i := 6) rfl) rfl
theorem dX6_shed_57 : decode cX6_shed 57 = Except.ok (Instr.iload 4, 2) := vyd_21 (vyb_cX6_shed_5 (i := 7) rfl) (vyb_cX6_shed_5 (i := 8) rfl) rfl
theorem dX6_shed_59 : decode cX6_shed 59 = Except.ok (Instr.istore 6, 2) := vyd_54 (vyb_cX6_shed_5 (i := 9) rfl) (vyb_cX6_shed_6 (i := 0) rfl) rfl
theorem dX6_shed_61 : decode cX6_shed 61 = Except.ok (Instr.iconst 0, 1) := vyd_3 (vyb_cX6_shed_6 (i := 1) rfl)
theorem dX6_shed_62 : decode cX6_shed 62 = Except.ok (Instr.istore 7, 2) := vyd_54 (vyb_cX6_shed_6 (i := 2) rfl) (vyb_cX6_shed_6 (i := 3) rfl) rfl
theorem dX6_shed_64 : decode cX6_shed 64 = Except.ok (Instr.iconst 0, 1) := vyd_3 (vyb_cX6_shed_6 (i := 4) rfl)
theorem dX6_shed_65 : decode cX6_shed 65 = Except.ok (Instr.istore 8, 2) := vyd_54 (vyb_cX6_shed_6 (i := 5) rfl) (vyb_cX6_shed_6 (i := 6) rfl) rfl
theorem dX6_shed_67 : decode cX6_shed 67 = Except.ok (Instr.iload 8, 2) := vyd_21 (vyb_cX6_shed_6 (i := 7) rfl) (vyb_cX6_shed_6 (i := 8) rfl) rfl
theorem dX6_shed_69 : decode cX6_shed 69 = Except.ok (Instr.aload 5, 2) := vyd_25 (vyb_cX6_shed_6 (i := 9) rfl) (vyb_cX6_shed_7 (i := 0) rfl) rfl
theorem dX6_shed_71 : decode cX6_shed 71 = Except.ok (Instr.arraylength, 1) := vyd_190 (vyb_cX6_shed_7 (i := 1) rfl)
theorem dX6_shed_72 : decode cX6_shed 72 = Except.ok (Instr.if_icmp .ge 74, 3) := vyd_162 (vyb_cX6_shed_7 (i := 2) rfl) (vyb_cX6_shed_7 (i := 3) rfl) (vyb_cX6_shed_7 (i := 4) rfl) (by decide +kernel)
theorem dX6_shed_75 : decode cX6_shed 75 = Except.ok (Instr.iload_n 2, 1) := vyd_28 (vyb_cX6_shed_7 (i := 5) rfl)
theorem dX6_shed_76 : decode cX6_shed 76 = Except.ok (Instr.ifCond .eq 14, 3) := vyd_153 (vyb_cX6_shed_7 (i := 6) rfl) (vyb_cX6_shed_7 (i := 7) rfl) (vyb_cX6_shed_7 (i := 8) rfl) (by decide +kernel)
theorem dX6_shed_79 : decode cX6_shed 79 = Except.ok (Instr.aload 5, 2) := vyd_25 (vyb_cX6_shed_7 (i := 9) rfl) (vyb_cX6_shed_8 (i := 0) rfl) rfl
theorem dX6_shed_81 : decode cX6_shed 81 = Except.ok (Instr.arraylength, 1) := vyd_190 (vyb_cX6_shed_8 (i := 1) rfl)
theorem dX6_shed_82 : decode cX6_shed 82 = Except.ok (Instr.iconst 1, 1) := vyd_4 (vyb_cX6_shed_8 (i := 2) rfl)
theorem dX6_shed_83 : decode cX6_shed 83 = Except.ok (Instr.isub, 1) := vyd_100 (vyb_cX6_shed_8 (i := 3) rfl)
theorem dX6_shed_84 : decode cX6_shed 84 = Except.ok (Instr.iload 8, 2) := vyd_21 (vyb_cX6_shed_8 (i := 4) rfl) (vyb_cX6_shed_8 (i := 5) rfl) rfl
theorem dX6_shed_86 : decode cX6_shed 86 = Except.ok (Instr.isub, 1) := vyd_100 (vyb_cX6_shed_8 (i := 6) rfl)
theorem dX6_shed_87 : decode cX6_shed 87 = Except.ok (Instr.goto 5, 3) := vyd_167 (vyb_cX6_shed_8 (i := 7) rfl) (vyb_cX6_shed_8 (i := 8) rfl) (vyb_cX6_shed_8 (i := 9) rfl) (by decide +kernel)
theorem dX6_shed_90 : decode cX6_shed 90 = Except.ok (Instr.iload 8, 2) := vyd_21 (vyb_cX6_shed_9 (i := 0) rfl) (vyb_cX6_shed_9 (i := 1) rfl) rfl
theorem dX6_shed_92 : decode cX6_shed 92 = Except.ok (Instr.istore 9, 2) := vyd_54 (vyb_cX6_shed_9 (i := 2) rfl) (vyb_cX6_shed_9 (i := 3) rfl) rfl
theorem dX6_shed_94 : decode cX6_shed 94 = Except.ok (Instr.iload 6, 2) := vyd_21 (vyb_cX6_shed_9 (i := 4) rfl) (vyb_cX6_shed_9 (i := 5) rfl) rfl
theorem dX6_shed_96 : decode cX6_shed 96 = Except.ok (Instr.ifCond .eq 44, 3) := vyd_153 (vyb_cX6_shed_9 (i := 6) rfl) (vyb_cX6_shed_9 (i := 7) rfl) (vyb_cX6_shed_9 (i := 8) rfl) (by decide +kernel)
theorem dX6_shed_99 : decode cX6_shed 99 = Except.ok (Instr.aload_n 0, 1) := vyd_42 (vyb_cX6_shed_9 (i := 9) rfl)
theorem dX6_shed_100 : decode cX6_shed 100 = Except.ok (Instr.iload_n 1, 1) := vyd_27 (vyb_cX6_shed_10 (i := 0) rfl)
theorem dX6_shed_101 : decode cX6_shed 101 = Except.ok (Instr.iload 9, 2) := vyd_21 (vyb_cX6_shed_10 (i := 1) rfl) (vyb_cX6_shed_10 (i := 2) rfl) rfl
theorem dX6_shed_103 : decode cX6_shed 103 = Except.ok (Instr.invokevirtual 131, 3) := vyd_182 (vyb_cX6_shed_10 (i := 3) rfl) (vyb_cX6_shed_10 (i := 4) rfl) (vyb_cX6_shed_10 (i := 5) rfl) rfl
theorem dX6_shed_106 : decode cX6_shed 106 = Except.ok (Instr.invokestatic 171, 3) := vyd_184 (vyb_cX6_shed_10 (i := 6) rfl) (vyb_cX6_shed_10 (i := 7) rfl) (vyb_cX6_shed_10 (i := 8) rfl) rfl
theorem dX6_shed_109 : decode cX6_shed 109 = Except.ok (Instr.iload_n 3, 1) := vyd_29 (vyb_cX6_shed_10 (i := 9) rfl)
theorem dX6_shed_110 : decode cX6_shed 110 = Except.ok (Instr.if_icmp .ge 6, 3) := vyd_162 (vyb_cX6_shed_11 (i := 0) rfl) (vyb_cX6_shed_11 (i := 1) rfl) (vyb_cX6_shed_11 (i := 2) rfl) (by decide +kernel)
theorem dX6_shed_113 : decode cX6_shed 113 = Except.ok (Instr.goto 27, 3) := vyd_167 (vyb_cX6_shed_11 (i := 3) rfl) (vyb_cX6_shed_11 (i := 4) rfl) (vyb_cX6_shed_11 (i := 5) rfl) (by decide +kernel)
theorem dX6_shed_116 : decode cX6_shed 116 = Except.ok (Instr.aload 5, 2) := vyd_25 (vyb_cX6_shed_11 (i := 6) rfl) (vyb_cX6_shed_11 (i := 7) rfl) rfl
theorem dX6_shed_118 : decode cX6_shed 118 = Except.ok (Instr.iload 9, 2) := vyd_21 (vyb_cX6_shed_11 (i := 8) rfl) (vyb_cX6_shed_11 (i := 9) rfl) rfl
theorem dX6_shed_120 : decode cX6_shed 120 = Except.ok (Instr.iconst 1, 1) := vyd_4 (vyb_cX6_shed_12 (i := 0) rfl)
theorem dX6_shed_121 : decode cX6_shed 121 = Except.ok (Instr.bastore, 1) := vyd_84 (vyb_cX6_shed_12 (i := 1) rfl)
theorem dX6_shed_122 : decode cX6_shed 122 = Except.ok (Instr.iload 7, 2) := vyd_21 (vyb_cX6_shed_12 (i := 2) rfl) (vyb_cX6_shed_12 (i := 3) rfl) rfl
theorem dX6_shed_124 : decode cX6_shed 124 = Except.ok (Instr.aload_n 0, 1) := vyd_42 (vyb_cX6_shed_12 (i := 4) rfl)
theorem dX6_shed_125 : decode cX6_shed 125 = Except.ok (Instr.iload_n 1, 1) := vyd_27 (vyb_cX6_shed_12 (i := 5) rfl)
theorem dX6_shed_126 : decode cX6_shed 126 = Except.ok (Instr.iload 9, 2) := vyd_21 (vyb_cX6_shed_12 (i := 6) rfl) (vyb_cX6_shed_12 (i := 7) rfl) rfl
theorem dX6_shed_128 : decode cX6_shed 128 = Except.ok (Instr.invokevirtual 131, 3) := vyd_182 (vyb_cX6_shed_12 (i := 8) rfl) (vyb_cX6_shed_12 (i := 9) rfl) (vyb_cX6_shed_13 (i := 0) rfl) rfl
theorem dX6_shed_131 : decode cX6_shed 131 = Except.ok (Instr.invokestatic 171, 3) := vyd_184 (vyb_cX6_shed_13 (i := 1) rfl) (vyb_cX6_shed_13 (i := 2) rfl) (vyb_cX6_shed_13 (i := 3) rfl) rfl
theorem dX6_shed_134 : decode cX6_shed 134 = Except.ok (Instr.iadd, 1) := vyd_96 (vyb_cX6_shed_13 (i := 4) rfl)
theorem dX6_shed_135 : decode cX6_shed 135 = Except.ok (Instr.istore 7, 2) := vyd_54 (vyb_cX6_shed_13 (i := 5) rfl) (vyb_cX6_shed_13 (i := 6) rfl) rfl
theorem dX6_shed_137 : decode cX6_shed 137 = .ok (.iinc 6 (-1), 3) := by decide +kernel
theorem dX6_shed_140 : decode cX6_shed 140 = .ok (.iinc 8 1, 3) := by decide +kernel
theorem dX6_shed_143 : decode cX6_shed 143 = Except.ok (Instr.goto (-76), 3) := vyd_167 (vyb_cX6_shed_14 (i := 3) rfl) (vyb_cX6_shed_14 (i := 4) rfl) (vyb_cX6_shed_14 (i := 5) rfl) (by decide +kernel)
theorem dX6_shed_146 : decode cX6_shed 146 = Except.ok (Instr.aload_n 0, 1) := vyd_42 (vyb_cX6_shed_14 (i := 6) rfl)
theorem dX6_shed_147 : decode cX6_shed 147 = Except.ok (Instr.iload_n 1, 1) := vyd_27 (vyb_cX6_shed_14 (i := 7) rfl)
theorem dX6_shed_148 : decode cX6_shed 148 = Except.ok (Instr.aload 5, 2) := vyd_25 (vyb_cX6_shed_14 (i := 8) rfl) (vyb_cX6_shed_14 (i := 9) rfl) rfl
theorem dX6_shed_150 : decode cX6_shed 150 = Except.ok (Instr.invokevirtual 167, 3) := vyd_182 (vyb_cX6_shed_15 (i := 0) rfl) (vyb_cX6_shed_15 (i := 1) rfl) (vyb_cX6_shed_15 (i := 2) rfl) rfl
theorem dX6_shed_153 : decode cX6_shed 153 = Except.ok (Instr.pop, 1) := vyd_87 (vyb_cX6_shed_15 (i := 3) rfl)
theorem dX6_shed_154 : decode cX6_shed 154 = Except.ok (Instr.iload 7, 2) := vyd_21 (vyb_cX6_shed_15 (i := 4) rfl) (vyb_cX6_shed_15 (i := 5) rfl) rfl
theorem dX6_shed_156 : decode cX6_shed 156 = Except.ok (Instr.ireturn, 1) := vyd_172 (vyb_cX6_shed_15 (i := 6) rfl)
theorem vyb_cX6_thin_0 {i : Nat} {b : UInt8} (h : ([0x2a, 0x1b, 0xb8, 0x00, 0x6a, 0x04, 0xb6, 0x00, 0x6e, 0x9a] : List UInt8)[i]? = some b) : vy_8 cX6_thin (0 + i) b := vy_in (n := 10) (by decide +kernel) h
theorem vyb_cX6_thin_1 {i : Nat} {b : UInt8} (h : ([0x00, 0x19, 0x2a, 0x1d, 0x05, 0x08, 0xb8, 0x00, 0x2c, 0x9a] : List UInt8)[i]? = some b) : vy_8 cX6_thin (10 + i) b := vy_in (n := 10) (by decide +kernel) h
theorem vyb_cX6_thin_2 {i : Nat} {b : UInt8} (h : ([0x00, 0x07, 0x04, 0xa7, 0x00, 0x04, 0x03, 0x05, 0xb6, 0x00] : List UInt8)[i]? = some b) : vy_8 cX6_thin (20 + i) b := vy_in (n := 10) (by decide +kernel) h
theorem vyb_cX6_thin_3 {i : Nat} {b : UInt8} (h : ([0x28, 0x99, 0x00, 0x05, 0x03, 0xac, 0x2a, 0x1b, 0xb6, 0x00] : List UInt8)[i]? = some b) : vy_8 cX6_thin (30 + i) b := vy_in (n := 10) (by decide +kernel) h
theorem vyb_cX6_thin_4 {i : Nat} {b : UInt8} (h : ([0x5b, 0xbc, 0x04, 0x3a, 0x04, 0x04, 0x36, 0x05, 0x15, 0x05] : List UInt8)[i]? = some b) : vy_8 cX6_thin (40 + i) b := vy_in (n := 10) (by decide +kernel) h
theorem vyb_cX6_thin_5 {i : Nat} {b : UInt8} (h : ([0x19, 0x04, 0xbe, 0xa3, 0x00, 0x29, 0x19, 0x04, 0x1c, 0x99] : List UInt8)[i]? = some b) : vy_8 cX6_thin (50 + i) b := vy_in (n := 10) (by decide +kernel) h
theorem vyb_cX6_thin_6 {i : Nat} {b : UInt8} (h : ([0x00, 0x0c, 0x19, 0x04, 0xbe, 0x15, 0x05, 0x64, 0xa7, 0x00] : List UInt8)[i]? = some b) : vy_8 cX6_thin (60 + i) b := vy_in (n := 10) (by decide +kernel) h
theorem vyb_cX6_thin_7 {i : Nat} {b : UInt8} (h : ([0x07, 0x15, 0x05, 0x04, 0x64, 0x15, 0x05, 0x1d, 0x70, 0x9a] : List UInt8)[i]? = some b) : vy_8 cX6_thin (70 + i) b := vy_in (n := 10) (by decide +kernel) h
theorem vyb_cX6_thin_8 {i : Nat} {b : UInt8} (h : ([0x00, 0x07, 0x04, 0xa7, 0x00, 0x04, 0x03, 0x54, 0x84, 0x05] : List UInt8)[i]? = some b) : vy_8 cX6_thin (80 + i) b := vy_in (n := 10) (by decide +kernel) h
theorem vyb_cX6_thin_9 {i : Nat} {b : UInt8} (h : ([0x01, 0xa7, 0xff, 0xd5, 0x2a, 0x1b, 0x19, 0x04, 0xb6, 0x00] : List UInt8)[i]? = some b) : vy_8 cX6_thin (90 + i) b := vy_in (n := 10) (by decide +kernel) h
theorem vyb_cX6_thin_10 {i : Nat} {b : UInt8} (h : ([0xa7, 0xac] : List UInt8)[i]? = some b) : vy_8 cX6_thin (100 + i) b := vy_in (n := 2) (by decide +kernel) h
theorem dX6_thin_0 : decode cX6_thin 0 = Except.ok (Instr.aload_n 0, 1) := vyd_42 (vyb_cX6_thin_0 (i := 0) rfl)
theorem dX6_thin_1 : decode cX6_thin 1 = Except.ok (Instr.iload_n 1, 1) := vyd_27 (vyb_cX6_thin_0 (i := 1) rfl)
theorem dX6_thin_2 : decode cX6_thin 2 = Except.ok (Instr.invokestatic 106, 3) := vyd_184 (vyb_cX6_thin_0 (i := 2) rfl) (vyb_cX6_thin_0 (i := 3) rfl) (vyb_cX6_thin_0 (i := 4) rfl) rfl
theorem dX6_thin_5 : decode cX6_thin 5 = Except.ok (Instr.iconst 1, 1) := vyd_4 (vyb_cX6_thin_0 (i := 5) rfl)
theorem dX6_thin_6 : decode cX6_thin 6 = Except.ok (Instr.invokevirtual 110, 3) := vyd_182 (vyb_cX6_thin_0 (i := 6) rfl) (vyb_cX6_thin_0 (i := 7) rfl) (vyb_cX6_thin_0 (i := 8) rfl) rfl
theorem dX6_thin_9 : decode cX6_thin 9 = Except.ok (Instr.ifCond .ne 25, 3) := vyd_154 (vyb_cX6_thin_0 (i := 9) rfl) (vyb_cX6_thin_1 (i := 0) rfl) (vyb_cX6_thin_1 (i := 1) rfl) (by decide +kernel)
theorem dX6_thin_12 : decode cX6_thin 12 = Except.ok (Instr.aload_n 0, 1) := vyd_42 (vyb_cX6_thin_1 (i := 2) rfl)
theorem dX6_thin_13 : decode cX6_thin 13 = Except.ok (Instr.iload_n 3, 1) := vyd_29 (vyb_cX6_thin_1 (i := 3) rfl)
theorem dX6_thin_14 : decode cX6_thin 14 = Except.ok (Instr.iconst 2, 1) := vyd_5 (vyb_cX6_thin_1 (i := 4) rfl)
theorem dX6_thin_15 : decode cX6_thin 15 = Except.ok (Instr.iconst 5, 1) := vyd_8 (vyb_cX6_thin_1 (i := 5) rfl)
theorem dX6_thin_16 : decode cX6_thin 16 = Except.ok (Instr.invokestatic 44, 3) := vyd_184 (vyb_cX6_thin_1 (i := 6) rfl) (vyb_cX6_thin_1 (i := 7) rfl) (vyb_cX6_thin_1 (i := 8) rfl) rfl
theorem dX6_thin_19 : decode cX6_thin 19 = Except.ok (Instr.ifCond .ne 7, 3) := vyd_154 (vyb_cX6_thin_1 (i := 9) rfl) (vyb_cX6_thin_2 (i := 0) rfl) (vyb_cX6_thin_2 (i := 1) rfl) (by decide +kernel)
theorem dX6_thin_22 : decode cX6_thin 22 = Except.ok (Instr.iconst 1, 1) := vyd_4 (vyb_cX6_thin_2 (i := 2) rfl)
theorem dX6_thin_23 : decode cX6_thin 23 = Except.ok (Instr.goto 4, 3) := vyd_167 (vyb_cX6_thin_2 (i := 3) rfl) (vyb_cX6_thin_2 (i := 4) rfl) (vyb_cX6_thin_2 (i := 5) rfl) (by decide +kernel)
theorem dX6_thin_26 : decode cX6_thin 26 = Except.ok (Instr.iconst 0, 1) := vyd_3 (vyb_cX6_thin_2 (i := 6) rfl)
theorem dX6_thin_27 : decode cX6_thin 27 = Except.ok (Instr.iconst 2, 1) := vyd_5 (vyb_cX6_thin_2 (i := 7) rfl)
theorem dX6_thin_28 : decode cX6_thin 28 = Except.ok (Instr.invokevirtual 40, 3) := vyd_182 (vyb_cX6_thin_2 (i := 8) rfl) (vyb_cX6_thin_2 (i := 9) rfl) (vyb_cX6_thin_3 (i := 0) rfl) rfl
theorem dX6_thin_31 : decode cX6_thin 31 = Except.ok (Instr.ifCond .eq 5, 3) := vyd_153 (vyb_cX6_thin_3 (i := 1) rfl) (vyb_cX6_thin_3 (i := 2) rfl) (vyb_cX6_thin_3 (i := 3) rfl) (by decide +kernel)
theorem dX6_thin_34 : decode cX6_thin 34 = Except.ok (Instr.iconst 0, 1) := vyd_3 (vyb_cX6_thin_3 (i := 4) rfl)
theorem dX6_thin_35 : decode cX6_thin 35 = Except.ok (Instr.ireturn, 1) := vyd_172 (vyb_cX6_thin_3 (i := 5) rfl)
theorem dX6_thin_36 : decode cX6_thin 36 = Except.ok (Instr.aload_n 0, 1) := vyd_42 (vyb_cX6_thin_3 (i := 6) rfl)
theorem dX6_thin_37 : decode cX6_thin 37 = Except.ok (Instr.iload_n 1, 1) := vyd_27 (vyb_cX6_thin_3 (i := 7) rfl)
theorem dX6_thin_38 : decode cX6_thin 38 = Except.ok (Instr.invokevirtual 91, 3) := vyd_182 (vyb_cX6_thin_3 (i := 8) rfl) (vyb_cX6_thin_3 (i := 9) rfl) (vyb_cX6_thin_4 (i := 0) rfl) rfl
theorem dX6_thin_41 : decode cX6_thin 41 = .ok (.newarray .boolean, 2) := by decide +kernel
theorem dX6_thin_43 : decode cX6_thin 43 = Except.ok (Instr.astore 4, 2) := vyd_58 (vyb_cX6_thin_4 (i := 3) rfl) (vyb_cX6_thin_4 (i := 4) rfl) rfl
theorem dX6_thin_45 : decode cX6_thin 45 = Except.ok (Instr.iconst 1, 1) := vyd_4 (vyb_cX6_thin_4 (i := 5) rfl)
theorem dX6_thin_46 : decode cX6_thin 46 = Except.ok (Instr.istore 5, 2) := vyd_54 (vyb_cX6_thin_4 (i := 6) rfl) (vyb_cX6_thin_4 (i := 7) rfl) rfl
theorem dX6_thin_48 : decode cX6_thin 48 = Except.ok (Instr.iload 5, 2) := vyd_21 (vyb_cX6_thin_4 (i := 8) rfl) (vyb_cX6_thin_4 (i := 9) rfl) rfl
theorem dX6_thin_50 : decode cX6_thin 50 = Except.ok (Instr.aload 4, 2) := vyd_25 (vyb_cX6_thin_5 (i := 0) rfl) (vyb_cX6_thin_5 (i := 1) rfl) rfl
theorem dX6_thin_52 : decode cX6_thin 52 = Except.ok (Instr.arraylength, 1) := vyd_190 (vyb_cX6_thin_5 (i := 2) rfl)
theorem dX6_thin_53 : decode cX6_thin 53 = Except.ok (Instr.if_icmp .gt 41, 3) := vyd_163 (vyb_cX6_thin_5 (i := 3) rfl) (vyb_cX6_thin_5 (i := 4) rfl) (vyb_cX6_thin_5 (i := 5) rfl) (by decide +kernel)
theorem dX6_thin_56 : decode cX6_thin 56 = Except.ok (Instr.aload 4, 2) := vyd_25 (vyb_cX6_thin_5 (i := 6) rfl) (vyb_cX6_thin_5 (i := 7) rfl) rfl
theorem dX6_thin_58 : decode cX6_thin 58 = Except.ok (Instr.iload_n 2, 1) := vyd_28 (vyb_cX6_thin_5 (i := 8) rfl)
theorem dX6_thin_59 : decode cX6_thin 59 = Except.ok (Instr.ifCond .eq 12, 3) := vyd_153 (vyb_cX6_thin_5 (i := 9) rfl) (vyb_cX6_thin_6 (i := 0) rfl) (vyb_cX6_thin_6 (i := 1) rfl) (by decide +kernel)
theorem dX6_thin_62 : decode cX6_thin 62 = Except.ok (Instr.aload 4, 2) := vyd_25 (vyb_cX6_thin_6 (i := 2) rfl) (vyb_cX6_thin_6 (i := 3) rfl) rfl
theorem dX6_thin_64 : decode cX6_thin 64 = Except.ok (Instr.arraylength, 1) := vyd_190 (vyb_cX6_thin_6 (i := 4) rfl)
theorem dX6_thin_65 : decode cX6_thin 65 = Except.ok (Instr.iload 5, 2) := vyd_21 (vyb_cX6_thin_6 (i := 5) rfl) (vyb_cX6_thin_6 (i := 6) rfl) rfl
theorem dX6_thin_67 : decode cX6_thin 67 = Except.ok (Instr.isub, 1) := vyd_100 (vyb_cX6_thin_6 (i := 7) rfl)
theorem dX6_thin_68 : decode cX6_thin 68 = Except.ok (Instr.goto 7, 3) := vyd_167 (vyb_cX6_thin_6 (i := 8) rfl) (vyb_cX6_thin_6 (i := 9) rfl) (vyb_cX6_thin_7 (i := 0) rfl) (by decide +kernel)
theorem dX6_thin_71 : decode cX6_thin 71 = Except.ok (Instr.iload 5, 2) := vyd_21 (vyb_cX6_thin_7 (i := 1) rfl) (vyb_cX6_thin_7 (i := 2) rfl) rfl
theorem dX6_thin_73 : decode cX6_thin 73 = Except.ok (Instr.iconst 1, 1) := vyd_4 (vyb_cX6_thin_7 (i := 3) rfl)
theorem dX6_thin_74 : decode cX6_thin 74 = Except.ok (Instr.isub, 1) := vyd_100 (vyb_cX6_thin_7 (i := 4) rfl)
theorem dX6_thin_75 : decode cX6_thin 75 = Except.ok (Instr.iload 5, 2) := vyd_21 (vyb_cX6_thin_7 (i := 5) rfl) (vyb_cX6_thin_7 (i := 6) rfl) rfl
theorem dX6_thin_77 : decode cX6_thin 77 = Except.ok (Instr.iload_n 3, 1) := vyd_29 (vyb_cX6_thin_7 (i := 7) rfl)
theorem dX6_thin_78 : decode cX6_thin 78 = Except.ok (Instr.irem, 1) := vyd_112 (vyb_cX6_thin_7 (i := 8) rfl)
theorem dX6_thin_79 : decode cX6_thin 79 = Except.ok (Instr.ifCond .ne 7, 3) := vyd_154 (vyb_cX6_thin_7 (i := 9) rfl) (vyb_cX6_thin_8 (i := 0) rfl) (vyb_cX6_thin_8 (i := 1) rfl) (by decide +kernel)
theorem dX6_thin_82 : decode cX6_thin 82 = Except.ok (Instr.iconst 1, 1) := vyd_4 (vyb_cX6_thin_8 (i := 2) rfl)
theorem dX6_thin_83 : decode cX6_thin 83 = Except.ok (Instr.goto 4, 3) := vyd_167 (vyb_cX6_thin_8 (i := 3) rfl) (vyb_cX6_thin_8 (i := 4) rfl) (vyb_cX6_thin_8 (i := 5) rfl) (by decide +kernel)
theorem dX6_thin_86 : decode cX6_thin 86 = Except.ok (Instr.iconst 0, 1) := vyd_3 (vyb_cX6_thin_8 (i := 6) rfl)
theorem dX6_thin_87 : decode cX6_thin 87 = Except.ok (Instr.bastore, 1) := vyd_84 (vyb_cX6_thin_8 (i := 7) rfl)
theorem dX6_thin_88 : decode cX6_thin 88 = .ok (.iinc 5 1, 3) := by decide +kernel
theorem dX6_thin_91 : decode cX6_thin 91 = Except.ok (Instr.goto (-43), 3) := vyd_167 (vyb_cX6_thin_9 (i := 1) rfl) (vyb_cX6_thin_9 (i := 2) rfl) (vyb_cX6_thin_9 (i := 3) rfl) (by decide +kernel)
theorem dX6_thin_94 : decode cX6_thin 94 = Except.ok (Instr.aload_n 0, 1) := vyd_42 (vyb_cX6_thin_9 (i := 4) rfl)
theorem dX6_thin_95 : decode cX6_thin 95 = Except.ok (Instr.iload_n 1, 1) := vyd_27 (vyb_cX6_thin_9 (i := 5) rfl)
theorem dX6_thin_96 : decode cX6_thin 96 = Except.ok (Instr.aload 4, 2) := vyd_25 (vyb_cX6_thin_9 (i := 6) rfl) (vyb_cX6_thin_9 (i := 7) rfl) rfl
theorem dX6_thin_98 : decode cX6_thin 98 = Except.ok (Instr.invokevirtual 167, 3) := vyd_182 (vyb_cX6_thin_9 (i := 8) rfl) (vyb_cX6_thin_9 (i := 9) rfl) (vyb_cX6_thin_10 (i := 0) rfl) rfl
theorem dX6_thin_101 : decode cX6_thin 101 = Except.ok (Instr.ireturn, 1) := vyd_172 (vyb_cX6_thin_10 (i := 1) rfl)
theorem vyb_cX6_turn_0 {i : Nat} {b : UInt8} (h : ([0x2a, 0x1b, 0xb8, 0x00, 0x6a, 0x04, 0xb6, 0x00, 0x6e, 0x99] : List UInt8)[i]? = some b) : vy_8 cX6_turn (0 + i) b := vy_in (n := 10) (by decide +kernel) h
theorem vyb_cX6_turn_1 {i : Nat} {b : UInt8} (h : ([0x00, 0x05, 0x03, 0xac, 0x2a, 0x1b, 0xb6, 0x00, 0x5b, 0x3d] : List UInt8)[i]? = some b) : vy_8 cX6_turn (10 + i) b := vy_in (n := 10) (by decide +kernel) h
theorem vyb_cX6_turn_2 {i : Nat} {b : UInt8} (h : ([0x1c, 0x9a, 0x00, 0x05, 0x03, 0xac, 0x04, 0x3e, 0x1d, 0x1c] : List UInt8)[i]? = some b) : vy_8 cX6_turn (20 + i) b := vy_in (n := 10) (by decide +kernel) h
theorem vyb_cX6_turn_3 {i : Nat} {b : UInt8} (h : ([0xa2, 0x00, 0x2a, 0x2a, 0xb4, 0x00, 0x0a, 0x1b, 0xb6, 0x00] : List UInt8)[i]? = some b) : vy_8 cX6_turn (30 + i) b := vy_in (n := 10) (by decide +kernel) h
theorem vyb_cX6_turn_4 {i : Nat} {b : UInt8} (h : ([0x30, 0xc0, 0x00, 0x07, 0x03, 0x2a, 0xb4, 0x00, 0x0a, 0x1b] : List UInt8)[i]? = some b) : vy_8 cX6_turn (40 + i) b := vy_in (n := 10) (by decide +kernel) h
theorem vyb_cX6_turn_5 {i : Nat} {b : UInt8} (h : ([0xb6, 0x00, 0x30, 0xc0, 0x00, 0x07, 0x1d, 0xb6, 0x00, 0x51] : List UInt8)[i]? = some b) : vy_8 cX6_turn (50 + i) b := vy_in (n := 10) (by decide +kernel) h
theorem vyb_cX6_turn_6 {i : Nat} {b : UInt8} (h : ([0xc0, 0x00, 0x38, 0xb6, 0x00, 0x4a, 0x84, 0x03, 0x01, 0xa7] : List UInt8)[i]? = some b) : vy_8 cX6_turn (60 + i) b := vy_in (n := 10) (by decide +kernel) h
theorem vyb_cX6_turn_7 {i : Nat} {b : UInt8} (h : ([0xff, 0xd7, 0x2a, 0x1b, 0x02, 0xb6, 0x00, 0x4d, 0x2a, 0xb6] : List UInt8)[i]? = some b) : vy_8 cX6_turn (70 + i) b := vy_in (n := 10) (by decide +kernel) h
theorem vyb_cX6_turn_8 {i : Nat} {b : UInt8} (h : ([0x00, 0xa4, 0x2a, 0x1b, 0x03, 0xb6, 0x00, 0x83, 0xac] : List UInt8)[i]? = some b) : vy_8 cX6_turn (80 + i) b := vy_in (n := 9) (by decide +kernel) h
theorem dX6_turn_0 : decode cX6_turn 0 = Except.ok (Instr.aload_n 0, 1) := vyd_42 (vyb_cX6_turn_0 (i := 0) rfl)
theorem dX6_turn_1 : decode cX6_turn 1 = Except.ok (Instr.iload_n 1, 1) := vyd_27 (vyb_cX6_turn_0 (i := 1) rfl)
theorem dX6_turn_2 : decode cX6_turn 2 = Except.ok (Instr.invokestatic 106, 3) := vyd_184 (vyb_cX6_turn_0 (i := 2) rfl) (vyb_cX6_turn_0 (i := 3) rfl) (vyb_cX6_turn_0 (i := 4) rfl) rfl
theorem dX6_turn_5 : decode cX6_turn 5 = Except.ok (Instr.iconst 1, 1) := vyd_4 (vyb_cX6_turn_0 (i := 5) rfl)
theorem dX6_turn_6 : decode cX6_turn 6 = Except.ok (Instr.invokevirtual 110, 3) := vyd_182 (vyb_cX6_turn_0 (i := 6) rfl) (vyb_cX6_turn_0 (i := 7) rfl) (vyb_cX6_turn_0 (i := 8) rfl) rfl
theorem dX6_turn_9 : decode cX6_turn 9 = Except.ok (Instr.ifCond .eq 5, 3) := vyd_153 (vyb_cX6_turn_0 (i := 9) rfl) (vyb_cX6_turn_1 (i := 0) rfl) (vyb_cX6_turn_1 (i := 1) rfl) (by decide +kernel)
theorem dX6_turn_12 : decode cX6_turn 12 = Except.ok (Instr.iconst 0, 1) := vyd_3 (vyb_cX6_turn_1 (i := 2) rfl)
theorem dX6_turn_13 : decode cX6_turn 13 = Except.ok (Instr.ireturn, 1) := vyd_172 (vyb_cX6_turn_1 (i := 3) rfl)
theorem dX6_turn_14 : decode cX6_turn 14 = Except.ok (Instr.aload_n 0, 1) := vyd_42 (vyb_cX6_turn_1 (i := 4) rfl)
theorem dX6_turn_15 : decode cX6_turn 15 = Except.ok (Instr.iload_n 1, 1) := vyd_27 (vyb_cX6_turn_1 (i := 5) rfl)
theorem dX6_turn_16 : decode cX6_turn 16 = Except.ok (Instr.invokevirtual 91, 3) := vyd_182 (vyb_cX6_turn_1 (i := 6) rfl) (vyb_cX6_turn_1 (i := 7) rfl) (vyb_cX6_turn_1 (i := 8) rfl) rfl
theorem dX6_turn_19 : decode cX6_turn 19 = Except.ok (Instr.istore_n 2, 1) := vyd_61 (vyb_cX6_turn_1 (i := 9) rfl)
theorem dX6_turn_20 : decode cX6_turn 20 = Except.ok (Instr.iload_n 2, 1) := vyd_28 (vyb_cX6_turn_2 (i := 0) rfl)
theorem dX6_turn_21 : decode cX6_turn 21 = Except.ok (Instr.ifCond .ne 5, 3) := vyd_154 (vyb_cX6_turn_2 (i := 1) rfl) (vyb_cX6_turn_2 (i := 2) rfl) (vyb_cX6_turn_2 (i := 3) rfl) (by decide +kernel)
theorem dX6_turn_24 : decode cX6_turn 24 = Except.ok (Instr.iconst 0, 1) := vyd_3 (vyb_cX6_turn_2 (i := 4) rfl)
theorem dX6_turn_25 : decode cX6_turn 25 = Except.ok (Instr.ireturn, 1) := vyd_172 (vyb_cX6_turn_2 (i := 5) rfl)
theorem dX6_turn_26 : decode cX6_turn 26 = Except.ok (Instr.iconst 1, 1) := vyd_4 (vyb_cX6_turn_2 (i := 6) rfl)
theorem dX6_turn_27 : decode cX6_turn 27 = Except.ok (Instr.istore_n 3, 1) := vyd_62 (vyb_cX6_turn_2 (i := 7) rfl)
theorem dX6_turn_28 : decode cX6_turn 28 = Except.ok (Instr.iload_n 3, 1) := vyd_29 (vyb_cX6_turn_2 (i := 8) rfl)
theorem dX6_turn_29 : decode cX6_turn 29 = Except.ok (Instr.iload_n 2, 1) := vyd_28 (vyb_cX6_turn_2 (i := 9) rfl)
theorem dX6_turn_30 : decode cX6_turn 30 = Except.ok (Instr.if_icmp .ge 42, 3) := vyd_162 (vyb_cX6_turn_3 (i := 0) rfl) (vyb_cX6_turn_3 (i := 1) rfl) (vyb_cX6_turn_3 (i := 2) rfl) (by decide +kernel)
theorem dX6_turn_33 : decode cX6_turn 33 = Except.ok (Instr.aload_n 0, 1) := vyd_42 (vyb_cX6_turn_3 (i := 3) rfl)
theorem dX6_turn_34 : decode cX6_turn 34 = Except.ok (Instr.getfield 10, 3) := vyd_180 (vyb_cX6_turn_3 (i := 4) rfl) (vyb_cX6_turn_3 (i := 5) rfl) (vyb_cX6_turn_3 (i := 6) rfl) rfl
theorem dX6_turn_37 : decode cX6_turn 37 = Except.ok (Instr.iload_n 1, 1) := vyd_27 (vyb_cX6_turn_3 (i := 7) rfl)
theorem dX6_turn_38 : decode cX6_turn 38 = Except.ok (Instr.invokevirtual 48, 3) := vyd_182 (vyb_cX6_turn_3 (i := 8) rfl) (vyb_cX6_turn_3 (i := 9) rfl) (vyb_cX6_turn_4 (i := 0) rfl) rfl
theorem dX6_turn_41 : decode cX6_turn 41 = Except.ok (Instr.checkcast 7, 3) := vyd_192 (vyb_cX6_turn_4 (i := 1) rfl) (vyb_cX6_turn_4 (i := 2) rfl) (vyb_cX6_turn_4 (i := 3) rfl) rfl
theorem dX6_turn_44 : decode cX6_turn 44 = Except.ok (Instr.iconst 0, 1) := vyd_3 (vyb_cX6_turn_4 (i := 4) rfl)
theorem dX6_turn_45 : decode cX6_turn 45 = Except.ok (Instr.aload_n 0, 1) := vyd_42 (vyb_cX6_turn_4 (i := 5) rfl)
theorem dX6_turn_46 : decode cX6_turn 46 = Except.ok (Instr.getfield 10, 3) := vyd_180 (vyb_cX6_turn_4 (i := 6) rfl) (vyb_cX6_turn_4 (i := 7) rfl) (vyb_cX6_turn_4 (i := 8) rfl) rfl
theorem dX6_turn_49 : decode cX6_turn 49 = Except.ok (Instr.iload_n 1, 1) := vyd_27 (vyb_cX6_turn_4 (i := 9) rfl)
theorem dX6_turn_50 : decode cX6_turn 50 = Except.ok (Instr.invokevirtual 48, 3) := vyd_182 (vyb_cX6_turn_5 (i := 0) rfl) (vyb_cX6_turn_5 (i := 1) rfl) (vyb_cX6_turn_5 (i := 2) rfl) rfl
theorem dX6_turn_53 : decode cX6_turn 53 = Except.ok (Instr.checkcast 7, 3) := vyd_192 (vyb_cX6_turn_5 (i := 3) rfl) (vyb_cX6_turn_5 (i := 4) rfl) (vyb_cX6_turn_5 (i := 5) rfl) rfl
theorem dX6_turn_56 : decode cX6_turn 56 = Except.ok (Instr.iload_n 3, 1) := vyd_29 (vyb_cX6_turn_5 (i := 6) rfl)
theorem dX6_turn_57 : decode cX6_turn 57 = Except.ok (Instr.invokevirtual 81, 3) := vyd_182 (vyb_cX6_turn_5 (i := 7) rfl) (vyb_cX6_turn_5 (i := 8) rfl) (vyb_cX6_turn_5 (i := 9) rfl) rfl
theorem dX6_turn_60 : decode cX6_turn 60 = Except.ok (Instr.checkcast 56, 3) := vyd_192 (vyb_cX6_turn_6 (i := 0) rfl) (vyb_cX6_turn_6 (i := 1) rfl) (vyb_cX6_turn_6 (i := 2) rfl) rfl
theorem dX6_turn_63 : decode cX6_turn 63 = Except.ok (Instr.invokevirtual 74, 3) := vyd_182 (vyb_cX6_turn_6 (i := 3) rfl) (vyb_cX6_turn_6 (i := 4) rfl) (vyb_cX6_turn_6 (i := 5) rfl) rfl
theorem dX6_turn_66 : decode cX6_turn 66 = .ok (.iinc 3 1, 3) := by decide +kernel
theorem dX6_turn_69 : decode cX6_turn 69 = Except.ok (Instr.goto (-41), 3) := vyd_167 (vyb_cX6_turn_6 (i := 9) rfl) (vyb_cX6_turn_7 (i := 0) rfl) (vyb_cX6_turn_7 (i := 1) rfl) (by decide +kernel)
theorem dX6_turn_72 : decode cX6_turn 72 = Except.ok (Instr.aload_n 0, 1) := vyd_42 (vyb_cX6_turn_7 (i := 2) rfl)
theorem dX6_turn_73 : decode cX6_turn 73 = Except.ok (Instr.iload_n 1, 1) := vyd_27 (vyb_cX6_turn_7 (i := 3) rfl)
theorem dX6_turn_74 : decode cX6_turn 74 = Except.ok (Instr.iconst (-1), 1) := vyd_2 (vyb_cX6_turn_7 (i := 4) rfl)
theorem dX6_turn_75 : decode cX6_turn 75 = Except.ok (Instr.invokevirtual 77, 3) := vyd_182 (vyb_cX6_turn_7 (i := 5) rfl) (vyb_cX6_turn_7 (i := 6) rfl) (vyb_cX6_turn_7 (i := 7) rfl) rfl
theorem dX6_turn_78 : decode cX6_turn 78 = Except.ok (Instr.aload_n 0, 1) := vyd_42 (vyb_cX6_turn_7 (i := 8) rfl)
theorem dX6_turn_79 : decode cX6_turn 79 = Except.ok (Instr.invokevirtual 164, 3) := vyd_182 (vyb_cX6_turn_7 (i := 9) rfl) (vyb_cX6_turn_8 (i := 0) rfl) (vyb_cX6_turn_8 (i := 1) rfl) rfl
theorem dX6_turn_82 : decode cX6_turn 82 = Except.ok (Instr.aload_n 0, 1) := vyd_42 (vyb_cX6_turn_8 (i := 2) rfl)
theorem dX6_turn_83 : decode cX6_turn 83 = Except.ok (Instr.iload_n 1, 1) := vyd_27 (vyb_cX6_turn_8 (i := 3) rfl)
theorem dX6_turn_84 : decode cX6_turn 84 = Except.ok (Instr.iconst 0, 1) := vyd_3 (vyb_cX6_turn_8 (i := 4) rfl)
theorem dX6_turn_85 : decode cX6_turn 85 = Except.ok (Instr.invokevirtual 131, 3) := vyd_182 (vyb_cX6_turn_8 (i := 5) rfl) (vyb_cX6_turn_8 (i := 6) rfl) (vyb_cX6_turn_8 (i := 7) rfl) rfl
theorem dX6_turn_88 : decode cX6_turn 88 = Except.ok (Instr.ireturn, 1) := vyd_172 (vyb_cX6_turn_8 (i := 8) rfl)
theorem vyb_cX6_clear_0 {i : Nat} {b : UInt8} (h : ([0x2a, 0x1b, 0xb8, 0x00, 0x6a, 0x04, 0xb6, 0x00, 0x6e, 0x99] : List UInt8)[i]? = some b) : vy_8 cX6_clear (0 + i) b := vy_in (n := 10) (by decide +kernel) h
theorem vyb_cX6_clear_1 {i : Nat} {b : UInt8} (h : ([0x00, 0x05, 0x03, 0xac, 0x2a, 0x1b, 0xb6, 0x00, 0x5b, 0xbc] : List UInt8)[i]? = some b) : vy_8 cX6_clear (10 + i) b := vy_in (n := 10) (by decide +kernel) h
theorem vyb_cX6_clear_2 {i : Nat} {b : UInt8} (h : ([0x04, 0x4d, 0x03, 0x3e, 0x1d, 0x2c, 0xbe, 0xa2, 0x00, 0x0d] : List UInt8)[i]? = some b) : vy_8 cX6_clear (20 + i) b := vy_in (n := 10) (by decide +kernel) h
theorem vyb_cX6_clear_3 {i : Nat} {b : UInt8} (h : ([0x2c, 0x1d, 0x04, 0x54, 0x84, 0x03, 0x01, 0xa7, 0xff, 0xf3] : List UInt8)[i]? = some b) : vy_8 cX6_clear (30 + i) b := vy_in (n := 10) (by decide +kernel) h
theorem vyb_cX6_clear_4 {i : Nat} {b : UInt8} (h : ([0x2a, 0x1b, 0x2c, 0xb6, 0x00, 0xa7, 0xac] : List UInt8)[i]? = some b) : vy_8 cX6_clear (40 + i) b := vy_in (n := 7) (by decide +kernel) h
theorem dX6_clear_0 : decode cX6_clear 0 = Except.ok (Instr.aload_n 0, 1) := vyd_42 (vyb_cX6_clear_0 (i := 0) rfl)
theorem dX6_clear_1 : decode cX6_clear 1 = Except.ok (Instr.iload_n 1, 1) := vyd_27 (vyb_cX6_clear_0 (i := 1) rfl)
theorem dX6_clear_2 : decode cX6_clear 2 = Except.ok (Instr.invokestatic 106, 3) := vyd_184 (vyb_cX6_clear_0 (i := 2) rfl) (vyb_cX6_clear_0 (i := 3) rfl) (vyb_cX6_clear_0 (i := 4) rfl) rfl
theorem dX6_clear_5 : decode cX6_clear 5 = Except.ok (Instr.iconst 1, 1) := vyd_4 (vyb_cX6_clear_0 (i := 5) rfl)
theorem dX6_clear_6 : decode cX6_clear 6 = Except.ok (Instr.invokevirtual 110, 3) := vyd_182 (vyb_cX6_clear_0 (i := 6) rfl) (vyb_cX6_clear_0 (i := 7) rfl) (vyb_cX6_clear_0 (i := 8) rfl) rfl
theorem dX6_clear_9 : decode cX6_clear 9 = Except.ok (Instr.ifCond .eq 5, 3) := vyd_153 (vyb_cX6_clear_0 (i := 9) rfl) (vyb_cX6_clear_1 (i := 0) rfl) (vyb_cX6_clear_1 (i := 1) rfl) (by decide +kernel)
theorem dX6_clear_12 : decode cX6_clear 12 = Except.ok (Instr.iconst 0, 1) := vyd_3 (vyb_cX6_clear_1 (i := 2) rfl)
theorem dX6_clear_13 : decode cX6_clear 13 = Except.ok (Instr.ireturn, 1) := vyd_172 (vyb_cX6_clear_1 (i := 3) rfl)
theorem dX6_clear_14 : decode cX6_clear 14 = Except.ok (Instr.aload_n 0, 1) := vyd_42 (vyb_cX6_clear_1 (i := 4) rfl)
theorem dX6_clear_15 : decode cX6_clear 15 = Except.ok (Instr.iload_n 1, 1) := vyd_27 (vyb_cX6_clear_1 (i := 5) rfl)
theorem dX6_clear_16 : decode cX6_clear 16 = Except.ok (Instr.invokevirtual 91, 3) := vyd_182 (vyb_cX6_clear_1 (i := 6) rfl) (vyb_cX6_clear_1 (i := 7) rfl) (vyb_cX6_clear_1 (i := 8) rfl) rfl
theorem dX6_clear_19 : decode cX6_clear 19 = .ok (.newarray .boolean, 2) := by decide +kernel
theorem dX6_clear_21 : decode cX6_clear 21 = Except.ok (Instr.astore_n 2, 1) := vyd_77 (vyb_cX6_clear_2 (i := 1) rfl)
theorem dX6_clear_22 : decode cX6_clear 22 = Except.ok (Instr.iconst 0, 1) := vyd_3 (vyb_cX6_clear_2 (i := 2) rfl)
theorem dX6_clear_23 : decode cX6_clear 23 = Except.ok (Instr.istore_n 3, 1) := vyd_62 (vyb_cX6_clear_2 (i := 3) rfl)
theorem dX6_clear_24 : decode cX6_clear 24 = Except.ok (Instr.iload_n 3, 1) := vyd_29 (vyb_cX6_clear_2 (i := 4) rfl)
theorem dX6_clear_25 : decode cX6_clear 25 = Except.ok (Instr.aload_n 2, 1) := vyd_44 (vyb_cX6_clear_2 (i := 5) rfl)
theorem dX6_clear_26 : decode cX6_clear 26 = Except.ok (Instr.arraylength, 1) := vyd_190 (vyb_cX6_clear_2 (i := 6) rfl)
theorem dX6_clear_27 : decode cX6_clear 27 = Except.ok (Instr.if_icmp .ge 13, 3) := vyd_162 (vyb_cX6_clear_2 (i := 7) rfl) (vyb_cX6_clear_2 (i := 8) rfl) (vyb_cX6_clear_2 (i := 9) rfl) (by decide +kernel)
theorem dX6_clear_30 : decode cX6_clear 30 = Except.ok (Instr.aload_n 2, 1) := vyd_44 (vyb_cX6_clear_3 (i := 0) rfl)
theorem dX6_clear_31 : decode cX6_clear 31 = Except.ok (Instr.iload_n 3, 1) := vyd_29 (vyb_cX6_clear_3 (i := 1) rfl)
theorem dX6_clear_32 : decode cX6_clear 32 = Except.ok (Instr.iconst 1, 1) := vyd_4 (vyb_cX6_clear_3 (i := 2) rfl)
theorem dX6_clear_33 : decode cX6_clear 33 = Except.ok (Instr.bastore, 1) := vyd_84 (vyb_cX6_clear_3 (i := 3) rfl)
theorem dX6_clear_34 : decode cX6_clear 34 = .ok (.iinc 3 1, 3) := by decide +kernel
theorem dX6_clear_37 : decode cX6_clear 37 = Except.ok (Instr.goto (-13), 3) := vyd_167 (vyb_cX6_clear_3 (i := 7) rfl) (vyb_cX6_clear_3 (i := 8) rfl) (vyb_cX6_clear_3 (i := 9) rfl) (by decide +kernel)
theorem dX6_clear_40 : decode cX6_clear 40 = Except.ok (Instr.aload_n 0, 1) := vyd_42 (vyb_cX6_clear_4 (i := 0) rfl)
theorem dX6_clear_41 : decode cX6_clear 41 = Except.ok (Instr.iload_n 1, 1) := vyd_27 (vyb_cX6_clear_4 (i := 1) rfl)
theorem dX6_clear_42 : decode cX6_clear 42 = Except.ok (Instr.aload_n 2, 1) := vyd_44 (vyb_cX6_clear_4 (i := 2) rfl)
theorem dX6_clear_43 : decode cX6_clear 43 = Except.ok (Instr.invokevirtual 167, 3) := vyd_182 (vyb_cX6_clear_4 (i := 3) rfl) (vyb_cX6_clear_4 (i := 4) rfl) (vyb_cX6_clear_4 (i := 5) rfl) rfl
theorem dX6_clear_46 : decode cX6_clear 46 = Except.ok (Instr.ireturn, 1) := vyd_172 (vyb_cX6_clear_4 (i := 6) rfl)
theorem vyb_cX6_purge_0 {i : Nat} {b : UInt8} (h : ([0x2a, 0x03, 0xb5, 0x00, 0x25, 0x2a, 0x04, 0xb6, 0x00, 0x5b] : List UInt8)[i]? = some b) : vy_8 cX6_purge (0 + i) b := vy_in (n := 10) (by decide +kernel) h
theorem vyb_cX6_purge_1 {i : Nat} {b : UInt8} (h : ([0xbc, 0x04, 0x4d, 0x03, 0x3e, 0x1d, 0x2c, 0xbe, 0xa2, 0x00] : List UInt8)[i]? = some b) : vy_8 cX6_purge (10 + i) b := vy_in (n := 10) (by decide +kernel) h
theorem vyb_cX6_purge_2 {i : Nat} {b : UInt8} (h : ([0x2d, 0x2c, 0x1d, 0x2a, 0x03, 0x2a, 0x04, 0x1d, 0xb6, 0x00] : List UInt8)[i]? = some b) : vy_8 cX6_purge (20 + i) b := vy_in (n := 10) (by decide +kernel) h
theorem vyb_cX6_purge_3 {i : Nat} {b : UInt8} (h : ([0x83, 0xb8, 0x00, 0x9a, 0x03, 0xb6, 0x00, 0xa0, 0x02, 0xa0] : List UInt8)[i]? = some b) : vy_8 cX6_purge (30 + i) b := vy_in (n := 10) (by decide +kernel) h
theorem vyb_cX6_purge_4 {i : Nat} {b : UInt8} (h : ([0x00, 0x07, 0x04, 0xa7, 0x00, 0x04, 0x03, 0x1b, 0xa0, 0x00] : List UInt8)[i]? = some b) : vy_8 cX6_purge (40 + i) b := vy_in (n := 10) (by decide +kernel) h
theorem vyb_cX6_purge_5 {i : Nat} {b : UInt8} (h : ([0x07, 0x04, 0xa7, 0x00, 0x04, 0x03, 0x54, 0x84, 0x03, 0x01] : List UInt8)[i]? = some b) : vy_8 cX6_purge (50 + i) b := vy_in (n := 10) (by decide +kernel) h
theorem vyb_cX6_purge_6 {i : Nat} {b : UInt8} (h : ([0xa7, 0xff, 0xd3, 0x2a, 0x04, 0x2c, 0xb6, 0x00, 0xa7, 0xac] : List UInt8)[i]? = some b) : vy_8 cX6_purge (60 + i) b := vy_in (n := 10) (by decide +kernel) h
theorem dX6_purge_0 : decode cX6_purge 0 = Except.ok (Instr.aload_n 0, 1) := vyd_42 (vyb_cX6_purge_0 (i := 0) rfl)
theorem dX6_purge_1 : decode cX6_purge 1 = Except.ok (Instr.iconst 0, 1) := vyd_3 (vyb_cX6_purge_0 (i := 1) rfl)
theorem dX6_purge_2 : decode cX6_purge 2 = Except.ok (Instr.putfield 37, 3) := vyd_181 (vyb_cX6_purge_0 (i := 2) rfl) (vyb_cX6_purge_0 (i := 3) rfl) (vyb_cX6_purge_0 (i := 4) rfl) rfl
theorem dX6_purge_5 : decode cX6_purge 5 = Except.ok (Instr.aload_n 0, 1) := vyd_42 (vyb_cX6_purge_0 (i := 5) rfl)
theorem dX6_purge_6 : decode cX6_purge 6 = Except.ok (Instr.iconst 1, 1) := vyd_4 (vyb_cX6_purge_0 (i := 6) rfl)
theorem dX6_purge_7 : decode cX6_purge 7 = Except.ok (Instr.invokevirtual 91, 3) := vyd_182 (vyb_cX6_purge_0 (i := 7) rfl) (vyb_cX6_purge_0 (i := 8) rfl) (vyb_cX6_purge_0 (i := 9) rfl) rfl
theorem dX6_purge_10 : decode cX6_purge 10 = .ok (.newarray .boolean, 2) := by decide +kernel
theorem dX6_purge_12 : decode cX6_purge 12 = Except.ok (Instr.astore_n 2, 1) := vyd_77 (vyb_cX6_purge_1 (i := 2) rfl)
theorem dX6_purge_13 : decode cX6_purge 13 = Except.ok (Instr.iconst 0, 1) := vyd_3 (vyb_cX6_purge_1 (i := 3) rfl)
theorem dX6_purge_14 : decode cX6_purge 14 = Except.ok (Instr.istore_n 3, 1) := vyd_62 (vyb_cX6_purge_1 (i := 4) rfl)
theorem dX6_purge_15 : decode cX6_purge 15 = Except.ok (Instr.iload_n 3, 1) := vyd_29 (vyb_cX6_purge_1 (i := 5) rfl)
theorem dX6_purge_16 : decode cX6_purge 16 = Except.ok (Instr.aload_n 2, 1) := vyd_44 (vyb_cX6_purge_1 (i := 6) rfl)
theorem dX6_purge_17 : decode cX6_purge 17 = Except.ok (Instr.arraylength, 1) := vyd_190 (vyb_cX6_purge_1 (i := 7) rfl)
theorem dX6_purge_18 : decode cX6_purge 18 = Except.ok (Instr.if_icmp .ge 45, 3) := vyd_162 (vyb_cX6_purge_1 (i := 8) rfl) (vyb_cX6_purge_1 (i := 9) rfl) (vyb_cX6_purge_2 (i := 0) rfl) (by decide +kernel)
theorem dX6_purge_21 : decode cX6_purge 21 = Except.ok (Instr.aload_n 2, 1) := vyd_44 (vyb_cX6_purge_2 (i := 1) rfl)
theorem dX6_purge_22 : decode cX6_purge 22 = Except.ok (Instr.iload_n 3, 1) := vyd_29 (vyb_cX6_purge_2 (i := 2) rfl)
theorem dX6_purge_23 : decode cX6_purge 23 = Except.ok (Instr.aload_n 0, 1) := vyd_42 (vyb_cX6_purge_2 (i := 3) rfl)
theorem dX6_purge_24 : decode cX6_purge 24 = Except.ok (Instr.iconst 0, 1) := vyd_3 (vyb_cX6_purge_2 (i := 4) rfl)
theorem dX6_purge_25 : decode cX6_purge 25 = Except.ok (Instr.aload_n 0, 1) := vyd_42 (vyb_cX6_purge_2 (i := 5) rfl)
theorem dX6_purge_26 : decode cX6_purge 26 = Except.ok (Instr.iconst 1, 1) := vyd_4 (vyb_cX6_purge_2 (i := 6) rfl)
theorem dX6_purge_27 : decode cX6_purge 27 = Except.ok (Instr.iload_n 3, 1) := vyd_29 (vyb_cX6_purge_2 (i := 7) rfl)
theorem dX6_purge_28 : decode cX6_purge 28 = Except.ok (Instr.invokevirtual 131, 3) := vyd_182 (vyb_cX6_purge_2 (i := 8) rfl) (vyb_cX6_purge_2 (i := 9) rfl) (vyb_cX6_purge_3 (i := 0) rfl) rfl
theorem dX6_purge_31 : decode cX6_purge 31 = Except.ok (Instr.invokestatic 154, 3) := vyd_184 (vyb_cX6_purge_3 (i := 1) rfl) (vyb_cX6_purge_3 (i := 2) rfl) (vyb_cX6_purge_3 (i := 3) rfl) rfl
theorem dX6_purge_34 : decode cX6_purge 34 = Except.ok (Instr.iconst 0, 1) := vyd_3 (vyb_cX6_purge_3 (i := 4) rfl)
theorem dX6_purge_35 : decode cX6_purge 35 = Except.ok (Instr.invokevirtual 160, 3) := vyd_182 (vyb_cX6_purge_3 (i := 5) rfl) (vyb_cX6_purge_3 (i := 6) rfl) (vyb_cX6_purge_3 (i := 7) rfl) rfl
theorem dX6_purge_38 : decode cX6_purge 38 = Except.ok (Instr.iconst (-1), 1) := vyd_2 (vyb_cX6_purge_3 (i := 8) rfl)
theorem dX6_purge_39 : decode cX6_purge 39 = Except.ok (Instr.if_icmp .ne 7, 3) := vyd_160 (vyb_cX6_purge_3 (i := 9) rfl) (vyb_cX6_purge_4 (i := 0) rfl) (vyb_cX6_purge_4 (i := 1) rfl) (by decide +kernel)
theorem dX6_purge_42 : decode cX6_purge 42 = Except.ok (Instr.iconst 1, 1) := vyd_4 (vyb_cX6_purge_4 (i := 2) rfl)
theorem dX6_purge_43 : decode cX6_purge 43 = Except.ok (Instr.goto 4, 3) := vyd_167 (vyb_cX6_purge_4 (i := 3) rfl) (vyb_cX6_purge_4 (i := 4) rfl) (vyb_cX6_purge_4 (i := 5) rfl) (by decide +kernel)
theorem dX6_purge_46 : decode cX6_purge 46 = Except.ok (Instr.iconst 0, 1) := vyd_3 (vyb_cX6_purge_4 (i := 6) rfl)
theorem dX6_purge_47 : decode cX6_purge 47 = Except.ok (Instr.iload_n 1, 1) := vyd_27 (vyb_cX6_purge_4 (i := 7) rfl)
theorem dX6_purge_48 : decode cX6_purge 48 = Except.ok (Instr.if_icmp .ne 7, 3) := vyd_160 (vyb_cX6_purge_4 (i := 8) rfl) (vyb_cX6_purge_4 (i := 9) rfl) (vyb_cX6_purge_5 (i := 0) rfl) (by decide +kernel)
theorem dX6_purge_51 : decode cX6_purge 51 = Except.ok (Instr.iconst 1, 1) := vyd_4 (vyb_cX6_purge_5 (i := 1) rfl)
theorem dX6_purge_52 : decode cX6_purge 52 = Except.ok (Instr.goto 4, 3) := vyd_167 (vyb_cX6_purge_5 (i := 2) rfl) (vyb_cX6_purge_5 (i := 3) rfl) (vyb_cX6_purge_5 (i := 4) rfl) (by decide +kernel)
theorem dX6_purge_55 : decode cX6_purge 55 = Except.ok (Instr.iconst 0, 1) := vyd_3 (vyb_cX6_purge_5 (i := 5) rfl)
theorem dX6_purge_56 : decode cX6_purge 56 = Except.ok (Instr.bastore, 1) := vyd_84 (vyb_cX6_purge_5 (i := 6) rfl)
theorem dX6_purge_57 : decode cX6_purge 57 = .ok (.iinc 3 1, 3) := by decide +kernel
theorem dX6_purge_60 : decode cX6_purge 60 = Except.ok (Instr.goto (-45), 3) := vyd_167 (vyb_cX6_purge_6 (i := 0) rfl) (vyb_cX6_purge_6 (i := 1) rfl) (vyb_cX6_purge_6 (i := 2) rfl) (by decide +kernel)
theorem dX6_purge_63 : decode cX6_purge 63 = Except.ok (Instr.aload_n 0, 1) := vyd_42 (vyb_cX6_purge_6 (i := 3) rfl)
theorem dX6_purge_64 : decode cX6_purge 64 = Except.ok (Instr.iconst 1, 1) := vyd_4 (vyb_cX6_purge_6 (i := 4) rfl)
theorem dX6_purge_65 : decode cX6_purge 65 = Except.ok (Instr.aload_n 2, 1) := vyd_44 (vyb_cX6_purge_6 (i := 5) rfl)
theorem dX6_purge_66 : decode cX6_purge 66 = Except.ok (Instr.invokevirtual 167, 3) := vyd_182 (vyb_cX6_purge_6 (i := 6) rfl) (vyb_cX6_purge_6 (i := 7) rfl) (vyb_cX6_purge_6 (i := 8) rfl) rfl
theorem dX6_purge_69 : decode cX6_purge 69 = Except.ok (Instr.ireturn, 1) := vyd_172 (vyb_cX6_purge_6 (i := 9) rfl)
theorem vyb_cX6_walk_0 {i : Nat} {b : UInt8} (h : ([0x2a, 0x03, 0xb5, 0x00, 0x25, 0x2a, 0x1b, 0x99, 0x00, 0x07] : List UInt8)[i]? = some b) : vy_8 cX6_walk (0 + i) b := vy_in (n := 10) (by decide +kernel) h
theorem vyb_cX6_walk_1 {i : Nat} {b : UInt8} (h : ([0x05, 0xa7, 0x00, 0x04, 0x04, 0xb5, 0x00, 0x3d, 0x2a, 0x1b] : List UInt8)[i]? = some b) : vy_8 cX6_walk (10 + i) b := vy_in (n := 10) (by decide +kernel) h
theorem vyb_cX6_walk_2 {i : Nat} {b : UInt8} (h : ([0x99, 0x00, 0x0d, 0x2a, 0x03, 0xb6, 0x00, 0x5b, 0x04, 0x64] : List UInt8)[i]? = some b) : vy_8 cX6_walk (20 + i) b := vy_in (n := 10) (by decide +kernel) h
theorem vyb_cX6_walk_3 {i : Nat} {b : UInt8} (h : ([0xa7, 0x00, 0x04, 0x03, 0xb5, 0x00, 0x40, 0x2a, 0x02, 0xb5] : List UInt8)[i]? = some b) : vy_8 cX6_walk (30 + i) b := vy_in (n := 10) (by decide +kernel) h
theorem vyb_cX6_walk_4 {i : Nat} {b : UInt8} (h : ([0x00, 0x1d, 0x2a, 0x03, 0xb6, 0x00, 0x5b, 0xac] : List UInt8)[i]? = some b) : vy_8 cX6_walk (40 + i) b := vy_in (n := 8) (by decide +kernel) h
theorem dX6_walk_0 : decode cX6_walk 0 = Except.ok (Instr.aload_n 0, 1) := vyd_42 (vyb_cX6_walk_0 (i := 0) rfl)
theorem dX6_walk_1 : decode cX6_walk 1 = Except.ok (Instr.iconst 0, 1) := vyd_3 (vyb_cX6_walk_0 (i := 1) rfl)
theorem dX6_walk_2 : decode cX6_walk 2 = Except.ok (Instr.putfield 37, 3) := vyd_181 (vyb_cX6_walk_0 (i := 2) rfl) (vyb_cX6_walk_0 (i := 3) rfl) (vyb_cX6_walk_0 (i := 4) rfl) rfl
theorem dX6_walk_5 : decode cX6_walk 5 = Except.ok (Instr.aload_n 0, 1) := vyd_42 (vyb_cX6_walk_0 (i := 5) rfl)
theorem dX6_walk_6 : decode cX6_walk 6 = Except.ok (Instr.iload_n 1, 1) := vyd_27 (vyb_cX6_walk_0 (i := 6) rfl)
theorem dX6_walk_7 : decode cX6_walk 7 = Except.ok (Instr.ifCond .eq 7, 3) := vyd_153 (vyb_cX6_walk_0 (i := 7) rfl) (vyb_cX6_walk_0 (i := 8) rfl) (vyb_cX6_walk_0 (i := 9) rfl) (by decide +kernel)
theorem dX6_walk_10 : decode cX6_walk 10 = Except.ok (Instr.iconst 2, 1) := vyd_5 (vyb_cX6_walk_1 (i := 0) rfl)
theorem dX6_walk_11 : decode cX6_walk 11 = Except.ok (Instr.goto 4, 3) := vyd_167 (vyb_cX6_walk_1 (i := 1) rfl) (vyb_cX6_walk_1 (i := 2) rfl) (vyb_cX6_walk_1 (i := 3) rfl) (by decide +kernel)
theorem dX6_walk_14 : decode cX6_walk 14 = Except.ok (Instr.iconst 1, 1) := vyd_4 (vyb_cX6_walk_1 (i := 4) rfl)
theorem dX6_walk_15 : decode cX6_walk 15 = Except.ok (Instr.putfield 61, 3) := vyd_181 (vyb_cX6_walk_1 (i := 5) rfl) (vyb_cX6_walk_1 (i := 6) rfl) (vyb_cX6_walk_1 (i := 7) rfl) rfl
theorem dX6_walk_18 : decode cX6_walk 18 = Except.ok (Instr.aload_n 0, 1) := vyd_42 (vyb_cX6_walk_1 (i := 8) rfl)
theorem dX6_walk_19 : decode cX6_walk 19 = Except.ok (Instr.iload_n 1, 1) := vyd_27 (vyb_cX6_walk_1 (i := 9) rfl)
theorem dX6_walk_20 : decode cX6_walk 20 = Except.ok (Instr.ifCond .eq 13, 3) := vyd_153 (vyb_cX6_walk_2 (i := 0) rfl) (vyb_cX6_walk_2 (i := 1) rfl) (vyb_cX6_walk_2 (i := 2) rfl) (by decide +kernel)
theorem dX6_walk_23 : decode cX6_walk 23 = Except.ok (Instr.aload_n 0, 1) := vyd_42 (vyb_cX6_walk_2 (i := 3) rfl)
theorem dX6_walk_24 : decode cX6_walk 24 = Except.ok (Instr.iconst 0, 1) := vyd_3 (vyb_cX6_walk_2 (i := 4) rfl)
theorem dX6_walk_25 : decode cX6_walk 25 = Except.ok (Instr.invokevirtual 91, 3) := vyd_182 (vyb_cX6_walk_2 (i := 5) rfl) (vyb_cX6_walk_2 (i := 6) rfl) (vyb_cX6_walk_2 (i := 7) rfl) rfl
theorem dX6_walk_28 : decode cX6_walk 28 = Except.ok (Instr.iconst 1, 1) := vyd_4 (vyb_cX6_walk_2 (i := 8) rfl)
theorem dX6_walk_29 : decode cX6_walk 29 = Except.ok (Instr.isub, 1) := vyd_100 (vyb_cX6_walk_2 (i := 9) rfl)
theorem dX6_walk_30 : decode cX6_walk 30 = Except.ok (Instr.goto 4, 3) := vyd_167 (vyb_cX6_walk_3 (i := 0) rfl) (vyb_cX6_walk_3 (i := 1) rfl) (vyb_cX6_walk_3 (i := 2) rfl) (by decide +kernel)
theorem dX6_walk_33 : decode cX6_walk 33 = Except.ok (Instr.iconst 0, 1) := vyd_3 (vyb_cX6_walk_3 (i := 3) rfl)
theorem dX6_walk_34 : decode cX6_walk 34 = Except.ok (Instr.putfield 64, 3) := vyd_181 (vyb_cX6_walk_3 (i := 4) rfl) (vyb_cX6_walk_3 (i := 5) rfl) (vyb_cX6_walk_3 (i := 6) rfl) rfl
theorem dX6_walk_37 : decode cX6_walk 37 = Except.ok (Instr.aload_n 0, 1) := vyd_42 (vyb_cX6_walk_3 (i := 7) rfl)
theorem dX6_walk_38 : decode cX6_walk 38 = Except.ok (Instr.iconst (-1), 1) := vyd_2 (vyb_cX6_walk_3 (i := 8) rfl)
theorem dX6_walk_39 : decode cX6_walk 39 = Except.ok (Instr.putfield 29, 3) := vyd_181 (vyb_cX6_walk_3 (i := 9) rfl) (vyb_cX6_walk_4 (i := 0) rfl) (vyb_cX6_walk_4 (i := 1) rfl) rfl
theorem dX6_walk_42 : decode cX6_walk 42 = Except.ok (Instr.aload_n 0, 1) := vyd_42 (vyb_cX6_walk_4 (i := 2) rfl)
theorem dX6_walk_43 : decode cX6_walk 43 = Except.ok (Instr.iconst 0, 1) := vyd_3 (vyb_cX6_walk_4 (i := 3) rfl)
theorem dX6_walk_44 : decode cX6_walk 44 = Except.ok (Instr.invokevirtual 91, 3) := vyd_182 (vyb_cX6_walk_4 (i := 4) rfl) (vyb_cX6_walk_4 (i := 5) rfl) (vyb_cX6_walk_4 (i := 6) rfl) rfl
theorem dX6_walk_47 : decode cX6_walk 47 = Except.ok (Instr.ireturn, 1) := vyd_172 (vyb_cX6_walk_4 (i := 7) rfl)
theorem vyb_cX6_hasNext_0 {i : Nat} {b : UInt8} (h : ([0x2a, 0xb4, 0x00, 0x3d, 0x99, 0x00, 0x19, 0x2a, 0xb4, 0x00] : List UInt8)[i]? = some b) : vy_8 cX6_hasNext (0 + i) b := vy_in (n := 10) (by decide +kernel) h
theorem vyb_cX6_hasNext_1 {i : Nat} {b : UInt8} (h : ([0x40, 0x03, 0x2a, 0x03, 0xb6, 0x00, 0x5b, 0x04, 0x64, 0xb8] : List UInt8)[i]? = some b) : vy_8 cX6_hasNext (10 + i) b := vy_in (n := 10) (by decide +kernel) h
theorem vyb_cX6_hasNext_2 {i : Nat} {b : UInt8} (h : ([0x00, 0x2c, 0x99, 0x00, 0x07, 0x04, 0xa7, 0x00, 0x04, 0x03] : List UInt8)[i]? = some b) : vy_8 cX6_hasNext (20 + i) b := vy_in (n := 10) (by decide +kernel) h
theorem vyb_cX6_hasNext_3 {i : Nat} {b : UInt8} (h : ([0xac] : List UInt8)[i]? = some b) : vy_8 cX6_hasNext (30 + i) b := vy_in (n := 1) (by decide +kernel) h
theorem dX6_hasNext_0 : decode cX6_hasNext 0 = Except.ok (Instr.aload_n 0, 1) := vyd_42 (vyb_cX6_hasNext_0 (i := 0) rfl)
theorem dX6_hasNext_1 : decode cX6_hasNext 1 = Except.ok (Instr.getfield 61, 3) := vyd_180 (vyb_cX6_hasNext_0 (i := 1) rfl) (vyb_cX6_hasNext_0 (i := 2) rfl) (vyb_cX6_hasNext_0 (i := 3) rfl) rfl
theorem dX6_hasNext_4 : decode cX6_hasNext 4 = Except.ok (Instr.ifCond .eq 25, 3) := vyd_153 (vyb_cX6_hasNext_0 (i := 4) rfl) (vyb_cX6_hasNext_0 (i := 5) rfl) (vyb_cX6_hasNext_0 (i := 6) rfl) (by decide +kernel)
theorem dX6_hasNext_7 : decode cX6_hasNext 7 = Except.ok (Instr.aload_n 0, 1) := vyd_42 (vyb_cX6_hasNext_0 (i := 7) rfl)
theorem dX6_hasNext_8 : decode cX6_hasNext 8 = Except.ok (Instr.getfield 64, 3) := vyd_180 (vyb_cX6_hasNext_0 (i := 8) rfl) (vyb_cX6_hasNext_0 (i := 9) rfl) (vyb_cX6_hasNext_1 (i := 0) rfl) rfl
theorem dX6_hasNext_11 : decode cX6_hasNext 11 = Except.ok (Instr.iconst 0, 1) := vyd_3 (vyb_cX6_hasNext_1 (i := 1) rfl)
theorem dX6_hasNext_12 : decode cX6_hasNext 12 = Except.ok (Instr.aload_n 0, 1) := vyd_42 (vyb_cX6_hasNext_1 (i := 2) rfl)
theorem dX6_hasNext_13 : decode cX6_hasNext 13 = Except.ok (Instr.iconst 0, 1) := vyd_3 (vyb_cX6_hasNext_1 (i := 3) rfl)
theorem dX6_hasNext_14 : decode cX6_hasNext 14 = Except.ok (Instr.invokevirtual 91, 3) := vyd_182 (vyb_cX6_hasNext_1 (i := 4) rfl) (vyb_cX6_hasNext_1 (i := 5) rfl) (vyb_cX6_hasNext_1 (i := 6) rfl) rfl
theorem dX6_hasNext_17 : decode cX6_hasNext 17 = Except.ok (Instr.iconst 1, 1) := vyd_4 (vyb_cX6_hasNext_1 (i := 7) rfl)
theorem dX6_hasNext_18 : decode cX6_hasNext 18 = Except.ok (Instr.isub, 1) := vyd_100 (vyb_cX6_hasNext_1 (i := 8) rfl)
theorem dX6_hasNext_19 : decode cX6_hasNext 19 = Except.ok (Instr.invokestatic 44, 3) := vyd_184 (vyb_cX6_hasNext_1 (i := 9) rfl) (vyb_cX6_hasNext_2 (i := 0) rfl) (vyb_cX6_hasNext_2 (i := 1) rfl) rfl
theorem dX6_hasNext_22 : decode cX6_hasNext 22 = Except.ok (Instr.ifCond .eq 7, 3) := vyd_153 (vyb_cX6_hasNext_2 (i := 2) rfl) (vyb_cX6_hasNext_2 (i := 3) rfl) (vyb_cX6_hasNext_2 (i := 4) rfl) (by decide +kernel)
theorem dX6_hasNext_25 : decode cX6_hasNext 25 = Except.ok (Instr.iconst 1, 1) := vyd_4 (vyb_cX6_hasNext_2 (i := 5) rfl)
theorem dX6_hasNext_26 : decode cX6_hasNext 26 = Except.ok (Instr.goto 4, 3) := vyd_167 (vyb_cX6_hasNext_2 (i := 6) rfl) (vyb_cX6_hasNext_2 (i := 7) rfl) (vyb_cX6_hasNext_2 (i := 8) rfl) (by decide +kernel)
theorem dX6_hasNext_29 : decode cX6_hasNext 29 = Except.ok (Instr.iconst 0, 1) := vyd_3 (vyb_cX6_hasNext_2 (i := 9) rfl)
theorem dX6_hasNext_30 : decode cX6_hasNext 30 = Except.ok (Instr.ireturn, 1) := vyd_172 (vyb_cX6_hasNext_3 (i := 0) rfl)
theorem vyb_cX6_step_0 {i : Nat} {b : UInt8} (h : ([0x2a, 0x2a, 0xb4, 0x00, 0x3d, 0x9a, 0x00, 0x07, 0x04, 0xa7] : List UInt8)[i]? = some b) : vy_8 cX6_step (0 + i) b := vy_in (n := 10) (by decide +kernel) h
theorem vyb_cX6_step_1 {i : Nat} {b : UInt8} (h : ([0x00, 0x04, 0x03, 0x04, 0xb6, 0x00, 0x6e, 0x99, 0x00, 0x05] : List UInt8)[i]? = some b) : vy_8 cX6_step (10 + i) b := vy_in (n := 10) (by decide +kernel) h
theorem vyb_cX6_step_2 {i : Nat} {b : UInt8} (h : ([0x03, 0xac, 0x2a, 0xb6, 0x00, 0xae, 0x9a, 0x00, 0x06, 0x10] : List UInt8)[i]? = some b) : vy_8 cX6_step (20 + i) b := vy_in (n := 10) (by decide +kernel) h
theorem vyb_cX6_step_3 {i : Nat} {b : UInt8} (h : ([0xf7, 0xac, 0x2a, 0x2a, 0xb4, 0x00, 0x40, 0xb5, 0x00, 0x1d] : List UInt8)[i]? = some b) : vy_8 cX6_step (30 + i) b := vy_in (n := 10) (by decide +kernel) h
theorem vyb_cX6_step_4 {i : Nat} {b : UInt8} (h : ([0x2a, 0x59, 0xb4, 0x00, 0x40, 0x2a, 0xb4, 0x00, 0x3d, 0x04] : List UInt8)[i]? = some b) : vy_8 cX6_step (40 + i) b := vy_in (n := 10) (by decide +kernel) h
theorem vyb_cX6_step_5 {i : Nat} {b : UInt8} (h : ([0xa0, 0x00, 0x07, 0x04, 0xa7, 0x00, 0x04, 0x02, 0x60, 0xb5] : List UInt8)[i]? = some b) : vy_8 cX6_step (50 + i) b := vy_in (n := 10) (by decide +kernel) h
theorem vyb_cX6_step_6 {i : Nat} {b : UInt8} (h : ([0x00, 0x40, 0x2a, 0x03, 0x2a, 0xb4, 0x00, 0x1d, 0xb6, 0x00] : List UInt8)[i]? = some b) : vy_8 cX6_step (60 + i) b := vy_in (n := 10) (by decide +kernel) h
theorem vyb_cX6_step_7 {i : Nat} {b : UInt8} (h : ([0x83, 0xac] : List UInt8)[i]? = some b) : vy_8 cX6_step (70 + i) b := vy_in (n := 2) (by decide +kernel) h
theorem dX6_step_0 : decode cX6_step 0 = Except.ok (Instr.aload_n 0, 1) := vyd_42 (vyb_cX6_step_0 (i := 0) rfl)
theorem dX6_step_1 : decode cX6_step 1 = Except.ok (Instr.aload_n 0, 1) := vyd_42 (vyb_cX6_step_0 (i := 1) rfl)
theorem dX6_step_2 : decode cX6_step 2 = Except.ok (Instr.getfield 61, 3) := vyd_180 (vyb_cX6_step_0 (i := 2) rfl) (vyb_cX6_step_0 (i := 3) rfl) (vyb_cX6_step_0 (i := 4) rfl) rfl
theorem dX6_step_5 : decode cX6_step 5 = Except.ok (Instr.ifCond .ne 7, 3) := vyd_154 (vyb_cX6_step_0 (i := 5) rfl) (vyb_cX6_step_0 (i := 6) rfl) (vyb_cX6_step_0 (i := 7) rfl) (by decide +kernel)
theorem dX6_step_8 : decode cX6_step 8 = Except.ok (Instr.iconst 1, 1) := vyd_4 (vyb_cX6_step_0 (i := 8) rfl)
theorem dX6_step_9 : decode cX6_step 9 = Except.ok (Instr.goto 4, 3) := vyd_167 (vyb_cX6_step_0 (i := 9) rfl) (vyb_cX6_step_1 (i := 0) rfl) (vyb_cX6_step_1 (i := 1) rfl) (by decide +kernel)
theorem dX6_step_12 : decode cX6_step 12 = Except.ok (Instr.iconst 0, 1) := vyd_3 (vyb_cX6_step_1 (i := 2) rfl)
theorem dX6_step_13 : decode cX6_step 13 = Except.ok (Instr.iconst 1, 1) := vyd_4 (vyb_cX6_step_1 (i := 3) rfl)
theorem dX6_step_14 : decode cX6_step 14 = Except.ok (Instr.invokevirtual 110, 3) := vyd_182 (vyb_cX6_step_1 (i := 4) rfl) (vyb_cX6_step_1 (i := 5) rfl) (vyb_cX6_step_1 (i := 6) rfl) rfl
theorem dX6_step_17 : decode cX6_step 17 = Except.ok (Instr.ifCond .eq 5, 3) := vyd_153 (vyb_cX6_step_1 (i := 7) rfl) (vyb_cX6_step_1 (i := 8) rfl) (vyb_cX6_step_1 (i := 9) rfl) (by decide +kernel)
theorem dX6_step_20 : decode cX6_step 20 = Except.ok (Instr.iconst 0, 1) := vyd_3 (vyb_cX6_step_2 (i := 0) rfl)
theorem dX6_step_21 : decode cX6_step 21 = Except.ok (Instr.ireturn, 1) := vyd_172 (vyb_cX6_step_2 (i := 1) rfl)
theorem dX6_step_22 : decode cX6_step 22 = Except.ok (Instr.aload_n 0, 1) := vyd_42 (vyb_cX6_step_2 (i := 2) rfl)
theorem dX6_step_23 : decode cX6_step 23 = Except.ok (Instr.invokevirtual 174, 3) := vyd_182 (vyb_cX6_step_2 (i := 3) rfl) (vyb_cX6_step_2 (i := 4) rfl) (vyb_cX6_step_2 (i := 5) rfl) rfl
theorem dX6_step_26 : decode cX6_step 26 = Except.ok (Instr.ifCond .ne 6, 3) := vyd_154 (vyb_cX6_step_2 (i := 6) rfl) (vyb_cX6_step_2 (i := 7) rfl) (vyb_cX6_step_2 (i := 8) rfl) (by decide +kernel)
theorem dX6_step_29 : decode cX6_step 29 = Except.ok (Instr.bipush (-9), 2) := vyd_16 (vyb_cX6_step_2 (i := 9) rfl) (vyb_cX6_step_3 (i := 0) rfl) (by decide +kernel)
theorem dX6_step_31 : decode cX6_step 31 = Except.ok (Instr.ireturn, 1) := vyd_172 (vyb_cX6_step_3 (i := 1) rfl)
theorem dX6_step_32 : decode cX6_step 32 = Except.ok (Instr.aload_n 0, 1) := vyd_42 (vyb_cX6_step_3 (i := 2) rfl)
theorem dX6_step_33 : decode cX6_step 33 = Except.ok (Instr.aload_n 0, 1) := vyd_42 (vyb_cX6_step_3 (i := 3) rfl)
theorem dX6_step_34 : decode cX6_step 34 = Except.ok (Instr.getfield 64, 3) := vyd_180 (vyb_cX6_step_3 (i := 4) rfl) (vyb_cX6_step_3 (i := 5) rfl) (vyb_cX6_step_3 (i := 6) rfl) rfl
theorem dX6_step_37 : decode cX6_step 37 = Except.ok (Instr.putfield 29, 3) := vyd_181 (vyb_cX6_step_3 (i := 7) rfl) (vyb_cX6_step_3 (i := 8) rfl) (vyb_cX6_step_3 (i := 9) rfl) rfl
theorem dX6_step_40 : decode cX6_step 40 = Except.ok (Instr.aload_n 0, 1) := vyd_42 (vyb_cX6_step_4 (i := 0) rfl)
theorem dX6_step_41 : decode cX6_step 41 = Except.ok (Instr.dup, 1) := vyd_89 (vyb_cX6_step_4 (i := 1) rfl)
theorem dX6_step_42 : decode cX6_step 42 = Except.ok (Instr.getfield 64, 3) := vyd_180 (vyb_cX6_step_4 (i := 2) rfl) (vyb_cX6_step_4 (i := 3) rfl) (vyb_cX6_step_4 (i := 4) rfl) rfl
theorem dX6_step_45 : decode cX6_step 45 = Except.ok (Instr.aload_n 0, 1) := vyd_42 (vyb_cX6_step_4 (i := 5) rfl)
theorem dX6_step_46 : decode cX6_step 46 = Except.ok (Instr.getfield 61, 3) := vyd_180 (vyb_cX6_step_4 (i := 6) rfl) (vyb_cX6_step_4 (i := 7) rfl) (vyb_cX6_step_4 (i := 8) rfl) rfl
theorem dX6_step_49 : decode cX6_step 49 = Except.ok (Instr.iconst 1, 1) := vyd_4 (vyb_cX6_step_4 (i := 9) rfl)
theorem dX6_step_50 : decode cX6_step 50 = Except.ok (Instr.if_icmp .ne 7, 3) := vyd_160 (vyb_cX6_step_5 (i := 0) rfl) (vyb_cX6_step_5 (i := 1) rfl) (vyb_cX6_step_5 (i := 2) rfl) (by decide +kernel)
theorem dX6_step_53 : decode cX6_step 53 = Except.ok (Instr.iconst 1, 1) := vyd_4 (vyb_cX6_step_5 (i := 3) rfl)
theorem dX6_step_54 : decode cX6_step 54 = Except.ok (Instr.goto 4, 3) := vyd_167 (vyb_cX6_step_5 (i := 4) rfl) (vyb_cX6_step_5 (i := 5) rfl) (vyb_cX6_step_5 (i := 6) rfl) (by decide +kernel)
theorem dX6_step_57 : decode cX6_step 57 = Except.ok (Instr.iconst (-1), 1) := vyd_2 (vyb_cX6_step_5 (i := 7) rfl)
theorem dX6_step_58 : decode cX6_step 58 = Except.ok (Instr.iadd, 1) := vyd_96 (vyb_cX6_step_5 (i := 8) rfl)
theorem dX6_step_59 : decode cX6_step 59 = Except.ok (Instr.putfield 64, 3) := vyd_181 (vyb_cX6_step_5 (i := 9) rfl) (vyb_cX6_step_6 (i := 0) rfl) (vyb_cX6_step_6 (i := 1) rfl) rfl
theorem dX6_step_62 : decode cX6_step 62 = Except.ok (Instr.aload_n 0, 1) := vyd_42 (vyb_cX6_step_6 (i := 2) rfl)
theorem dX6_step_63 : decode cX6_step 63 = Except.ok (Instr.iconst 0, 1) := vyd_3 (vyb_cX6_step_6 (i := 3) rfl)
theorem dX6_step_64 : decode cX6_step 64 = Except.ok (Instr.aload_n 0, 1) := vyd_42 (vyb_cX6_step_6 (i := 4) rfl)
theorem dX6_step_65 : decode cX6_step 65 = Except.ok (Instr.getfield 29, 3) := vyd_180 (vyb_cX6_step_6 (i := 5) rfl) (vyb_cX6_step_6 (i := 6) rfl) (vyb_cX6_step_6 (i := 7) rfl) rfl
theorem dX6_step_68 : decode cX6_step 68 = Except.ok (Instr.invokevirtual 131, 3) := vyd_182 (vyb_cX6_step_6 (i := 8) rfl) (vyb_cX6_step_6 (i := 9) rfl) (vyb_cX6_step_7 (i := 0) rfl) rfl
theorem dX6_step_71 : decode cX6_step 71 = Except.ok (Instr.ireturn, 1) := vyd_172 (vyb_cX6_step_7 (i := 1) rfl)
theorem vyb_cX6_pluck_0 {i : Nat} {b : UInt8} (h : ([0x2a, 0x2a, 0xb4, 0x00, 0x3d, 0x9a, 0x00, 0x07, 0x04, 0xa7] : List UInt8)[i]? = some b) : vy_8 cX6_pluck (0 + i) b := vy_in (n := 10) (by decide +kernel) h
theorem vyb_cX6_pluck_1 {i : Nat} {b : UInt8} (h : ([0x00, 0x04, 0x03, 0x04, 0xb6, 0x00, 0x6e, 0x99, 0x00, 0x05] : List UInt8)[i]? = some b) : vy_8 cX6_pluck (10 + i) b := vy_in (n := 10) (by decide +kernel) h
theorem vyb_cX6_pluck_2 {i : Nat} {b : UInt8} (h : ([0x03, 0xac, 0x2a, 0xb4, 0x00, 0x1d, 0x02, 0xa0, 0x00, 0x06] : List UInt8)[i]? = some b) : vy_8 cX6_pluck (20 + i) b := vy_in (n := 10) (by decide +kernel) h
theorem vyb_cX6_pluck_3 {i : Nat} {b : UInt8} (h : ([0x10, 0xf7, 0xac, 0x2a, 0xb4, 0x00, 0x0a, 0x03, 0xb6, 0x00] : List UInt8)[i]? = some b) : vy_8 cX6_pluck (30 + i) b := vy_in (n := 10) (by decide +kernel) h
theorem vyb_cX6_pluck_4 {i : Nat} {b : UInt8} (h : ([0x30, 0xc0, 0x00, 0x07, 0x2a, 0xb4, 0x00, 0x1d, 0xb6, 0x00] : List UInt8)[i]? = some b) : vy_8 cX6_pluck (40 + i) b := vy_in (n := 10) (by decide +kernel) h
theorem vyb_cX6_pluck_5 {i : Nat} {b : UInt8} (h : ([0x51, 0x57, 0x2a, 0xb4, 0x00, 0x3d, 0x04, 0xa0, 0x00, 0x0d] : List UInt8)[i]? = some b) : vy_8 cX6_pluck (50 + i) b := vy_in (n := 10) (by decide +kernel) h
theorem vyb_cX6_pluck_6 {i : Nat} {b : UInt8} (h : ([0x2a, 0x59, 0xb4, 0x00, 0x40, 0x04, 0x64, 0xb5, 0x00, 0x40] : List UInt8)[i]? = some b) : vy_8 cX6_pluck (60 + i) b := vy_in (n := 10) (by decide +kernel) h
theorem vyb_cX6_pluck_7 {i : Nat} {b : UInt8} (h : ([0x2a, 0x02, 0xb5, 0x00, 0x1d, 0x2a, 0xb6, 0x00, 0xa4, 0x2a] : List UInt8)[i]? = some b) : vy_8 cX6_pluck (70 + i) b := vy_in (n := 10) (by decide +kernel) h
theorem vyb_cX6_pluck_8 {i : Nat} {b : UInt8} (h : ([0x03, 0xb6, 0x00, 0x5b, 0xac] : List UInt8)[i]? = some b) : vy_8 cX6_pluck (80 + i) b := vy_in (n := 5) (by decide +kernel) h
theorem dX6_pluck_0 : decode cX6_pluck 0 = Except.ok (Instr.aload_n 0, 1) := vyd_42 (vyb_cX6_pluck_0 (i := 0) rfl)
theorem dX6_pluck_1 : decode cX6_pluck 1 = Except.ok (Instr.aload_n 0, 1) := vyd_42 (vyb_cX6_pluck_0 (i := 1) rfl)
theorem dX6_pluck_2 : decode cX6_pluck 2 = Except.ok (Instr.getfield 61, 3) := vyd_180 (vyb_cX6_pluck_0 (i := 2) rfl) (vyb_cX6_pluck_0 (i := 3) rfl) (vyb_cX6_pluck_0 (i := 4) rfl) rfl
theorem dX6_pluck_5 : decode cX6_pluck 5 = Except.ok (Instr.ifCond .ne 7, 3) := vyd_154 (vyb_cX6_pluck_0 (i := 5) rfl) (vyb_cX6_pluck_0 (i := 6) rfl) (vyb_cX6_pluck_0 (i := 7) rfl) (by decide +kernel)
theorem dX6_pluck_8 : decode cX6_pluck 8 = Except.ok (Instr.iconst 1, 1) := vyd_4 (vyb_cX6_pluck_0 (i := 8) rfl)
theorem dX6_pluck_9 : decode cX6_pluck 9 = Except.ok (Instr.goto 4, 3) := vyd_167 (vyb_cX6_pluck_0 (i := 9) rfl) (vyb_cX6_pluck_1 (i := 0) rfl) (vyb_cX6_pluck_1 (i := 1) rfl) (by decide +kernel)
theorem dX6_pluck_12 : decode cX6_pluck 12 = Except.ok (Instr.iconst 0, 1) := vyd_3 (vyb_cX6_pluck_1 (i := 2) rfl)
theorem dX6_pluck_13 : decode cX6_pluck 13 = Except.ok (Instr.iconst 1, 1) := vyd_4 (vyb_cX6_pluck_1 (i := 3) rfl)
theorem dX6_pluck_14 : decode cX6_pluck 14 = Except.ok (Instr.invokevirtual 110, 3) := vyd_182 (vyb_cX6_pluck_1 (i := 4) rfl) (vyb_cX6_pluck_1 (i := 5) rfl) (vyb_cX6_pluck_1 (i := 6) rfl) rfl
theorem dX6_pluck_17 : decode cX6_pluck 17 = Except.ok (Instr.ifCond .eq 5, 3) := vyd_153 (vyb_cX6_pluck_1 (i := 7) rfl) (vyb_cX6_pluck_1 (i := 8) rfl) (vyb_cX6_pluck_1 (i := 9) rfl) (by decide +kernel)
theorem dX6_pluck_20 : decode cX6_pluck 20 = Except.ok (Instr.iconst 0, 1) := vyd_3 (vyb_cX6_pluck_2 (i := 0) rfl)
theorem dX6_pluck_21 : decode cX6_pluck 21 = Except.ok (Instr.ireturn, 1) := vyd_172 (vyb_cX6_pluck_2 (i := 1) rfl)
theorem dX6_pluck_22 : decode cX6_pluck 22 = Except.ok (Instr.aload_n 0, 1) := vyd_42 (vyb_cX6_pluck_2 (i := 2) rfl)
theorem dX6_pluck_23 : decode cX6_pluck 23 = Except.ok (Instr.getfield 29, 3) := vyd_180 (vyb_cX6_pluck_2 (i := 3) rfl) (vyb_cX6_pluck_2 (i := 4) rfl) (vyb_cX6_pluck_2 (i := 5) rfl) rfl
theorem dX6_pluck_26 : decode cX6_pluck 26 = Except.ok (Instr.iconst (-1), 1) := vyd_2 (vyb_cX6_pluck_2 (i := 6) rfl)
theorem dX6_pluck_27 : decode cX6_pluck 27 = Except.ok (Instr.if_icmp .ne 6, 3) := vyd_160 (vyb_cX6_pluck_2 (i := 7) rfl) (vyb_cX6_pluck_2 (i := 8) rfl) (vyb_cX6_pluck_2 (i := 9) rfl) (by decide +kernel)
theorem dX6_pluck_30 : decode cX6_pluck 30 = Except.ok (Instr.bipush (-9), 2) := vyd_16 (vyb_cX6_pluck_3 (i := 0) rfl) (vyb_cX6_pluck_3 (i := 1) rfl) (by decide +kernel)
theorem dX6_pluck_32 : decode cX6_pluck 32 = Except.ok (Instr.ireturn, 1) := vyd_172 (vyb_cX6_pluck_3 (i := 2) rfl)
theorem dX6_pluck_33 : decode cX6_pluck 33 = Except.ok (Instr.aload_n 0, 1) := vyd_42 (vyb_cX6_pluck_3 (i := 3) rfl)
theorem dX6_pluck_34 : decode cX6_pluck 34 = Except.ok (Instr.getfield 10, 3) := vyd_180 (vyb_cX6_pluck_3 (i := 4) rfl) (vyb_cX6_pluck_3 (i := 5) rfl) (vyb_cX6_pluck_3 (i := 6) rfl) rfl
theorem dX6_pluck_37 : decode cX6_pluck 37 = Except.ok (Instr.iconst 0, 1) := vyd_3 (vyb_cX6_pluck_3 (i := 7) rfl)
theorem dX6_pluck_38 : decode cX6_pluck 38 = Except.ok (Instr.invokevirtual 48, 3) := vyd_182 (vyb_cX6_pluck_3 (i := 8) rfl) (vyb_cX6_pluck_3 (i := 9) rfl) (vyb_cX6_pluck_4 (i := 0) rfl) rfl
theorem dX6_pluck_41 : decode cX6_pluck 41 = Except.ok (Instr.checkcast 7, 3) := vyd_192 (vyb_cX6_pluck_4 (i := 1) rfl) (vyb_cX6_pluck_4 (i := 2) rfl) (vyb_cX6_pluck_4 (i := 3) rfl) rfl
theorem dX6_pluck_44 : decode cX6_pluck 44 = Except.ok (Instr.aload_n 0, 1) := vyd_42 (vyb_cX6_pluck_4 (i := 4) rfl)
theorem dX6_pluck_45 : decode cX6_pluck 45 = Except.ok (Instr.getfield 29, 3) := vyd_180 (vyb_cX6_pluck_4 (i := 5) rfl) (vyb_cX6_pluck_4 (i := 6) rfl) (vyb_cX6_pluck_4 (i := 7) rfl) rfl
theorem dX6_pluck_48 : decode cX6_pluck 48 = Except.ok (Instr.invokevirtual 81, 3) := vyd_182 (vyb_cX6_pluck_4 (i := 8) rfl) (vyb_cX6_pluck_4 (i := 9) rfl) (vyb_cX6_pluck_5 (i := 0) rfl) rfl
theorem dX6_pluck_51 : decode cX6_pluck 51 = Except.ok (Instr.pop, 1) := vyd_87 (vyb_cX6_pluck_5 (i := 1) rfl)
theorem dX6_pluck_52 : decode cX6_pluck 52 = Except.ok (Instr.aload_n 0, 1) := vyd_42 (vyb_cX6_pluck_5 (i := 2) rfl)
theorem dX6_pluck_53 : decode cX6_pluck 53 = Except.ok (Instr.getfield 61, 3) := vyd_180 (vyb_cX6_pluck_5 (i := 3) rfl) (vyb_cX6_pluck_5 (i := 4) rfl) (vyb_cX6_pluck_5 (i := 5) rfl) rfl
theorem dX6_pluck_56 : decode cX6_pluck 56 = Except.ok (Instr.iconst 1, 1) := vyd_4 (vyb_cX6_pluck_5 (i := 6) rfl)
theorem dX6_pluck_57 : decode cX6_pluck 57 = Except.ok (Instr.if_icmp .ne 13, 3) := vyd_160 (vyb_cX6_pluck_5 (i := 7) rfl) (vyb_cX6_pluck_5 (i := 8) rfl) (vyb_cX6_pluck_5 (i := 9) rfl) (by decide +kernel)
theorem dX6_pluck_60 : decode cX6_pluck 60 = Except.ok (Instr.aload_n 0, 1) := vyd_42 (vyb_cX6_pluck_6 (i := 0) rfl)
theorem dX6_pluck_61 : decode cX6_pluck 61 = Except.ok (Instr.dup, 1) := vyd_89 (vyb_cX6_pluck_6 (i := 1) rfl)
theorem dX6_pluck_62 : decode cX6_pluck 62 = Except.ok (Instr.getfield 64, 3) := vyd_180 (vyb_cX6_pluck_6 (i := 2) rfl) (vyb_cX6_pluck_6 (i := 3) rfl) (vyb_cX6_pluck_6 (i := 4) rfl) rfl
theorem dX6_pluck_65 : decode cX6_pluck 65 = Except.ok (Instr.iconst 1, 1) := vyd_4 (vyb_cX6_pluck_6 (i := 5) rfl)
theorem dX6_pluck_66 : decode cX6_pluck 66 = Except.ok (Instr.isub, 1) := vyd_100 (vyb_cX6_pluck_6 (i := 6) rfl)
theorem dX6_pluck_67 : decode cX6_pluck 67 = Except.ok (Instr.putfield 64, 3) := vyd_181 (vyb_cX6_pluck_6 (i := 7) rfl) (vyb_cX6_pluck_6 (i := 8) rfl) (vyb_cX6_pluck_6 (i := 9) rfl) rfl
theorem dX6_pluck_70 : decode cX6_pluck 70 = Except.ok (Instr.aload_n 0, 1) := vyd_42 (vyb_cX6_pluck_7 (i := 0) rfl)
theorem dX6_pluck_71 : decode cX6_pluck 71 = Except.ok (Instr.iconst (-1), 1) := vyd_2 (vyb_cX6_pluck_7 (i := 1) rfl)
theorem dX6_pluck_72 : decode cX6_pluck 72 = Except.ok (Instr.putfield 29, 3) := vyd_181 (vyb_cX6_pluck_7 (i := 2) rfl) (vyb_cX6_pluck_7 (i := 3) rfl) (vyb_cX6_pluck_7 (i := 4) rfl) rfl
theorem dX6_pluck_75 : decode cX6_pluck 75 = Except.ok (Instr.aload_n 0, 1) := vyd_42 (vyb_cX6_pluck_7 (i := 5) rfl)
theorem dX6_pluck_76 : decode cX6_pluck 76 = Except.ok (Instr.invokevirtual 164, 3) := vyd_182 (vyb_cX6_pluck_7 (i := 6) rfl) (vyb_cX6_pluck_7 (i := 7) rfl) (vyb_cX6_pluck_7 (i := 8) rfl) rfl
theorem dX6_pluck_79 : decode cX6_pluck 79 = Except.ok (Instr.aload_n 0, 1) := vyd_42 (vyb_cX6_pluck_7 (i := 9) rfl)
theorem dX6_pluck_80 : decode cX6_pluck 80 = Except.ok (Instr.iconst 0, 1) := vyd_3 (vyb_cX6_pluck_8 (i := 0) rfl)
theorem dX6_pluck_81 : decode cX6_pluck 81 = Except.ok (Instr.invokevirtual 91, 3) := vyd_182 (vyb_cX6_pluck_8 (i := 1) rfl) (vyb_cX6_pluck_8 (i := 2) rfl) (vyb_cX6_pluck_8 (i := 3) rfl) rfl
theorem dX6_pluck_84 : decode cX6_pluck 84 = Except.ok (Instr.ireturn, 1) := vyd_172 (vyb_cX6_pluck_8 (i := 4) rfl)
theorem vyb_cX6_insert_0 {i : Nat} {b : UInt8} (h : ([0x2a, 0x1b, 0x03, 0x10, 0x14, 0xb8, 0x00, 0x2c, 0x9a, 0x00] : List UInt8)[i]? = some b) : vy_8 cX6_insert (0 + i) b := vy_in (n := 10) (by decide +kernel) h
theorem vyb_cX6_insert_1 {i : Nat} {b : UInt8} (h : ([0x07, 0x04, 0xa7, 0x00, 0x04, 0x03, 0x04, 0xb6, 0x00, 0x6e] : List UInt8)[i]? = some b) : vy_8 cX6_insert (10 + i) b := vy_in (n := 10) (by decide +kernel) h
theorem vyb_cX6_insert_2 {i : Nat} {b : UInt8} (h : ([0x9a, 0x00, 0x27, 0x2a, 0x1c, 0x1d, 0xb8, 0x00, 0x71, 0x05] : List UInt8)[i]? = some b) : vy_8 cX6_insert (20 + i) b := vy_in (n := 10) (by decide +kernel) h
theorem vyb_cX6_insert_3 {i : Nat} {b : UInt8} (h : ([0xb6, 0x00, 0x28, 0x9a, 0x00, 0x1a, 0x2a, 0x2a, 0x04, 0xb6] : List UInt8)[i]? = some b) : vy_8 cX6_insert (30 + i) b := vy_in (n := 10) (by decide +kernel) h
theorem vyb_cX6_insert_4 {i : Nat} {b : UInt8} (h : ([0x00, 0x5b, 0x10, 0x14, 0xa0, 0x00, 0x07, 0x04, 0xa7, 0x00] : List UInt8)[i]? = some b) : vy_8 cX6_insert (40 + i) b := vy_in (n := 10) (by decide +kernel) h
theorem vyb_cX6_insert_5 {i : Nat} {b : UInt8} (h : ([0x04, 0x03, 0x06, 0xb6, 0x00, 0x28, 0x99, 0x00, 0x05, 0x03] : List UInt8)[i]? = some b) : vy_8 cX6_insert (50 + i) b := vy_in (n := 10) (by decide +kernel) h
theorem vyb_cX6_insert_6 {i : Nat} {b : UInt8} (h : ([0xac, 0x1b, 0x2a, 0x04, 0xb6, 0x00, 0x5b, 0xa4, 0x00, 0x06] : List UInt8)[i]? = some b) : vy_8 cX6_insert (60 + i) b := vy_in (n := 10) (by decide +kernel) h
theorem vyb_cX6_insert_7 {i : Nat} {b : UInt8} (h : ([0x10, 0xf7, 0xac, 0x2a, 0x04, 0x1b, 0x1c, 0x1d, 0xb8, 0x00] : List UInt8)[i]? = some b) : vy_8 cX6_insert (70 + i) b := vy_in (n := 10) (by decide +kernel) h
theorem vyb_cX6_insert_8 {i : Nat} {b : UInt8} (h : ([0x79, 0xb6, 0x00, 0x5e, 0x2a, 0xb6, 0x00, 0xa4, 0x2a, 0x04] : List UInt8)[i]? = some b) : vy_8 cX6_insert (80 + i) b := vy_in (n := 10) (by decide +kernel) h
theorem vyb_cX6_insert_9 {i : Nat} {b : UInt8} (h : ([0xb6, 0x00, 0x5b, 0xac] : List UInt8)[i]? = some b) : vy_8 cX6_insert (90 + i) b := vy_in (n := 4) (by decide +kernel) h
theorem dX6_insert_0 : decode cX6_insert 0 = Except.ok (Instr.aload_n 0, 1) := vyd_42 (vyb_cX6_insert_0 (i := 0) rfl)
theorem dX6_insert_1 : decode cX6_insert 1 = Except.ok (Instr.iload_n 1, 1) := vyd_27 (vyb_cX6_insert_0 (i := 1) rfl)
theorem dX6_insert_2 : decode cX6_insert 2 = Except.ok (Instr.iconst 0, 1) := vyd_3 (vyb_cX6_insert_0 (i := 2) rfl)
theorem dX6_insert_3 : decode cX6_insert 3 = Except.ok (Instr.bipush 20, 2) := vyd_16 (vyb_cX6_insert_0 (i := 3) rfl) (vyb_cX6_insert_0 (i := 4) rfl) (by decide +kernel)
theorem dX6_insert_5 : decode cX6_insert 5 = Except.ok (Instr.invokestatic 44, 3) := vyd_184 (vyb_cX6_insert_0 (i := 5) rfl) (vyb_cX6_insert_0 (i := 6) rfl) (vyb_cX6_insert_0 (i := 7) rfl) rfl
theorem dX6_insert_8 : decode cX6_insert 8 = Except.ok (Instr.ifCond .ne 7, 3) := vyd_154 (vyb_cX6_insert_0 (i := 8) rfl) (vyb_cX6_insert_0 (i := 9) rfl) (vyb_cX6_insert_1 (i := 0) rfl) (by decide +kernel)
theorem dX6_insert_11 : decode cX6_insert 11 = Except.ok (Instr.iconst 1, 1) := vyd_4 (vyb_cX6_insert_1 (i := 1) rfl)
theorem dX6_insert_12 : decode cX6_insert 12 = Except.ok (Instr.goto 4, 3) := vyd_167 (vyb_cX6_insert_1 (i := 2) rfl) (vyb_cX6_insert_1 (i := 3) rfl) (vyb_cX6_insert_1 (i := 4) rfl) (by decide +kernel)
theorem dX6_insert_15 : decode cX6_insert 15 = Except.ok (Instr.iconst 0, 1) := vyd_3 (vyb_cX6_insert_1 (i := 5) rfl)
theorem dX6_insert_16 : decode cX6_insert 16 = Except.ok (Instr.iconst 1, 1) := vyd_4 (vyb_cX6_insert_1 (i := 6) rfl)
theorem dX6_insert_17 : decode cX6_insert 17 = Except.ok (Instr.invokevirtual 110, 3) := vyd_182 (vyb_cX6_insert_1 (i := 7) rfl) (vyb_cX6_insert_1 (i := 8) rfl) (vyb_cX6_insert_1 (i := 9) rfl) rfl
theorem dX6_insert_20 : decode cX6_insert 20 = Except.ok (Instr.ifCond .ne 39, 3) := vyd_154 (vyb_cX6_insert_2 (i := 0) rfl) (vyb_cX6_insert_2 (i := 1) rfl) (vyb_cX6_insert_2 (i := 2) rfl) (by decide +kernel)
theorem dX6_insert_23 : decode cX6_insert 23 = Except.ok (Instr.aload_n 0, 1) := vyd_42 (vyb_cX6_insert_2 (i := 3) rfl)
theorem dX6_insert_24 : decode cX6_insert 24 = Except.ok (Instr.iload_n 2, 1) := vyd_28 (vyb_cX6_insert_2 (i := 4) rfl)
theorem dX6_insert_25 : decode cX6_insert 25 = Except.ok (Instr.iload_n 3, 1) := vyd_29 (vyb_cX6_insert_2 (i := 5) rfl)
theorem dX6_insert_26 : decode cX6_insert 26 = Except.ok (Instr.invokestatic 113, 3) := vyd_184 (vyb_cX6_insert_2 (i := 6) rfl) (vyb_cX6_insert_2 (i := 7) rfl) (vyb_cX6_insert_2 (i := 8) rfl) rfl
theorem dX6_insert_29 : decode cX6_insert 29 = Except.ok (Instr.iconst 2, 1) := vyd_5 (vyb_cX6_insert_2 (i := 9) rfl)
theorem dX6_insert_30 : decode cX6_insert 30 = Except.ok (Instr.invokevirtual 40, 3) := vyd_182 (vyb_cX6_insert_3 (i := 0) rfl) (vyb_cX6_insert_3 (i := 1) rfl) (vyb_cX6_insert_3 (i := 2) rfl) rfl
theorem dX6_insert_33 : decode cX6_insert 33 = Except.ok (Instr.ifCond .ne 26, 3) := vyd_154 (vyb_cX6_insert_3 (i := 3) rfl) (vyb_cX6_insert_3 (i := 4) rfl) (vyb_cX6_insert_3 (i := 5) rfl) (by decide +kernel)
theorem dX6_insert_36 : decode cX6_insert 36 = Except.ok (Instr.aload_n 0, 1) := vyd_42 (vyb_cX6_insert_3 (i := 6) rfl)
theorem dX6_insert_37 : decode cX6_insert 37 = Except.ok (Instr.aload_n 0, 1) := vyd_42 (vyb_cX6_insert_3 (i := 7) rfl)
theorem dX6_insert_38 : decode cX6_insert 38 = Except.ok (Instr.iconst 1, 1) := vyd_4 (vyb_cX6_insert_3 (i := 8) rfl)
theorem dX6_insert_39 : decode cX6_insert 39 = Except.ok (Instr.invokevirtual 91, 3) := vyd_182 (vyb_cX6_insert_3 (i := 9) rfl) (vyb_cX6_insert_4 (i := 0) rfl) (vyb_cX6_insert_4 (i := 1) rfl) rfl
theorem dX6_insert_42 : decode cX6_insert 42 = Except.ok (Instr.bipush 20, 2) := vyd_16 (vyb_cX6_insert_4 (i := 2) rfl) (vyb_cX6_insert_4 (i := 3) rfl) (by decide +kernel)
theorem dX6_insert_44 : decode cX6_insert 44 = Except.ok (Instr.if_icmp .ne 7, 3) := vyd_160 (vyb_cX6_insert_4 (i := 4) rfl) (vyb_cX6_insert_4 (i := 5) rfl) (vyb_cX6_insert_4 (i := 6) rfl) (by decide +kernel)
theorem dX6_insert_47 : decode cX6_insert 47 = Except.ok (Instr.iconst 1, 1) := vyd_4 (vyb_cX6_insert_4 (i := 7) rfl)
theorem dX6_insert_48 : decode cX6_insert 48 = Except.ok (Instr.goto 4, 3) := vyd_167 (vyb_cX6_insert_4 (i := 8) rfl) (vyb_cX6_insert_4 (i := 9) rfl) (vyb_cX6_insert_5 (i := 0) rfl) (by decide +kernel)
theorem dX6_insert_51 : decode cX6_insert 51 = Except.ok (Instr.iconst 0, 1) := vyd_3 (vyb_cX6_insert_5 (i := 1) rfl)
theorem dX6_insert_52 : decode cX6_insert 52 = Except.ok (Instr.iconst 3, 1) := vyd_6 (vyb_cX6_insert_5 (i := 2) rfl)
theorem dX6_insert_53 : decode cX6_insert 53 = Except.ok (Instr.invokevirtual 40, 3) := vyd_182 (vyb_cX6_insert_5 (i := 3) rfl) (vyb_cX6_insert_5 (i := 4) rfl) (vyb_cX6_insert_5 (i := 5) rfl) rfl
theorem dX6_insert_56 : decode cX6_insert 56 = Except.ok (Instr.ifCond .eq 5, 3) := vyd_153 (vyb_cX6_insert_5 (i := 6) rfl) (vyb_cX6_insert_5 (i := 7) rfl) (vyb_cX6_insert_5 (i := 8) rfl) (by decide +kernel)
theorem dX6_insert_59 : decode cX6_insert 59 = Except.ok (Instr.iconst 0, 1) := vyd_3 (vyb_cX6_insert_5 (i := 9) rfl)
theorem dX6_insert_60 : decode cX6_insert 60 = Except.ok (Instr.ireturn, 1) := vyd_172 (vyb_cX6_insert_6 (i := 0) rfl)
theorem dX6_insert_61 : decode cX6_insert 61 = Except.ok (Instr.iload_n 1, 1) := vyd_27 (vyb_cX6_insert_6 (i := 1) rfl)
theorem dX6_insert_62 : decode cX6_insert 62 = Except.ok (Instr.aload_n 0, 1) := vyd_42 (vyb_cX6_insert_6 (i := 2) rfl)
theorem dX6_insert_63 : decode cX6_insert 63 = Except.ok (Instr.iconst 1, 1) := vyd_4 (vyb_cX6_insert_6 (i := 3) rfl)
theorem dX6_insert_64 : decode cX6_insert 64 = Except.ok (Instr.invokevirtual 91, 3) := vyd_182 (vyb_cX6_insert_6 (i := 4) rfl) (vyb_cX6_insert_6 (i := 5) rfl) (vyb_cX6_insert_6 (i := 6) rfl) rfl
theorem dX6_insert_67 : decode cX6_insert 67 = Except.ok (Instr.if_icmp .le 6, 3) := vyd_164 (vyb_cX6_insert_6 (i := 7) rfl) (vyb_cX6_insert_6 (i := 8) rfl) (vyb_cX6_insert_6 (i := 9) rfl) (by decide +kernel)
theorem dX6_insert_70 : decode cX6_insert 70 = Except.ok (Instr.bipush (-9), 2) := vyd_16 (vyb_cX6_insert_7 (i := 0) rfl) (vyb_cX6_insert_7 (i := 1) rfl) (by decide +kernel)
theorem dX6_insert_72 : decode cX6_insert 72 = Except.ok (Instr.ireturn, 1) := vyd_172 (vyb_cX6_insert_7 (i := 2) rfl)
theorem dX6_insert_73 : decode cX6_insert 73 = Except.ok (Instr.aload_n 0, 1) := vyd_42 (vyb_cX6_insert_7 (i := 3) rfl)
theorem dX6_insert_74 : decode cX6_insert 74 = Except.ok (Instr.iconst 1, 1) := vyd_4 (vyb_cX6_insert_7 (i := 4) rfl)
theorem dX6_insert_75 : decode cX6_insert 75 = Except.ok (Instr.iload_n 1, 1) := vyd_27 (vyb_cX6_insert_7 (i := 5) rfl)
theorem dX6_insert_76 : decode cX6_insert 76 = Except.ok (Instr.iload_n 2, 1) := vyd_28 (vyb_cX6_insert_7 (i := 6) rfl)
theorem dX6_insert_77 : decode cX6_insert 77 = Except.ok (Instr.iload_n 3, 1) := vyd_29 (vyb_cX6_insert_7 (i := 7) rfl)
theorem dX6_insert_78 : decode cX6_insert 78 = Except.ok (Instr.invokestatic 121, 3) := vyd_184 (vyb_cX6_insert_7 (i := 8) rfl) (vyb_cX6_insert_7 (i := 9) rfl) (vyb_cX6_insert_8 (i := 0) rfl) rfl
theorem dX6_insert_81 : decode cX6_insert 81 = Except.ok (Instr.invokevirtual 94, 3) := vyd_182 (vyb_cX6_insert_8 (i := 1) rfl) (vyb_cX6_insert_8 (i := 2) rfl) (vyb_cX6_insert_8 (i := 3) rfl) rfl
theorem dX6_insert_84 : decode cX6_insert 84 = Except.ok (Instr.aload_n 0, 1) := vyd_42 (vyb_cX6_insert_8 (i := 4) rfl)
theorem dX6_insert_85 : decode cX6_insert 85 = Except.ok (Instr.invokevirtual 164, 3) := vyd_182 (vyb_cX6_insert_8 (i := 5) rfl) (vyb_cX6_insert_8 (i := 6) rfl) (vyb_cX6_insert_8 (i := 7) rfl) rfl
theorem dX6_insert_88 : decode cX6_insert 88 = Except.ok (Instr.aload_n 0, 1) := vyd_42 (vyb_cX6_insert_8 (i := 8) rfl)
theorem dX6_insert_89 : decode cX6_insert 89 = Except.ok (Instr.iconst 1, 1) := vyd_4 (vyb_cX6_insert_8 (i := 9) rfl)
theorem dX6_insert_90 : decode cX6_insert 90 = Except.ok (Instr.invokevirtual 91, 3) := vyd_182 (vyb_cX6_insert_9 (i := 0) rfl) (vyb_cX6_insert_9 (i := 1) rfl) (vyb_cX6_insert_9 (i := 2) rfl) rfl
theorem dX6_insert_93 : decode cX6_insert 93 = Except.ok (Instr.ireturn, 1) := vyd_172 (vyb_cX6_insert_9 (i := 3) rfl)
theorem vyb_cX6_isNoPlace_0 {i : Nat} {b : UInt8} (h : ([0x1b, 0x03, 0x10, 0x13, 0xb8, 0x00, 0x2c, 0x9a, 0x00, 0x07] : List UInt8)[i]? = some b) : vy_8 cX6_isNoPlace (0 + i) b := vy_in (n := 10) (by decide +kernel) h
theorem vyb_cX6_isNoPlace_1 {i : Nat} {b : UInt8} (h : ([0x04, 0xa7, 0x00, 0x04, 0x03, 0xac] : List UInt8)[i]? = some b) : vy_8 cX6_isNoPlace (10 + i) b := vy_in (n := 6) (by decide +kernel) h
theorem dX6_isNoPlace_0 : decode cX6_isNoPlace 0 = Except.ok (Instr.iload_n 1, 1) := vyd_27 (vyb_cX6_isNoPlace_0 (i := 0) rfl)
theorem dX6_isNoPlace_1 : decode cX6_isNoPlace 1 = Except.ok (Instr.iconst 0, 1) := vyd_3 (vyb_cX6_isNoPlace_0 (i := 1) rfl)
theorem dX6_isNoPlace_2 : decode cX6_isNoPlace 2 = Except.ok (Instr.bipush 19, 2) := vyd_16 (vyb_cX6_isNoPlace_0 (i := 2) rfl) (vyb_cX6_isNoPlace_0 (i := 3) rfl) (by decide +kernel)
theorem dX6_isNoPlace_4 : decode cX6_isNoPlace 4 = Except.ok (Instr.invokestatic 44, 3) := vyd_184 (vyb_cX6_isNoPlace_0 (i := 4) rfl) (vyb_cX6_isNoPlace_0 (i := 5) rfl) (vyb_cX6_isNoPlace_0 (i := 6) rfl) rfl
theorem dX6_isNoPlace_7 : decode cX6_isNoPlace 7 = Except.ok (Instr.ifCond .ne 7, 3) := vyd_154 (vyb_cX6_isNoPlace_0 (i := 7) rfl) (vyb_cX6_isNoPlace_0 (i := 8) rfl) (vyb_cX6_isNoPlace_0 (i := 9) rfl) (by decide +kernel)
theorem dX6_isNoPlace_10 : decode cX6_isNoPlace 10 = Except.ok (Instr.iconst 1, 1) := vyd_4 (vyb_cX6_isNoPlace_1 (i := 0) rfl)
theorem dX6_isNoPlace_11 : decode cX6_isNoPlace 11 = Except.ok (Instr.goto 4, 3) := vyd_167 (vyb_cX6_isNoPlace_1 (i := 1) rfl) (vyb_cX6_isNoPlace_1 (i := 2) rfl) (vyb_cX6_isNoPlace_1 (i := 3) rfl) (by decide +kernel)
theorem dX6_isNoPlace_14 : decode cX6_isNoPlace 14 = Except.ok (Instr.iconst 0, 1) := vyd_3 (vyb_cX6_isNoPlace_1 (i := 4) rfl)
theorem dX6_isNoPlace_15 : decode cX6_isNoPlace 15 = Except.ok (Instr.ireturn, 1) := vyd_172 (vyb_cX6_isNoPlace_1 (i := 5) rfl)
theorem vyb_cX6_cut_0 {i : Nat} {b : UInt8} (h : ([0x2a, 0x2a, 0x1b, 0xb6, 0x00, 0xb1, 0x04, 0xb6, 0x00, 0x6e] : List UInt8)[i]? = some b) : vy_8 cX6_cut (0 + i) b := vy_in (n := 10) (by decide +kernel) h
theorem vyb_cX6_cut_1 {i : Nat} {b : UInt8} (h : ([0x99, 0x00, 0x05, 0x03, 0xac, 0x1b, 0x2a, 0x04, 0xb6, 0x00] : List UInt8)[i]? = some b) : vy_8 cX6_cut (10 + i) b := vy_in (n := 10) (by decide +kernel) h
theorem vyb_cX6_cut_2 {i : Nat} {b : UInt8} (h : ([0x5b, 0xa1, 0x00, 0x06, 0x10, 0xf7, 0xac, 0x2a, 0xb6, 0x00] : List UInt8)[i]? = some b) : vy_8 cX6_cut (20 + i) b := vy_in (n := 10) (by decide +kernel) h
theorem vyb_cX6_cut_3 {i : Nat} {b : UInt8} (h : ([0xa4, 0x2a, 0x04, 0x1b, 0xb6, 0x00, 0x66, 0xac] : List UInt8)[i]? = some b) : vy_8 cX6_cut (30 + i) b := vy_in (n := 8) (by decide +kernel) h
theorem dX6_cut_0 : decode cX6_cut 0 = Except.ok (Instr.aload_n 0, 1) := vyd_42 (vyb_cX6_cut_0 (i := 0) rfl)
theorem dX6_cut_1 : decode cX6_cut 1 = Except.ok (Instr.aload_n 0, 1) := vyd_42 (vyb_cX6_cut_0 (i := 1) rfl)
theorem dX6_cut_2 : decode cX6_cut 2 = Except.ok (Instr.iload_n 1, 1) := vyd_27 (vyb_cX6_cut_0 (i := 2) rfl)
theorem dX6_cut_3 : decode cX6_cut 3 = Except.ok (Instr.invokevirtual 177, 3) := vyd_182 (vyb_cX6_cut_0 (i := 3) rfl) (vyb_cX6_cut_0 (i := 4) rfl) (vyb_cX6_cut_0 (i := 5) rfl) rfl
theorem dX6_cut_6 : decode cX6_cut 6 = Except.ok (Instr.iconst 1, 1) := vyd_4 (vyb_cX6_cut_0 (i := 6) rfl)
theorem dX6_cut_7 : decode cX6_cut 7 = Except.ok (Instr.invokevirtual 110, 3) := vyd_182 (vyb_cX6_cut_0 (i := 7) rfl) (vyb_cX6_cut_0 (i := 8) rfl) (vyb_cX6_cut_0 (i := 9) rfl) rfl
theorem dX6_cut_10 : decode cX6_cut 10 = Except.ok (Instr.ifCond .eq 5, 3) := vyd_153 (vyb_cX6_cut_1 (i := 0) rfl) (vyb_cX6_cut_1 (i := 1) rfl) (vyb_cX6_cut_1 (i := 2) rfl) (by decide +kernel)
theorem dX6_cut_13 : decode cX6_cut 13 = Except.ok (Instr.iconst 0, 1) := vyd_3 (vyb_cX6_cut_1 (i := 3) rfl)
theorem dX6_cut_14 : decode cX6_cut 14 = Except.ok (Instr.ireturn, 1) := vyd_172 (vyb_cX6_cut_1 (i := 4) rfl)
theorem dX6_cut_15 : decode cX6_cut 15 = Except.ok (Instr.iload_n 1, 1) := vyd_27 (vyb_cX6_cut_1 (i := 5) rfl)
theorem dX6_cut_16 : decode cX6_cut 16 = Except.ok (Instr.aload_n 0, 1) := vyd_42 (vyb_cX6_cut_1 (i := 6) rfl)
theorem dX6_cut_17 : decode cX6_cut 17 = Except.ok (Instr.iconst 1, 1) := vyd_4 (vyb_cX6_cut_1 (i := 7) rfl)
theorem dX6_cut_18 : decode cX6_cut 18 = Except.ok (Instr.invokevirtual 91, 3) := vyd_182 (vyb_cX6_cut_1 (i := 8) rfl) (vyb_cX6_cut_1 (i := 9) rfl) (vyb_cX6_cut_2 (i := 0) rfl) rfl
theorem dX6_cut_21 : decode cX6_cut 21 = Except.ok (Instr.if_icmp .lt 6, 3) := vyd_161 (vyb_cX6_cut_2 (i := 1) rfl) (vyb_cX6_cut_2 (i := 2) rfl) (vyb_cX6_cut_2 (i := 3) rfl) (by decide +kernel)
theorem dX6_cut_24 : decode cX6_cut 24 = Except.ok (Instr.bipush (-9), 2) := vyd_16 (vyb_cX6_cut_2 (i := 4) rfl) (vyb_cX6_cut_2 (i := 5) rfl) (by decide +kernel)
theorem dX6_cut_26 : decode cX6_cut 26 = Except.ok (Instr.ireturn, 1) := vyd_172 (vyb_cX6_cut_2 (i := 6) rfl)
theorem dX6_cut_27 : decode cX6_cut 27 = Except.ok (Instr.aload_n 0, 1) := vyd_42 (vyb_cX6_cut_2 (i := 7) rfl)
theorem dX6_cut_28 : decode cX6_cut 28 = Except.ok (Instr.invokevirtual 164, 3) := vyd_182 (vyb_cX6_cut_2 (i := 8) rfl) (vyb_cX6_cut_2 (i := 9) rfl) (vyb_cX6_cut_3 (i := 0) rfl) rfl
theorem dX6_cut_31 : decode cX6_cut 31 = Except.ok (Instr.aload_n 0, 1) := vyd_42 (vyb_cX6_cut_3 (i := 1) rfl)
theorem dX6_cut_32 : decode cX6_cut 32 = Except.ok (Instr.iconst 1, 1) := vyd_4 (vyb_cX6_cut_3 (i := 2) rfl)
theorem dX6_cut_33 : decode cX6_cut 33 = Except.ok (Instr.iload_n 1, 1) := vyd_27 (vyb_cX6_cut_3 (i := 3) rfl)
theorem dX6_cut_34 : decode cX6_cut 34 = Except.ok (Instr.invokevirtual 102, 3) := vyd_182 (vyb_cX6_cut_3 (i := 4) rfl) (vyb_cX6_cut_3 (i := 5) rfl) (vyb_cX6_cut_3 (i := 6) rfl) rfl
theorem dX6_cut_37 : decode cX6_cut 37 = Except.ok (Instr.ireturn, 1) := vyd_172 (vyb_cX6_cut_3 (i := 7) rfl)
theorem vyb_cX6_replace_0 {i : Nat} {b : UInt8} (h : ([0x2a, 0x2a, 0x1b, 0xb6, 0x00, 0xb1, 0x04, 0xb6, 0x00, 0x6e] : List UInt8)[i]? = some b) : vy_8 cX6_replace (0 + i) b := vy_in (n := 10) (by decide +kernel) h
theorem vyb_cX6_replace_1 {i : Nat} {b : UInt8} (h : ([0x9a, 0x00, 0x10, 0x2a, 0x1c, 0x1d, 0xb8, 0x00, 0x71, 0x05] : List UInt8)[i]? = some b) : vy_8 cX6_replace (10 + i) b := vy_in (n := 10) (by decide +kernel) h
theorem vyb_cX6_replace_2 {i : Nat} {b : UInt8} (h : ([0xb6, 0x00, 0x28, 0x99, 0x00, 0x05, 0x03, 0xac, 0x1b, 0x2a] : List UInt8)[i]? = some b) : vy_8 cX6_replace (20 + i) b := vy_in (n := 10) (by decide +kernel) h
theorem vyb_cX6_replace_3 {i : Nat} {b : UInt8} (h : ([0x04, 0xb6, 0x00, 0x5b, 0xa1, 0x00, 0x06, 0x10, 0xf7, 0xac] : List UInt8)[i]? = some b) : vy_8 cX6_replace (30 + i) b := vy_in (n := 10) (by decide +kernel) h
theorem vyb_cX6_replace_4 {i : Nat} {b : UInt8} (h : ([0x2a, 0xb6, 0x00, 0xa4, 0x2a, 0xb4, 0x00, 0x0a, 0x04, 0xb6] : List UInt8)[i]? = some b) : vy_8 cX6_replace (40 + i) b := vy_in (n := 10) (by decide +kernel) h
theorem vyb_cX6_replace_5 {i : Nat} {b : UInt8} (h : ([0x00, 0x30, 0xc0, 0x00, 0x07, 0x1b, 0x1c, 0x1d, 0xb8, 0x00] : List UInt8)[i]? = some b) : vy_8 cX6_replace (50 + i) b := vy_in (n := 10) (by decide +kernel) h
theorem vyb_cX6_replace_6 {i : Nat} {b : UInt8} (h : ([0x79, 0xb8, 0x00, 0x46, 0xb6, 0x00, 0xb4, 0xc0, 0x00, 0x38] : List UInt8)[i]? = some b) : vy_8 cX6_replace (60 + i) b := vy_in (n := 10) (by decide +kernel) h
theorem vyb_cX6_replace_7 {i : Nat} {b : UInt8} (h : ([0xb6, 0x00, 0x3a, 0xac] : List UInt8)[i]? = some b) : vy_8 cX6_replace (70 + i) b := vy_in (n := 4) (by decide +kernel) h
theorem dX6_replace_0 : decode cX6_replace 0 = Except.ok (Instr.aload_n 0, 1) := vyd_42 (vyb_cX6_replace_0 (i := 0) rfl)
theorem dX6_replace_1 : decode cX6_replace 1 = Except.ok (Instr.aload_n 0, 1) := vyd_42 (vyb_cX6_replace_0 (i := 1) rfl)
theorem dX6_replace_2 : decode cX6_replace 2 = Except.ok (Instr.iload_n 1, 1) := vyd_27 (vyb_cX6_replace_0 (i := 2) rfl)
theorem dX6_replace_3 : decode cX6_replace 3 = Except.ok (Instr.invokevirtual 177, 3) := vyd_182 (vyb_cX6_replace_0 (i := 3) rfl) (vyb_cX6_replace_0 (i := 4) rfl) (vyb_cX6_replace_0 (i := 5) rfl) rfl
theorem dX6_replace_6 : decode cX6_replace 6 = Except.ok (Instr.iconst 1, 1) := vyd_4 (vyb_cX6_replace_0 (i := 6) rfl)
theorem dX6_replace_7 : decode cX6_replace 7 = Except.ok (Instr.invokevirtual 110, 3) := vyd_182 (vyb_cX6_replace_0 (i := 7) rfl) (vyb_cX6_replace_0 (i := 8) rfl) (vyb_cX6_replace_0 (i := 9) rfl) rfl
theorem dX6_replace_10 : decode cX6_replace 10 = Except.ok (Instr.ifCond .ne 16, 3) := vyd_154 (vyb_cX6_replace_1 (i := 0) rfl) (vyb_cX6_replace_1 (i := 1) rfl) (vyb_cX6_replace_1 (i := 2) rfl) (by decide +kernel)
theorem dX6_replace_13 : decode cX6_replace 13 = Except.ok (Instr.aload_n 0, 1) := vyd_42 (vyb_cX6_replace_1 (i := 3) rfl)
theorem dX6_replace_14 : decode cX6_replace 14 = Except.ok (Instr.iload_n 2, 1) := vyd_28 (vyb_cX6_replace_1 (i := 4) rfl)
theorem dX6_replace_15 : decode cX6_replace 15 = Except.ok (Instr.iload_n 3, 1) := vyd_29 (vyb_cX6_replace_1 (i := 5) rfl)
theorem dX6_replace_16 : decode cX6_replace 16 = Except.ok (Instr.invokestatic 113, 3) := vyd_184 (vyb_cX6_replace_1 (i := 6) rfl) (vyb_cX6_replace_1 (i := 7) rfl) (vyb_cX6_replace_1 (i := 8) rfl) rfl
theorem dX6_replace_19 : decode cX6_replace 19 = Except.ok (Instr.iconst 2, 1) := vyd_5 (vyb_cX6_replace_1 (i := 9) rfl)
theorem dX6_replace_20 : decode cX6_replace 20 = Except.ok (Instr.invokevirtual 40, 3) := vyd_182 (vyb_cX6_replace_2 (i := 0) rfl) (vyb_cX6_replace_2 (i := 1) rfl) (vyb_cX6_replace_2 (i := 2) rfl) rfl
theorem dX6_replace_23 : decode cX6_replace 23 = Except.ok (Instr.ifCond .eq 5, 3) := vyd_153 (vyb_cX6_replace_2 (i := 3) rfl) (vyb_cX6_replace_2 (i := 4) rfl) (vyb_cX6_replace_2 (i := 5) rfl) (by decide +kernel)
theorem dX6_replace_26 : decode cX6_replace 26 = Except.ok (Instr.iconst 0, 1) := vyd_3 (vyb_cX6_replace_2 (i := 6) rfl)
theorem dX6_replace_27 : decode cX6_replace 27 = Except.ok (Instr.ireturn, 1) := vyd_172 (vyb_cX6_replace_2 (i := 7) rfl)
theorem dX6_replace_28 : decode cX6_replace 28 = Except.ok (Instr.iload_n 1, 1) := vyd_27 (vyb_cX6_replace_2 (i := 8) rfl)
theorem dX6_replace_29 : decode cX6_replace 29 = Except.ok (Instr.aload_n 0, 1) := vyd_42 (vyb_cX6_replace_2 (i := 9) rfl)
theorem dX6_replace_30 : decode cX6_replace 30 = Except.ok (Instr.iconst 1, 1) := vyd_4 (vyb_cX6_replace_3 (i := 0) rfl)
theorem dX6_replace_31 : decode cX6_replace 31 = Except.ok (Instr.invokevirtual 91, 3) := vyd_182 (vyb_cX6_replace_3 (i := 1) rfl) (vyb_cX6_replace_3 (i := 2) rfl) (vyb_cX6_replace_3 (i := 3) rfl) rfl
theorem dX6_replace_34 : decode cX6_replace 34 = Except.ok (Instr.if_icmp .lt 6, 3) := vyd_161 (vyb_cX6_replace_3 (i := 4) rfl) (vyb_cX6_replace_3 (i := 5) rfl) (vyb_cX6_replace_3 (i := 6) rfl) (by decide +kernel)
theorem dX6_replace_37 : decode cX6_replace 37 = Except.ok (Instr.bipush (-9), 2) := vyd_16 (vyb_cX6_replace_3 (i := 7) rfl) (vyb_cX6_replace_3 (i := 8) rfl) (by decide +kernel)
theorem dX6_replace_39 : decode cX6_replace 39 = Except.ok (Instr.ireturn, 1) := vyd_172 (vyb_cX6_replace_3 (i := 9) rfl)
theorem dX6_replace_40 : decode cX6_replace 40 = Except.ok (Instr.aload_n 0, 1) := vyd_42 (vyb_cX6_replace_4 (i := 0) rfl)
theorem dX6_replace_41 : decode cX6_replace 41 = Except.ok (Instr.invokevirtual 164, 3) := vyd_182 (vyb_cX6_replace_4 (i := 1) rfl) (vyb_cX6_replace_4 (i := 2) rfl) (vyb_cX6_replace_4 (i := 3) rfl) rfl
theorem dX6_replace_44 : decode cX6_replace 44 = Except.ok (Instr.aload_n 0, 1) := vyd_42 (vyb_cX6_replace_4 (i := 4) rfl)
theorem dX6_replace_45 : decode cX6_replace 45 = Except.ok (Instr.getfield 10, 3) := vyd_180 (vyb_cX6_replace_4 (i := 5) rfl) (vyb_cX6_replace_4 (i := 6) rfl) (vyb_cX6_replace_4 (i := 7) rfl) rfl
theorem dX6_replace_48 : decode cX6_replace 48 = Except.ok (Instr.iconst 1, 1) := vyd_4 (vyb_cX6_replace_4 (i := 8) rfl)
theorem dX6_replace_49 : decode cX6_replace 49 = Except.ok (Instr.invokevirtual 48, 3) := vyd_182 (vyb_cX6_replace_4 (i := 9) rfl) (vyb_cX6_replace_5 (i := 0) rfl) (vyb_cX6_replace_5 (i := 1) rfl) rfl
theorem dX6_replace_52 : decode cX6_replace 52 = Except.ok (Instr.checkcast 7, 3) := vyd_192 (vyb_cX6_replace_5 (i := 2) rfl) (vyb_cX6_replace_5 (i := 3) rfl) (vyb_cX6_replace_5 (i := 4) rfl) rfl
theorem dX6_replace_55 : decode cX6_replace 55 = Except.ok (Instr.iload_n 1, 1) := vyd_27 (vyb_cX6_replace_5 (i := 5) rfl)
theorem dX6_replace_56 : decode cX6_replace 56 = Except.ok (Instr.iload_n 2, 1) := vyd_28 (vyb_cX6_replace_5 (i := 6) rfl)
theorem dX6_replace_57 : decode cX6_replace 57 = Except.ok (Instr.iload_n 3, 1) := vyd_29 (vyb_cX6_replace_5 (i := 7) rfl)
theorem dX6_replace_58 : decode cX6_replace 58 = Except.ok (Instr.invokestatic 121, 3) := vyd_184 (vyb_cX6_replace_5 (i := 8) rfl) (vyb_cX6_replace_5 (i := 9) rfl) (vyb_cX6_replace_6 (i := 0) rfl) rfl
theorem dX6_replace_61 : decode cX6_replace 61 = Except.ok (Instr.invokestatic 70, 3) := vyd_184 (vyb_cX6_replace_6 (i := 1) rfl) (vyb_cX6_replace_6 (i := 2) rfl) (vyb_cX6_replace_6 (i := 3) rfl) rfl
theorem dX6_replace_64 : decode cX6_replace 64 = Except.ok (Instr.invokevirtual 180, 3) := vyd_182 (vyb_cX6_replace_6 (i := 4) rfl) (vyb_cX6_replace_6 (i := 5) rfl) (vyb_cX6_replace_6 (i := 6) rfl) rfl
theorem dX6_replace_67 : decode cX6_replace 67 = Except.ok (Instr.checkcast 56, 3) := vyd_192 (vyb_cX6_replace_6 (i := 7) rfl) (vyb_cX6_replace_6 (i := 8) rfl) (vyb_cX6_replace_6 (i := 9) rfl) rfl
theorem dX6_replace_70 : decode cX6_replace 70 = Except.ok (Instr.invokevirtual 58, 3) := vyd_182 (vyb_cX6_replace_7 (i := 0) rfl) (vyb_cX6_replace_7 (i := 1) rfl) (vyb_cX6_replace_7 (i := 2) rfl) rfl
theorem dX6_replace_73 : decode cX6_replace 73 = Except.ok (Instr.ireturn, 1) := vyd_172 (vyb_cX6_replace_7 (i := 3) rfl)
theorem vyb_cX6_at_0 {i : Nat} {b : UInt8} (h : ([0x2a, 0x2a, 0x1b, 0xb6, 0x00, 0xb1, 0x04, 0xb6, 0x00, 0x6e] : List UInt8)[i]? = some b) : vy_8 cX6_at (0 + i) b := vy_in (n := 10) (by decide +kernel) h
theorem vyb_cX6_at_1 {i : Nat} {b : UInt8} (h : ([0x99, 0x00, 0x07, 0x03, 0xa7, 0x00, 0x17, 0x1b, 0x2a, 0x04] : List UInt8)[i]? = some b) : vy_8 cX6_at (10 + i) b := vy_in (n := 10) (by decide +kernel) h
theorem vyb_cX6_at_2 {i : Nat} {b : UInt8} (h : ([0xb6, 0x00, 0x5b, 0xa1, 0x00, 0x08, 0x10, 0xf7, 0xa7, 0x00] : List UInt8)[i]? = some b) : vy_8 cX6_at (20 + i) b := vy_in (n := 10) (by decide +kernel) h
theorem vyb_cX6_at_3 {i : Nat} {b : UInt8} (h : ([0x09, 0x2a, 0x04, 0x1b, 0xb6, 0x00, 0x83, 0xac] : List UInt8)[i]? = some b) : vy_8 cX6_at (30 + i) b := vy_in (n := 8) (by decide +kernel) h
theorem dX6_at_0 : decode cX6_at 0 = Except.ok (Instr.aload_n 0, 1) := vyd_42 (vyb_cX6_at_0 (i := 0) rfl)
theorem dX6_at_1 : decode cX6_at 1 = Except.ok (Instr.aload_n 0, 1) := vyd_42 (vyb_cX6_at_0 (i := 1) rfl)
theorem dX6_at_2 : decode cX6_at 2 = Except.ok (Instr.iload_n 1, 1) := vyd_27 (vyb_cX6_at_0 (i := 2) rfl)
theorem dX6_at_3 : decode cX6_at 3 = Except.ok (Instr.invokevirtual 177, 3) := vyd_182 (vyb_cX6_at_0 (i := 3) rfl) (vyb_cX6_at_0 (i := 4) rfl) (vyb_cX6_at_0 (i := 5) rfl) rfl
theorem dX6_at_6 : decode cX6_at 6 = Except.ok (Instr.iconst 1, 1) := vyd_4 (vyb_cX6_at_0 (i := 6) rfl)
theorem dX6_at_7 : decode cX6_at 7 = Except.ok (Instr.invokevirtual 110, 3) := vyd_182 (vyb_cX6_at_0 (i := 7) rfl) (vyb_cX6_at_0 (i := 8) rfl) (vyb_cX6_at_0 (i := 9) rfl) rfl
theorem dX6_at_10 : decode cX6_at 10 = Except.ok (Instr.ifCond .eq 7, 3) := vyd_153 (vyb_cX6_at_1 (i := 0) rfl) (vyb_cX6_at_1 (i := 1) rfl) (vyb_cX6_at_1 (i := 2) rfl) (by decide +kernel)
theorem dX6_at_13 : decode cX6_at 13 = Except.ok (Instr.iconst 0, 1) := vyd_3 (vyb_cX6_at_1 (i := 3) rfl)
theorem dX6_at_14 : decode cX6_at 14 = Except.ok (Instr.goto 23, 3) := vyd_167 (vyb_cX6_at_1 (i := 4) rfl) (vyb_cX6_at_1 (i := 5) rfl) (vyb_cX6_at_1 (i := 6) rfl) (by decide +kernel)
theorem dX6_at_17 : decode cX6_at 17 = Except.ok (Instr.iload_n 1, 1) := vyd_27 (vyb_cX6_at_1 (i := 7) rfl)
theorem dX6_at_18 : decode cX6_at 18 = Except.ok (Instr.aload_n 0, 1) := vyd_42 (vyb_cX6_at_1 (i := 8) rfl)
theorem dX6_at_19 : decode cX6_at 19 = Except.ok (Instr.iconst 1, 1) := vyd_4 (vyb_cX6_at_1 (i := 9) rfl)
theorem dX6_at_20 : decode cX6_at 20 = Except.ok (Instr.invokevirtual 91, 3) := vyd_182 (vyb_cX6_at_2 (i := 0) rfl) (vyb_cX6_at_2 (i := 1) rfl) (vyb_cX6_at_2 (i := 2) rfl) rfl
theorem dX6_at_23 : decode cX6_at 23 = Except.ok (Instr.if_icmp .lt 8, 3) := vyd_161 (vyb_cX6_at_2 (i := 3) rfl) (vyb_cX6_at_2 (i := 4) rfl) (vyb_cX6_at_2 (i := 5) rfl) (by decide +kernel)
theorem dX6_at_26 : decode cX6_at 26 = Except.ok (Instr.bipush (-9), 2) := vyd_16 (vyb_cX6_at_2 (i := 6) rfl) (vyb_cX6_at_2 (i := 7) rfl) (by decide +kernel)
theorem dX6_at_28 : decode cX6_at 28 = Except.ok (Instr.goto 9, 3) := vyd_167 (vyb_cX6_at_2 (i := 8) rfl) (vyb_cX6_at_2 (i := 9) rfl) (vyb_cX6_at_3 (i := 0) rfl) (by decide +kernel)
theorem dX6_at_31 : decode cX6_at 31 = Except.ok (Instr.aload_n 0, 1) := vyd_42 (vyb_cX6_at_3 (i := 1) rfl)
theorem dX6_at_32 : decode cX6_at 32 = Except.ok (Instr.iconst 1, 1) := vyd_4 (vyb_cX6_at_3 (i := 2) rfl)
theorem dX6_at_33 : decode cX6_at 33 = Except.ok (Instr.iload_n 1, 1) := vyd_27 (vyb_cX6_at_3 (i := 3) rfl)
theorem dX6_at_34 : decode cX6_at 34 = Except.ok (Instr.invokevirtual 131, 3) := vyd_182 (vyb_cX6_at_3 (i := 4) rfl) (vyb_cX6_at_3 (i := 5) rfl) (vyb_cX6_at_3 (i := 6) rfl) rfl
theorem dX6_at_37 : decode cX6_at 37 = Except.ok (Instr.ireturn, 1) := vyd_172 (vyb_cX6_at_3 (i := 7) rfl)
theorem vyb_cX6_find_0 {i : Nat} {b : UInt8} (h : ([0x2a, 0x1b, 0x03, 0x10, 0x09, 0xb8, 0x00, 0x2c, 0x9a, 0x00] : List UInt8)[i]? = some b) : vy_8 cX6_find (0 + i) b := vy_in (n := 10) (by decide +kernel) h
theorem vyb_cX6_find_1 {i : Nat} {b : UInt8} (h : ([0x07, 0x04, 0xa7, 0x00, 0x04, 0x03, 0x04, 0xb6, 0x00, 0x6e] : List UInt8)[i]? = some b) : vy_8 cX6_find (10 + i) b := vy_in (n := 10) (by decide +kernel) h
theorem vyb_cX6_find_2 {i : Nat} {b : UInt8} (h : ([0x99, 0x00, 0x07, 0x03, 0xa7, 0x00, 0x0a, 0x2a, 0x04, 0x1b] : List UInt8)[i]? = some b) : vy_8 cX6_find (20 + i) b := vy_in (n := 10) (by decide +kernel) h
theorem vyb_cX6_find_3 {i : Nat} {b : UInt8} (h : ([0x1c, 0xb6, 0x00, 0xa0, 0xac] : List UInt8)[i]? = some b) : vy_8 cX6_find (30 + i) b := vy_in (n := 5) (by decide +kernel) h
theorem dX6_find_0 : decode cX6_find 0 = Except.ok (Instr.aload_n 0, 1) := vyd_42 (vyb_cX6_find_0 (i := 0) rfl)
theorem dX6_find_1 : decode cX6_find 1 = Except.ok (Instr.iload_n 1, 1) := vyd_27 (vyb_cX6_find_0 (i := 1) rfl)
theorem dX6_find_2 : decode cX6_find 2 = Except.ok (Instr.iconst 0, 1) := vyd_3 (vyb_cX6_find_0 (i := 2) rfl)
theorem dX6_find_3 : decode cX6_find 3 = Except.ok (Instr.bipush 9, 2) := vyd_16 (vyb_cX6_find_0 (i := 3) rfl) (vyb_cX6_find_0 (i := 4) rfl) (by decide +kernel)
theorem dX6_find_5 : decode cX6_find 5 = Except.ok (Instr.invokestatic 44, 3) := vyd_184 (vyb_cX6_find_0 (i := 5) rfl) (vyb_cX6_find_0 (i := 6) rfl) (vyb_cX6_find_0 (i := 7) rfl) rfl
theorem dX6_find_8 : decode cX6_find 8 = Except.ok (Instr.ifCond .ne 7, 3) := vyd_154 (vyb_cX6_find_0 (i := 8) rfl) (vyb_cX6_find_0 (i := 9) rfl) (vyb_cX6_find_1 (i := 0) rfl) (by decide +kernel)
theorem dX6_find_11 : decode cX6_find 11 = Except.ok (Instr.iconst 1, 1) := vyd_4 (vyb_cX6_find_1 (i := 1) rfl)
theorem dX6_find_12 : decode cX6_find 12 = Except.ok (Instr.goto 4, 3) := vyd_167 (vyb_cX6_find_1 (i := 2) rfl) (vyb_cX6_find_1 (i := 3) rfl) (vyb_cX6_find_1 (i := 4) rfl) (by decide +kernel)
theorem dX6_find_15 : decode cX6_find 15 = Except.ok (Instr.iconst 0, 1) := vyd_3 (vyb_cX6_find_1 (i := 5) rfl)
theorem dX6_find_16 : decode cX6_find 16 = Except.ok (Instr.iconst 1, 1) := vyd_4 (vyb_cX6_find_1 (i := 6) rfl)
theorem dX6_find_17 : decode cX6_find 17 = Except.ok (Instr.invokevirtual 110, 3) := vyd_182 (vyb_cX6_find_1 (i := 7) rfl) (vyb_cX6_find_1 (i := 8) rfl) (vyb_cX6_find_1 (i := 9) rfl) rfl
theorem dX6_find_20 : decode cX6_find 20 = Except.ok (Instr.ifCond .eq 7, 3) := vyd_153 (vyb_cX6_find_2 (i := 0) rfl) (vyb_cX6_find_2 (i := 1) rfl) (vyb_cX6_find_2 (i := 2) rfl) (by decide +kernel)
theorem dX6_find_23 : decode cX6_find 23 = Except.ok (Instr.iconst 0, 1) := vyd_3 (vyb_cX6_find_2 (i := 3) rfl)
theorem dX6_find_24 : decode cX6_find 24 = Except.ok (Instr.goto 10, 3) := vyd_167 (vyb_cX6_find_2 (i := 4) rfl) (vyb_cX6_find_2 (i := 5) rfl) (vyb_cX6_find_2 (i := 6) rfl) (by decide +kernel)
theorem dX6_find_27 : decode cX6_find 27 = Except.ok (Instr.aload_n 0, 1) := vyd_42 (vyb_cX6_find_2 (i := 7) rfl)
theorem dX6_find_28 : decode cX6_find 28 = Except.ok (Instr.iconst 1, 1) := vyd_4 (vyb_cX6_find_2 (i := 8) rfl)
theorem dX6_find_29 : decode cX6_find 29 = Except.ok (Instr.iload_n 1, 1) := vyd_27 (vyb_cX6_find_2 (i := 9) rfl)
theorem dX6_find_30 : decode cX6_find 30 = Except.ok (Instr.iload_n 2, 1) := vyd_28 (vyb_cX6_find_3 (i := 0) rfl)
theorem dX6_find_31 : decode cX6_find 31 = Except.ok (Instr.invokevirtual 160, 3) := vyd_182 (vyb_cX6_find_3 (i := 1) rfl) (vyb_cX6_find_3 (i := 2) rfl) (vyb_cX6_find_3 (i := 3) rfl) rfl
theorem dX6_find_34 : decode cX6_find 34 = Except.ok (Instr.ireturn, 1) := vyd_172 (vyb_cX6_find_3 (i := 4) rfl)
theorem vyb_cX6_splice_0 {i : Nat} {b : UInt8} (h : ([0x2a, 0x1b, 0x03, 0x10, 0x14, 0xb8, 0x00, 0x2c, 0x9a, 0x00] : List UInt8)[i]? = some b) : vy_8 cX6_splice (0 + i) b := vy_in (n := 10) (by decide +kernel) h
theorem vyb_cX6_splice_1 {i : Nat} {b : UInt8} (h : ([0x07, 0x04, 0xa7, 0x00, 0x04, 0x03, 0x04, 0xb6, 0x00, 0x6e] : List UInt8)[i]? = some b) : vy_8 cX6_splice (10 + i) b := vy_in (n := 10) (by decide +kernel) h
theorem vyb_cX6_splice_2 {i : Nat} {b : UInt8} (h : ([0x9a, 0x00, 0x20, 0x2a, 0x2a, 0x03, 0xb6, 0x00, 0x5b, 0x2a] : List UInt8)[i]? = some b) : vy_8 cX6_splice (20 + i) b := vy_in (n := 10) (by decide +kernel) h
theorem vyb_cX6_splice_3 {i : Nat} {b : UInt8} (h : ([0x04, 0xb6, 0x00, 0x5b, 0x60, 0x10, 0x14, 0xa4, 0x00, 0x07] : List UInt8)[i]? = some b) : vy_8 cX6_splice (30 + i) b := vy_in (n := 10) (by decide +kernel) h
theorem vyb_cX6_splice_4 {i : Nat} {b : UInt8} (h : ([0x04, 0xa7, 0x00, 0x04, 0x03, 0x05, 0xb6, 0x00, 0x28, 0x99] : List UInt8)[i]? = some b) : vy_8 cX6_splice (40 + i) b := vy_in (n := 10) (by decide +kernel) h
theorem vyb_cX6_splice_5 {i : Nat} {b : UInt8} (h : ([0x00, 0x05, 0x03, 0xac, 0x2a, 0x03, 0xb6, 0x00, 0x5b, 0x3d] : List UInt8)[i]? = some b) : vy_8 cX6_splice (50 + i) b := vy_in (n := 10) (by decide +kernel) h
theorem vyb_cX6_splice_6 {i : Nat} {b : UInt8} (h : ([0x1c, 0x9a, 0x00, 0x05, 0x03, 0xac, 0x1b, 0x2a, 0x04, 0xb6] : List UInt8)[i]? = some b) : vy_8 cX6_splice (60 + i) b := vy_in (n := 10) (by decide +kernel) h
theorem vyb_cX6_splice_7 {i : Nat} {b : UInt8} (h : ([0x00, 0x5b, 0xa4, 0x00, 0x06, 0x10, 0xf7, 0xac, 0x03, 0x3e] : List UInt8)[i]? = some b) : vy_8 cX6_splice (70 + i) b := vy_in (n := 10) (by decide +kernel) h
theorem vyb_cX6_splice_8 {i : Nat} {b : UInt8} (h : ([0x1d, 0x1c, 0xa2, 0x00, 0x17, 0x2a, 0x04, 0x1b, 0x1d, 0x60] : List UInt8)[i]? = some b) : vy_8 cX6_splice (80 + i) b := vy_in (n := 10) (by decide +kernel) h
theorem vyb_cX6_splice_9 {i : Nat} {b : UInt8} (h : ([0x2a, 0x03, 0x03, 0xb6, 0x00, 0x66, 0xb6, 0x00, 0x5e, 0x84] : List UInt8)[i]? = some b) : vy_8 cX6_splice (90 + i) b := vy_in (n := 10) (by decide +kernel) h
theorem vyb_cX6_splice_10 {i : Nat} {b : UInt8} (h : ([0x03, 0x01, 0xa7, 0xff, 0xea, 0x2a, 0xb6, 0x00, 0xa4, 0x1c] : List UInt8)[i]? = some b) : vy_8 cX6_splice (100 + i) b := vy_in (n := 10) (by decide +kernel) h
theorem vyb_cX6_splice_11 {i : Nat} {b : UInt8} (h : ([0xac] : List UInt8)[i]? = some b) : vy_8 cX6_splice (110 + i) b := vy_in (n := 1) (by decide +kernel) h
theorem dX6_splice_0 : decode cX6_splice 0 = Except.ok (Instr.aload_n 0, 1) := vyd_42 (vyb_cX6_splice_0 (i := 0) rfl)
theorem dX6_splice_1 : decode cX6_splice 1 = Except.ok (Instr.iload_n 1, 1) := vyd_27 (vyb_cX6_splice_0 (i := 1) rfl)
theorem dX6_splice_2 : decode cX6_splice 2 = Except.ok (Instr.iconst 0, 1) := vyd_3 (vyb_cX6_splice_0 (i := 2) rfl)
theorem dX6_splice_3 : decode cX6_splice 3 = Except.ok (Instr.bipush 20, 2) := vyd_16 (vyb_cX6_splice_0 (i := 3) rfl) (vyb_cX6_splice_0 (i := 4) rfl) (by decide +kernel)
theorem dX6_splice_5 : decode cX6_splice 5 = Except.ok (Instr.invokestatic 44, 3) := vyd_184 (vyb_cX6_splice_0 (i := 5) rfl) (vyb_cX6_splice_0 (i := 6) rfl) (vyb_cX6_splice_0 (i := 7) rfl) rfl
theorem dX6_splice_8 : decode cX6_splice 8 = Except.ok (Instr.ifCond .ne 7, 3) := vyd_154 (vyb_cX6_splice_0 (i := 8) rfl) (vyb_cX6_splice_0 (i := 9) rfl) (vyb_cX6_splice_1 (i := 0) rfl) (by decide +kernel)
theorem dX6_splice_11 : decode cX6_splice 11 = Except.ok (Instr.iconst 1, 1) := vyd_4 (vyb_cX6_splice_1 (i := 1) rfl)
theorem dX6_splice_12 : decode cX6_splice 12 = Except.ok (Instr.goto 4, 3) := vyd_167 (vyb_cX6_splice_1 (i := 2) rfl) (vyb_cX6_splice_1 (i := 3) rfl) (vyb_cX6_splice_1 (i := 4) rfl) (by decide +kernel)
theorem dX6_splice_15 : decode cX6_splice 15 = Except.ok (Instr.iconst 0, 1) := vyd_3 (vyb_cX6_splice_1 (i := 5) rfl)
theorem dX6_splice_16 : decode cX6_splice 16 = Except.ok (Instr.iconst 1, 1) := vyd_4 (vyb_cX6_splice_1 (i := 6) rfl)
theorem dX6_splice_17 : decode cX6_splice 17 = Except.ok (Instr.invokevirtual 110, 3) := vyd_182 (vyb_cX6_splice_1 (i := 7) rfl) (vyb_cX6_splice_1 (i := 8) rfl) (vyb_cX6_splice_1 (i := 9) rfl) rfl
theorem dX6_splice_20 : decode cX6_splice 20 = Except.ok (Instr.ifCond .ne 32, 3) := vyd_154 (vyb_cX6_splice_2 (i := 0) rfl) (vyb_cX6_splice_2 (i := 1) rfl) (vyb_cX6_splice_2 (i := 2) rfl) (by decide +kernel)
theorem dX6_splice_23 : decode cX6_splice 23 = Except.ok (Instr.aload_n 0, 1) := vyd_42 (vyb_cX6_splice_2 (i := 3) rfl)
theorem dX6_splice_24 : decode cX6_splice 24 = Except.ok (Instr.aload_n 0, 1) := vyd_42 (vyb_cX6_splice_2 (i := 4) rfl)
theorem dX6_splice_25 : decode cX6_splice 25 = Except.ok (Instr.iconst 0, 1) := vyd_3 (vyb_cX6_splice_2 (i := 5) rfl)
theorem dX6_splice_26 : decode cX6_splice 26 = Except.ok (Instr.invokevirtual 91, 3) := vyd_182 (vyb_cX6_splice_2 (i := 6) rfl) (vyb_cX6_splice_2 (i := 7) rfl) (vyb_cX6_splice_2 (i := 8) rfl) rfl
theorem dX6_splice_29 : decode cX6_splice 29 = Except.ok (Instr.aload_n 0, 1) := vyd_42 (vyb_cX6_splice_2 (i := 9) rfl)
theorem dX6_splice_30 : decode cX6_splice 30 = Except.ok (Instr.iconst 1, 1) := vyd_4 (vyb_cX6_splice_3 (i := 0) rfl)
theorem dX6_splice_31 : decode cX6_splice 31 = Except.ok (Instr.invokevirtual 91, 3) := vyd_182 (vyb_cX6_splice_3 (i := 1) rfl) (vyb_cX6_splice_3 (i := 2) rfl) (vyb_cX6_splice_3 (i := 3) rfl) rfl
theorem dX6_splice_34 : decode cX6_splice 34 = Except.ok (Instr.iadd, 1) := vyd_96 (vyb_cX6_splice_3 (i := 4) rfl)
theorem dX6_splice_35 : decode cX6_splice 35 = Except.ok (Instr.bipush 20, 2) := vyd_16 (vyb_cX6_splice_3 (i := 5) rfl) (vyb_cX6_splice_3 (i := 6) rfl) (by decide +kernel)
theorem dX6_splice_37 : decode cX6_splice 37 = Except.ok (Instr.if_icmp .le 7, 3) := vyd_164 (vyb_cX6_splice_3 (i := 7) rfl) (vyb_cX6_splice_3 (i := 8) rfl) (vyb_cX6_splice_3 (i := 9) rfl) (by decide +kernel)
theorem dX6_splice_40 : decode cX6_splice 40 = Except.ok (Instr.iconst 1, 1) := vyd_4 (vyb_cX6_splice_4 (i := 0) rfl)
theorem dX6_splice_41 : decode cX6_splice 41 = Except.ok (Instr.goto 4, 3) := vyd_167 (vyb_cX6_splice_4 (i := 1) rfl) (vyb_cX6_splice_4 (i := 2) rfl) (vyb_cX6_splice_4 (i := 3) rfl) (by decide +kernel)
theorem dX6_splice_44 : decode cX6_splice 44 = Except.ok (Instr.iconst 0, 1) := vyd_3 (vyb_cX6_splice_4 (i := 4) rfl)
theorem dX6_splice_45 : decode cX6_splice 45 = Except.ok (Instr.iconst 2, 1) := vyd_5 (vyb_cX6_splice_4 (i := 5) rfl)
theorem dX6_splice_46 : decode cX6_splice 46 = Except.ok (Instr.invokevirtual 40, 3) := vyd_182 (vyb_cX6_splice_4 (i := 6) rfl) (vyb_cX6_splice_4 (i := 7) rfl) (vyb_cX6_splice_4 (i := 8) rfl) rfl
theorem dX6_splice_49 : decode cX6_splice 49 = Except.ok (Instr.ifCond .eq 5, 3) := vyd_153 (vyb_cX6_splice_4 (i := 9) rfl) (vyb_cX6_splice_5 (i := 0) rfl) (vyb_cX6_splice_5 (i := 1) rfl) (by decide +kernel)
theorem dX6_splice_52 : decode cX6_splice 52 = Except.ok (Instr.iconst 0, 1) := vyd_3 (vyb_cX6_splice_5 (i := 2) rfl)
theorem dX6_splice_53 : decode cX6_splice 53 = Except.ok (Instr.ireturn, 1) := vyd_172 (vyb_cX6_splice_5 (i := 3) rfl)
theorem dX6_splice_54 : decode cX6_splice 54 = Except.ok (Instr.aload_n 0, 1) := vyd_42 (vyb_cX6_splice_5 (i := 4) rfl)
theorem dX6_splice_55 : decode cX6_splice 55 = Except.ok (Instr.iconst 0, 1) := vyd_3 (vyb_cX6_splice_5 (i := 5) rfl)
theorem dX6_splice_56 : decode cX6_splice 56 = Except.ok (Instr.invokevirtual 91, 3) := vyd_182 (vyb_cX6_splice_5 (i := 6) rfl) (vyb_cX6_splice_5 (i := 7) rfl) (vyb_cX6_splice_5 (i := 8) rfl) rfl
theorem dX6_splice_59 : decode cX6_splice 59 = Except.ok (Instr.istore_n 2, 1) := vyd_61 (vyb_cX6_splice_5 (i := 9) rfl)
theorem dX6_splice_60 : decode cX6_splice 60 = Except.ok (Instr.iload_n 2, 1) := vyd_28 (vyb_cX6_splice_6 (i := 0) rfl)
theorem dX6_splice_61 : decode cX6_splice 61 = Except.ok (Instr.ifCond .ne 5, 3) := vyd_154 (vyb_cX6_splice_6 (i := 1) rfl) (vyb_cX6_splice_6 (i := 2) rfl) (vyb_cX6_splice_6 (i := 3) rfl) (by decide +kernel)
theorem dX6_splice_64 : decode cX6_splice 64 = Except.ok (Instr.iconst 0, 1) := vyd_3 (vyb_cX6_splice_6 (i := 4) rfl)
theorem dX6_splice_65 : decode cX6_splice 65 = Except.ok (Instr.ireturn, 1) := vyd_172 (vyb_cX6_splice_6 (i := 5) rfl)
theorem dX6_splice_66 : decode cX6_splice 66 = Except.ok (Instr.iload_n 1, 1) := vyd_27 (vyb_cX6_splice_6 (i := 6) rfl)
theorem dX6_splice_67 : decode cX6_splice 67 = Except.ok (Instr.aload_n 0, 1) := vyd_42 (vyb_cX6_splice_6 (i := 7) rfl)
theorem dX6_splice_68 : decode cX6_splice 68 = Except.ok (Instr.iconst 1, 1) := vyd_4 (vyb_cX6_splice_6 (i := 8) rfl)
theorem dX6_splice_69 : decode cX6_splice 69 = Except.ok (Instr.invokevirtual 91, 3) := vyd_182 (vyb_cX6_splice_6 (i := 9) rfl) (vyb_cX6_splice_7 (i := 0) rfl) (vyb_cX6_splice_7 (i := 1) rfl) rfl
theorem dX6_splice_72 : decode cX6_splice 72 = Except.ok (Instr.if_icmp .le 6, 3) := vyd_164 (vyb_cX6_splice_7 (i := 2) rfl) (vyb_cX6_splice_7 (i := 3) rfl) (vyb_cX6_splice_7 (i := 4) rfl) (by decide +kernel)
theorem dX6_splice_75 : decode cX6_splice 75 = Except.ok (Instr.bipush (-9), 2) := vyd_16 (vyb_cX6_splice_7 (i := 5) rfl) (vyb_cX6_splice_7 (i := 6) rfl) (by decide +kernel)
theorem dX6_splice_77 : decode cX6_splice 77 = Except.ok (Instr.ireturn, 1) := vyd_172 (vyb_cX6_splice_7 (i := 7) rfl)
theorem dX6_splice_78 : decode cX6_splice 78 = Except.ok (Instr.iconst 0, 1) := vyd_3 (vyb_cX6_splice_7 (i := 8) rfl)
theorem dX6_splice_79 : decode cX6_splice 79 = Except.ok (Instr.istore_n 3, 1) := vyd_62 (vyb_cX6_splice_7 (i := 9) rfl)
theorem dX6_splice_80 : decode cX6_splice 80 = Except.ok (Instr.iload_n 3, 1) := vyd_29 (vyb_cX6_splice_8 (i := 0) rfl)
theorem dX6_splice_81 : decode cX6_splice 81 = Except.ok (Instr.iload_n 2, 1) := vyd_28 (vyb_cX6_splice_8 (i := 1) rfl)
theorem dX6_splice_82 : decode cX6_splice 82 = Except.ok (Instr.if_icmp .ge 23, 3) := vyd_162 (vyb_cX6_splice_8 (i := 2) rfl) (vyb_cX6_splice_8 (i := 3) rfl) (vyb_cX6_splice_8 (i := 4) rfl) (by decide +kernel)
theorem dX6_splice_85 : decode cX6_splice 85 = Except.ok (Instr.aload_n 0, 1) := vyd_42 (vyb_cX6_splice_8 (i := 5) rfl)
theorem dX6_splice_86 : decode cX6_splice 86 = Except.ok (Instr.iconst 1, 1) := vyd_4 (vyb_cX6_splice_8 (i := 6) rfl)
theorem dX6_splice_87 : decode cX6_splice 87 = Except.ok (Instr.iload_n 1, 1) := vyd_27 (vyb_cX6_splice_8 (i := 7) rfl)
theorem dX6_splice_88 : decode cX6_splice 88 = Except.ok (Instr.iload_n 3, 1) := vyd_29 (vyb_cX6_splice_8 (i := 8) rfl)
theorem dX6_splice_89 : decode cX6_splice 89 = Except.ok (Instr.iadd, 1) := vyd_96 (vyb_cX6_splice_8 (i := 9) rfl)
theorem dX6_splice_90 : decode cX6_splice 90 = Except.ok (Instr.aload_n 0, 1) := vyd_42 (vyb_cX6_splice_9 (i := 0) rfl)
theorem dX6_splice_91 : decode cX6_splice 91 = Except.ok (Instr.iconst 0, 1) := vyd_3 (vyb_cX6_splice_9 (i := 1) rfl)
theorem dX6_splice_92 : decode cX6_splice 92 = Except.ok (Instr.iconst 0, 1) := vyd_3 (vyb_cX6_splice_9 (i := 2) rfl)
theorem dX6_splice_93 : decode cX6_splice 93 = Except.ok (Instr.invokevirtual 102, 3) := vyd_182 (vyb_cX6_splice_9 (i := 3) rfl) (vyb_cX6_splice_9 (i := 4) rfl) (vyb_cX6_splice_9 (i := 5) rfl) rfl
theorem dX6_splice_96 : decode cX6_splice 96 = Except.ok (Instr.invokevirtual 94, 3) := vyd_182 (vyb_cX6_splice_9 (i := 6) rfl) (vyb_cX6_splice_9 (i := 7) rfl) (vyb_cX6_splice_9 (i := 8) rfl) rfl
theorem dX6_splice_99 : decode cX6_splice 99 = .ok (.iinc 3 1, 3) := by decide +kernel
theorem dX6_splice_102 : decode cX6_splice 102 = Except.ok (Instr.goto (-22), 3) := vyd_167 (vyb_cX6_splice_10 (i := 2) rfl) (vyb_cX6_splice_10 (i := 3) rfl) (vyb_cX6_splice_10 (i := 4) rfl) (by decide +kernel)
theorem dX6_splice_105 : decode cX6_splice 105 = Except.ok (Instr.aload_n 0, 1) := vyd_42 (vyb_cX6_splice_10 (i := 5) rfl)
theorem dX6_splice_106 : decode cX6_splice 106 = Except.ok (Instr.invokevirtual 164, 3) := vyd_182 (vyb_cX6_splice_10 (i := 6) rfl) (vyb_cX6_splice_10 (i := 7) rfl) (vyb_cX6_splice_10 (i := 8) rfl) rfl
theorem dX6_splice_109 : decode cX6_splice 109 = Except.ok (Instr.iload_n 2, 1) := vyd_28 (vyb_cX6_splice_10 (i := 9) rfl)
theorem dX6_splice_110 : decode cX6_splice 110 = Except.ok (Instr.ireturn, 1) := vyd_172 (vyb_cX6_splice_11 (i := 0) rfl)
theorem vyb_cX6_shunt_0 {i : Nat} {b : UInt8} (h : ([0x2a, 0x2a, 0x1b, 0xb6, 0x00, 0xb1, 0x04, 0xb6, 0x00, 0x6e] : List UInt8)[i]? = some b) : vy_8 cX6_shunt (0 + i) b := vy_in (n := 10) (by decide +kernel) h
theorem vyb_cX6_shunt_1 {i : Nat} {b : UInt8} (h : ([0x9a, 0x00, 0x33, 0x2a, 0x1c, 0x04, 0x10, 0x14, 0xb8, 0x00] : List UInt8)[i]? = some b) : vy_8 cX6_shunt (10 + i) b := vy_in (n := 10) (by decide +kernel) h
theorem vyb_cX6_shunt_2 {i : Nat} {b : UInt8} (h : ([0x2c, 0x9a, 0x00, 0x07, 0x04, 0xa7, 0x00, 0x04, 0x03, 0x05] : List UInt8)[i]? = some b) : vy_8 cX6_shunt (20 + i) b := vy_in (n := 10) (by decide +kernel) h
theorem vyb_cX6_shunt_3 {i : Nat} {b : UInt8} (h : ([0xb6, 0x00, 0x28, 0x9a, 0x00, 0x1c, 0x2a, 0x2a, 0x03, 0xb6] : List UInt8)[i]? = some b) : vy_8 cX6_shunt (30 + i) b := vy_in (n := 10) (by decide +kernel) h
theorem vyb_cX6_shunt_4 {i : Nat} {b : UInt8} (h : ([0x00, 0x5b, 0x1c, 0x60, 0x10, 0x14, 0xa4, 0x00, 0x07, 0x04] : List UInt8)[i]? = some b) : vy_8 cX6_shunt (40 + i) b := vy_in (n := 10) (by decide +kernel) h
theorem vyb_cX6_shunt_5 {i : Nat} {b : UInt8} (h : ([0xa7, 0x00, 0x04, 0x03, 0x06, 0xb6, 0x00, 0x28, 0x99, 0x00] : List UInt8)[i]? = some b) : vy_8 cX6_shunt (50 + i) b := vy_in (n := 10) (by decide +kernel) h
theorem vyb_cX6_shunt_6 {i : Nat} {b : UInt8} (h : ([0x05, 0x03, 0xac, 0x1b, 0x2a, 0x04, 0xb6, 0x00, 0x5b, 0xa1] : List UInt8)[i]? = some b) : vy_8 cX6_shunt (60 + i) b := vy_in (n := 10) (by decide +kernel) h
theorem vyb_cX6_shunt_7 {i : Nat} {b : UInt8} (h : ([0x00, 0x06, 0x10, 0xf7, 0xac, 0x03, 0x3e, 0x1c, 0x2a, 0x04] : List UInt8)[i]? = some b) : vy_8 cX6_shunt (70 + i) b := vy_in (n := 10) (by decide +kernel) h
theorem vyb_cX6_shunt_8 {i : Nat} {b : UInt8} (h : ([0xb6, 0x00, 0x5b, 0x1b, 0x64, 0xb8, 0x00, 0xb8, 0x36, 0x04] : List UInt8)[i]? = some b) : vy_8 cX6_shunt (80 + i) b := vy_in (n := 10) (by decide +kernel) h
theorem vyb_cX6_shunt_9 {i : Nat} {b : UInt8} (h : ([0x15, 0x04, 0x9e, 0x00, 0x28, 0x2a, 0x04, 0x1b, 0xb6, 0x00] : List UInt8)[i]? = some b) : vy_8 cX6_shunt (90 + i) b := vy_in (n := 10) (by decide +kernel) h
theorem vyb_cX6_shunt_10 {i : Nat} {b : UInt8} (h : ([0x66, 0x36, 0x05, 0x15, 0x05, 0x9a, 0x00, 0x06, 0xa7, 0x00] : List UInt8)[i]? = some b) : vy_8 cX6_shunt (100 + i) b := vy_in (n := 10) (by decide +kernel) h
theorem vyb_cX6_shunt_11 {i : Nat} {b : UInt8} (h : ([0x12, 0x2a, 0x03, 0x2a, 0x03, 0xb6, 0x00, 0x5b, 0x15, 0x05] : List UInt8)[i]? = some b) : vy_8 cX6_shunt (110 + i) b := vy_in (n := 10) (by decide +kernel) h
theorem vyb_cX6_shunt_12 {i : Nat} {b : UInt8} (h : ([0xb6, 0x00, 0x5e, 0x84, 0x03, 0x01, 0x84, 0x04, 0xff, 0xa7] : List UInt8)[i]? = some b) : vy_8 cX6_shunt (120 + i) b := vy_in (n := 10) (by decide +kernel) h
theorem vyb_cX6_shunt_13 {i : Nat} {b : UInt8} (h : ([0xff, 0xd9, 0x2a, 0xb6, 0x00, 0xa4, 0x1d, 0xac] : List UInt8)[i]? = some b) : vy_8 cX6_shunt (130 + i) b := vy_in (n := 8) (by decide +kernel) h
theorem dX6_shunt_0 : decode cX6_shunt 0 = Except.ok (Instr.aload_n 0, 1) := vyd_42 (vyb_cX6_shunt_0 (i := 0) rfl)
theorem dX6_shunt_1 : decode cX6_shunt 1 = Except.ok (Instr.aload_n 0, 1) := vyd_42 (vyb_cX6_shunt_0 (i := 1) rfl)
theorem dX6_shunt_2 : decode cX6_shunt 2 = Except.ok (Instr.iload_n 1, 1) := vyd_27 (vyb_cX6_shunt_0 (i := 2) rfl)
theorem dX6_shunt_3 : decode cX6_shunt 3 = Except.ok (Instr.invokevirtual 177, 3) := vyd_182 (vyb_cX6_shunt_0 (i := 3) rfl) (vyb_cX6_shunt_0 (i := 4) rfl) (vyb_cX6_shunt_0 (i := 5) rfl) rfl
theorem dX6_shunt_6 : decode cX6_shunt 6 = Except.ok (Instr.iconst 1, 1) := vyd_4 (vyb_cX6_shunt_0 (i := 6) rfl)
theorem dX6_shunt_7 : decode cX6_shunt 7 = Except.ok (Instr.invokevirtual 110, 3) := vyd_182 (vyb_cX6_shunt_0 (i := 7) rfl) (vyb_cX6_shunt_0 (i := 8) rfl) (vyb_cX6_shunt_0 (i := 9) rfl) rfl
theorem dX6_shunt_10 : decode cX6_shunt 10 = Except.ok (Instr.ifCond .ne 51, 3) := vyd_154 (vyb_cX6_shunt_1 (i := 0) rfl) (vyb_cX6_shunt_1 (i := 1) rfl) (vyb_cX6_shunt_1 (i := 2) rfl) (by decide +kernel)
theorem dX6_shunt_13 : decode cX6_shunt 13 = Except.ok (Instr.aload_n 0, 1) := vyd_42 (vyb_cX6_shunt_1 (i := 3) rfl)
theorem dX6_shunt_14 : decode cX6_shunt 14 = Except.ok (Instr.iload_n 2, 1) := vyd_28 (vyb_cX6_shunt_1 (i := 4) rfl)
theorem dX6_shunt_15 : decode cX6_shunt 15 = Except.ok (Instr.iconst 1, 1) := vyd_4 (vyb_cX6_shunt_1 (i := 5) rfl)
theorem dX6_shunt_16 : decode cX6_shunt 16 = Except.ok (Instr.bipush 20, 2) := vyd_16 (vyb_cX6_shunt_1 (i := 6) rfl) (vyb_cX6_shunt_1 (i := 7) rfl) (by decide +kernel)
theorem dX6_shunt_18 : decode cX6_shunt 18 = Except.ok (Instr.invokestatic 44, 3) := vyd_184 (vyb_cX6_shunt_1 (i := 8) rfl) (vyb_cX6_shunt_1 (i := 9) rfl) (vyb_cX6_shunt_2 (i := 0) rfl) rfl
theorem dX6_shunt_21 : decode cX6_shunt 21 = Except.ok (Instr.ifCond .ne 7, 3) := vyd_154 (vyb_cX6_shunt_2 (i := 1) rfl) (vyb_cX6_shunt_2 (i := 2) rfl) (vyb_cX6_shunt_2 (i := 3) rfl) (by decide +kernel)
theorem dX6_shunt_24 : decode cX6_shunt 24 = Except.ok (Instr.iconst 1, 1) := vyd_4 (vyb_cX6_shunt_2 (i := 4) rfl)
theorem dX6_shunt_25 : decode cX6_shunt 25 = Except.ok (Instr.goto 4, 3) := vyd_167 (vyb_cX6_shunt_2 (i := 5) rfl) (vyb_cX6_shunt_2 (i := 6) rfl) (vyb_cX6_shunt_2 (i := 7) rfl) (by decide +kernel)
theorem dX6_shunt_28 : decode cX6_shunt 28 = Except.ok (Instr.iconst 0, 1) := vyd_3 (vyb_cX6_shunt_2 (i := 8) rfl)
theorem dX6_shunt_29 : decode cX6_shunt 29 = Except.ok (Instr.iconst 2, 1) := vyd_5 (vyb_cX6_shunt_2 (i := 9) rfl)
theorem dX6_shunt_30 : decode cX6_shunt 30 = Except.ok (Instr.invokevirtual 40, 3) := vyd_182 (vyb_cX6_shunt_3 (i := 0) rfl) (vyb_cX6_shunt_3 (i := 1) rfl) (vyb_cX6_shunt_3 (i := 2) rfl) rfl
theorem dX6_shunt_33 : decode cX6_shunt 33 = Except.ok (Instr.ifCond .ne 28, 3) := vyd_154 (vyb_cX6_shunt_3 (i := 3) rfl) (vyb_cX6_shunt_3 (i := 4) rfl) (vyb_cX6_shunt_3 (i := 5) rfl) (by decide +kernel)
theorem dX6_shunt_36 : decode cX6_shunt 36 = Except.ok (Instr.aload_n 0, 1) := vyd_42 (vyb_cX6_shunt_3 (i := 6) rfl)
theorem dX6_shunt_37 : decode cX6_shunt 37 = Except.ok (Instr.aload_n 0, 1) := vyd_42 (vyb_cX6_shunt_3 (i := 7) rfl)
theorem dX6_shunt_38 : decode cX6_shunt 38 = Except.ok (Instr.iconst 0, 1) := vyd_3 (vyb_cX6_shunt_3 (i := 8) rfl)
theorem dX6_shunt_39 : decode cX6_shunt 39 = Except.ok (Instr.invokevirtual 91, 3) := vyd_182 (vyb_cX6_shunt_3 (i := 9) rfl) (vyb_cX6_shunt_4 (i := 0) rfl) (vyb_cX6_shunt_4 (i := 1) rfl) rfl
theorem dX6_shunt_42 : decode cX6_shunt 42 = Except.ok (Instr.iload_n 2, 1) := vyd_28 (vyb_cX6_shunt_4 (i := 2) rfl)
theorem dX6_shunt_43 : decode cX6_shunt 43 = Except.ok (Instr.iadd, 1) := vyd_96 (vyb_cX6_shunt_4 (i := 3) rfl)
theorem dX6_shunt_44 : decode cX6_shunt 44 = Except.ok (Instr.bipush 20, 2) := vyd_16 (vyb_cX6_shunt_4 (i := 4) rfl) (vyb_cX6_shunt_4 (i := 5) rfl) (by decide +kernel)
theorem dX6_shunt_46 : decode cX6_shunt 46 = Except.ok (Instr.if_icmp .le 7, 3) := vyd_164 (vyb_cX6_shunt_4 (i := 6) rfl) (vyb_cX6_shunt_4 (i := 7) rfl) (vyb_cX6_shunt_4 (i := 8) rfl) (by decide +kernel)
theorem dX6_shunt_49 : decode cX6_shunt 49 = Except.ok (Instr.iconst 1, 1) := vyd_4 (vyb_cX6_shunt_4 (i := 9) rfl)
theorem dX6_shunt_50 : decode cX6_shunt 50 = Except.ok (Instr.goto 4, 3) := vyd_167 (vyb_cX6_shunt_5 (i := 0) rfl) (vyb_cX6_shunt_5 (i := 1) rfl) (vyb_cX6_shunt_5 (i := 2) rfl) (by decide +kernel)
theorem dX6_shunt_53 : decode cX6_shunt 53 = Except.ok (Instr.iconst 0, 1) := vyd_3 (vyb_cX6_shunt_5 (i := 3) rfl)
theorem dX6_shunt_54 : decode cX6_shunt 54 = Except.ok (Instr.iconst 3, 1) := vyd_6 (vyb_cX6_shunt_5 (i := 4) rfl)
theorem dX6_shunt_55 : decode cX6_shunt 55 = Except.ok (Instr.invokevirtual 40, 3) := vyd_182 (vyb_cX6_shunt_5 (i := 5) rfl) (vyb_cX6_shunt_5 (i := 6) rfl) (vyb_cX6_shunt_5 (i := 7) rfl) rfl
theorem dX6_shunt_58 : decode cX6_shunt 58 = Except.ok (Instr.ifCond .eq 5, 3) := vyd_153 (vyb_cX6_shunt_5 (i := 8) rfl) (vyb_cX6_shunt_5 (i := 9) rfl) (vyb_cX6_shunt_6 (i := 0) rfl) (by decide +kernel)
theorem dX6_shunt_61 : decode cX6_shunt 61 = Except.ok (Instr.iconst 0, 1) := vyd_3 (vyb_cX6_shunt_6 (i := 1) rfl)
theorem dX6_shunt_62 : decode cX6_shunt 62 = Except.ok (Instr.ireturn, 1) := vyd_172 (vyb_cX6_shunt_6 (i := 2) rfl)
theorem dX6_shunt_63 : decode cX6_shunt 63 = Except.ok (Instr.iload_n 1, 1) := vyd_27 (vyb_cX6_shunt_6 (i := 3) rfl)
theorem dX6_shunt_64 : decode cX6_shunt 64 = Except.ok (Instr.aload_n 0, 1) := vyd_42 (vyb_cX6_shunt_6 (i := 4) rfl)
theorem dX6_shunt_65 : decode cX6_shunt 65 = Except.ok (Instr.iconst 1, 1) := vyd_4 (vyb_cX6_shunt_6 (i := 5) rfl)
theorem dX6_shunt_66 : decode cX6_shunt 66 = Except.ok (Instr.invokevirtual 91, 3) := vyd_182 (vyb_cX6_shunt_6 (i := 6) rfl) (vyb_cX6_shunt_6 (i := 7) rfl) (vyb_cX6_shunt_6 (i := 8) rfl) rfl
theorem dX6_shunt_69 : decode cX6_shunt 69 = Except.ok (Instr.if_icmp .lt 6, 3) := vyd_161 (vyb_cX6_shunt_6 (i := 9) rfl) (vyb_cX6_shunt_7 (i := 0) rfl) (vyb_cX6_shunt_7 (i := 1) rfl) (by decide +kernel)
theorem dX6_shunt_72 : decode cX6_shunt 72 = Except.ok (Instr.bipush (-9), 2) := vyd_16 (vyb_cX6_shunt_7 (i := 2) rfl) (vyb_cX6_shunt_7 (i := 3) rfl) (by decide +kernel)
theorem dX6_shunt_74 : decode cX6_shunt 74 = Except.ok (Instr.ireturn, 1) := vyd_172 (vyb_cX6_shunt_7 (i := 4) rfl)
theorem dX6_shunt_75 : decode cX6_shunt 75 = Except.ok (Instr.iconst 0, 1) := vyd_3 (vyb_cX6_shunt_7 (i := 5) rfl)
theorem dX6_shunt_76 : decode cX6_shunt 76 = Except.ok (Instr.istore_n 3, 1) := vyd_62 (vyb_cX6_shunt_7 (i := 6) rfl)
theorem dX6_shunt_77 : decode cX6_shunt 77 = Except.ok (Instr.iload_n 2, 1) := vyd_28 (vyb_cX6_shunt_7 (i := 7) rfl)
theorem dX6_shunt_78 : decode cX6_shunt 78 = Except.ok (Instr.aload_n 0, 1) := vyd_42 (vyb_cX6_shunt_7 (i := 8) rfl)
theorem dX6_shunt_79 : decode cX6_shunt 79 = Except.ok (Instr.iconst 1, 1) := vyd_4 (vyb_cX6_shunt_7 (i := 9) rfl)
theorem dX6_shunt_80 : decode cX6_shunt 80 = Except.ok (Instr.invokevirtual 91, 3) := vyd_182 (vyb_cX6_shunt_8 (i := 0) rfl) (vyb_cX6_shunt_8 (i := 1) rfl) (vyb_cX6_shunt_8 (i := 2) rfl) rfl
theorem dX6_shunt_83 : decode cX6_shunt 83 = Except.ok (Instr.iload_n 1, 1) := vyd_27 (vyb_cX6_shunt_8 (i := 3) rfl)
theorem dX6_shunt_84 : decode cX6_shunt 84 = Except.ok (Instr.isub, 1) := vyd_100 (vyb_cX6_shunt_8 (i := 4) rfl)
theorem dX6_shunt_85 : decode cX6_shunt 85 = Except.ok (Instr.invokestatic 184, 3) := vyd_184 (vyb_cX6_shunt_8 (i := 5) rfl) (vyb_cX6_shunt_8 (i := 6) rfl) (vyb_cX6_shunt_8 (i := 7) rfl) rfl
theorem dX6_shunt_88 : decode cX6_shunt 88 = Except.ok (Instr.istore 4, 2) := vyd_54 (vyb_cX6_shunt_8 (i := 8) rfl) (vyb_cX6_shunt_8 (i := 9) rfl) rfl
theorem dX6_shunt_90 : decode cX6_shunt 90 = Except.ok (Instr.iload 4, 2) := vyd_21 (vyb_cX6_shunt_9 (i := 0) rfl) (vyb_cX6_shunt_9 (i := 1) rfl) rfl
theorem dX6_shunt_92 : decode cX6_shunt 92 = Except.ok (Instr.ifCond .le 40, 3) := vyd_158 (vyb_cX6_shunt_9 (i := 2) rfl) (vyb_cX6_shunt_9 (i := 3) rfl) (vyb_cX6_shunt_9 (i := 4) rfl) (by decide +kernel)
theorem dX6_shunt_95 : decode cX6_shunt 95 = Except.ok (Instr.aload_n 0, 1) := vyd_42 (vyb_cX6_shunt_9 (i := 5) rfl)
theorem dX6_shunt_96 : decode cX6_shunt 96 = Except.ok (Instr.iconst 1, 1) := vyd_4 (vyb_cX6_shunt_9 (i := 6) rfl)
theorem dX6_shunt_97 : decode cX6_shunt 97 = Except.ok (Instr.iload_n 1, 1) := vyd_27 (vyb_cX6_shunt_9 (i := 7) rfl)
theorem dX6_shunt_98 : decode cX6_shunt 98 = Except.ok (Instr.invokevirtual 102, 3) := vyd_182 (vyb_cX6_shunt_9 (i := 8) rfl) (vyb_cX6_shunt_9 (i := 9) rfl) (vyb_cX6_shunt_10 (i := 0) rfl) rfl
theorem dX6_shunt_101 : decode cX6_shunt 101 = Except.ok (Instr.istore 5, 2) := vyd_54 (vyb_cX6_shunt_10 (i := 1) rfl) (vyb_cX6_shunt_10 (i := 2) rfl) rfl
theorem dX6_shunt_103 : decode cX6_shunt 103 = Except.ok (Instr.iload 5, 2) := vyd_21 (vyb_cX6_shunt_10 (i := 3) rfl) (vyb_cX6_shunt_10 (i := 4) rfl) rfl
theorem dX6_shunt_105 : decode cX6_shunt 105 = Except.ok (Instr.ifCond .ne 6, 3) := vyd_154 (vyb_cX6_shunt_10 (i := 5) rfl) (vyb_cX6_shunt_10 (i := 6) rfl) (vyb_cX6_shunt_10 (i := 7) rfl) (by decide +kernel)
theorem dX6_shunt_108 : decode cX6_shunt 108 = Except.ok (Instr.goto 18, 3) := vyd_167 (vyb_cX6_shunt_10 (i := 8) rfl) (vyb_cX6_shunt_10 (i := 9) rfl) (vyb_cX6_shunt_11 (i := 0) rfl) (by decide +kernel)
theorem dX6_shunt_111 : decode cX6_shunt 111 = Except.ok (Instr.aload_n 0, 1) := vyd_42 (vyb_cX6_shunt_11 (i := 1) rfl)
theorem dX6_shunt_112 : decode cX6_shunt 112 = Except.ok (Instr.iconst 0, 1) := vyd_3 (vyb_cX6_shunt_11 (i := 2) rfl)
theorem dX6_shunt_113 : decode cX6_shunt 113 = Except.ok (Instr.aload_n 0, 1) := vyd_42 (vyb_cX6_shunt_11 (i := 3) rfl)
theorem dX6_shunt_114 : decode cX6_shunt 114 = Except.ok (Instr.iconst 0, 1) := vyd_3 (vyb_cX6_shunt_11 (i := 4) rfl)
theorem dX6_shunt_115 : decode cX6_shunt 115 = Except.ok (Instr.invokevirtual 91, 3) := vyd_182 (vyb_cX6_shunt_11 (i := 5) rfl) (vyb_cX6_shunt_11 (i := 6) rfl) (vyb_cX6_shunt_11 (i := 7) rfl) rfl
theorem dX6_shunt_118 : decode cX6_shunt 118 = Except.ok (Instr.iload 5, 2) := vyd_21 (vyb_cX6_shunt_11 (i := 8) rfl) (vyb_cX6_shunt_11 (i := 9) rfl) rfl
theorem dX6_shunt_120 : decode cX6_shunt 120 = Except.ok (Instr.invokevirtual 94, 3) := vyd_182 (vyb_cX6_shunt_12 (i := 0) rfl) (vyb_cX6_shunt_12 (i := 1) rfl) (vyb_cX6_shunt_12 (i := 2) rfl) rfl
theorem dX6_shunt_123 : decode cX6_shunt 123 = .ok (.iinc 3 1, 3) := by decide +kernel
theorem dX6_shunt_126 : decode cX6_shunt 126 = .ok (.iinc 4 (-1), 3) := by decide +kernel
theorem dX6_shunt_129 : decode cX6_shunt 129 = Except.ok (Instr.goto (-39), 3) := vyd_167 (vyb_cX6_shunt_12 (i := 9) rfl) (vyb_cX6_shunt_13 (i := 0) rfl) (vyb_cX6_shunt_13 (i := 1) rfl) (by decide +kernel)
theorem dX6_shunt_132 : decode cX6_shunt 132 = Except.ok (Instr.aload_n 0, 1) := vyd_42 (vyb_cX6_shunt_13 (i := 2) rfl)
theorem dX6_shunt_133 : decode cX6_shunt 133 = Except.ok (Instr.invokevirtual 164, 3) := vyd_182 (vyb_cX6_shunt_13 (i := 3) rfl) (vyb_cX6_shunt_13 (i := 4) rfl) (vyb_cX6_shunt_13 (i := 5) rfl) rfl
theorem dX6_shunt_136 : decode cX6_shunt 136 = Except.ok (Instr.iload_n 3, 1) := vyd_29 (vyb_cX6_shunt_13 (i := 6) rfl)
theorem dX6_shunt_137 : decode cX6_shunt 137 = Except.ok (Instr.ireturn, 1) := vyd_172 (vyb_cX6_shunt_13 (i := 7) rfl)
theorem vyb_cX6_isNoWalker_0 {i : Nat} {b : UInt8} (h : ([0x1a, 0x03, 0x04, 0xb8, 0x00, 0x2c, 0x9a, 0x00, 0x07, 0x04] : List UInt8)[i]? = some b) : vy_8 cX6_isNoWalker (0 + i) b := vy_in (n := 10) (by decide +kernel) h
theorem vyb_cX6_isNoWalker_1 {i : Nat} {b : UInt8} (h : ([0xa7, 0x00, 0x04, 0x03, 0xac] : List UInt8)[i]? = some b) : vy_8 cX6_isNoWalker (10 + i) b := vy_in (n := 5) (by decide +kernel) h
theorem dX6_isNoWalker_0 : decode cX6_isNoWalker 0 = Except.ok (Instr.iload_n 0, 1) := vyd_26 (vyb_cX6_isNoWalker_0 (i := 0) rfl)
theorem dX6_isNoWalker_1 : decode cX6_isNoWalker 1 = Except.ok (Instr.iconst 0, 1) := vyd_3 (vyb_cX6_isNoWalker_0 (i := 1) rfl)
theorem dX6_isNoWalker_2 : decode cX6_isNoWalker 2 = Except.ok (Instr.iconst 1, 1) := vyd_4 (vyb_cX6_isNoWalker_0 (i := 2) rfl)
theorem dX6_isNoWalker_3 : decode cX6_isNoWalker 3 = Except.ok (Instr.invokestatic 44, 3) := vyd_184 (vyb_cX6_isNoWalker_0 (i := 3) rfl) (vyb_cX6_isNoWalker_0 (i := 4) rfl) (vyb_cX6_isNoWalker_0 (i := 5) rfl) rfl
theorem dX6_isNoWalker_6 : decode cX6_isNoWalker 6 = Except.ok (Instr.ifCond .ne 7, 3) := vyd_154 (vyb_cX6_isNoWalker_0 (i := 6) rfl) (vyb_cX6_isNoWalker_0 (i := 7) rfl) (vyb_cX6_isNoWalker_0 (i := 8) rfl) (by decide +kernel)
theorem dX6_isNoWalker_9 : decode cX6_isNoWalker 9 = Except.ok (Instr.iconst 1, 1) := vyd_4 (vyb_cX6_isNoWalker_0 (i := 9) rfl)
theorem dX6_isNoWalker_10 : decode cX6_isNoWalker 10 = Except.ok (Instr.goto 4, 3) := vyd_167 (vyb_cX6_isNoWalker_1 (i := 0) rfl) (vyb_cX6_isNoWalker_1 (i := 1) rfl) (vyb_cX6_isNoWalker_1 (i := 2) rfl) (by decide +kernel)
theorem dX6_isNoWalker_13 : decode cX6_isNoWalker 13 = Except.ok (Instr.iconst 0, 1) := vyd_3 (vyb_cX6_isNoWalker_1 (i := 3) rfl)
theorem dX6_isNoWalker_14 : decode cX6_isNoWalker 14 = Except.ok (Instr.ireturn, 1) := vyd_172 (vyb_cX6_isNoWalker_1 (i := 4) rfl)
theorem vyb_cX6_isNowhere_0 {i : Nat} {b : UInt8} (h : ([0x2a, 0x1b, 0xb8, 0x00, 0xbb, 0x04, 0xb6, 0x00, 0x6e, 0x9a] : List UInt8)[i]? = some b) : vy_8 cX6_isNowhere (0 + i) b := vy_in (n := 10) (by decide +kernel) h
theorem vyb_cX6_isNowhere_1 {i : Nat} {b : UInt8} (h : ([0x00, 0x1c, 0x2a, 0x2a, 0xb4, 0x00, 0x19, 0x1b, 0x32, 0xb4] : List UInt8)[i]? = some b) : vy_8 cX6_isNowhere (10 + i) b := vy_in (n := 10) (by decide +kernel) h
theorem vyb_cX6_isNowhere_2 {i : Nat} {b : UInt8} (h : ([0x00, 0x43, 0x9a, 0x00, 0x07, 0x04, 0xa7, 0x00, 0x04, 0x03] : List UInt8)[i]? = some b) : vy_8 cX6_isNowhere (20 + i) b := vy_in (n := 10) (by decide +kernel) h
theorem vyb_cX6_isNowhere_3 {i : Nat} {b : UInt8} (h : ([0x05, 0xb6, 0x00, 0x28, 0x99, 0x00, 0x07, 0x04, 0xa7, 0x00] : List UInt8)[i]? = some b) : vy_8 cX6_isNowhere (30 + i) b := vy_in (n := 10) (by decide +kernel) h
theorem vyb_cX6_isNowhere_4 {i : Nat} {b : UInt8} (h : ([0x04, 0x03, 0xac] : List UInt8)[i]? = some b) : vy_8 cX6_isNowhere (40 + i) b := vy_in (n := 3) (by decide +kernel) h
theorem dX6_isNowhere_0 : decode cX6_isNowhere 0 = Except.ok (Instr.aload_n 0, 1) := vyd_42 (vyb_cX6_isNowhere_0 (i := 0) rfl)
theorem dX6_isNowhere_1 : decode cX6_isNowhere 1 = Except.ok (Instr.iload_n 1, 1) := vyd_27 (vyb_cX6_isNowhere_0 (i := 1) rfl)
theorem dX6_isNowhere_2 : decode cX6_isNowhere 2 = Except.ok (Instr.invokestatic 187, 3) := vyd_184 (vyb_cX6_isNowhere_0 (i := 2) rfl) (vyb_cX6_isNowhere_0 (i := 3) rfl) (vyb_cX6_isNowhere_0 (i := 4) rfl) rfl
theorem dX6_isNowhere_5 : decode cX6_isNowhere 5 = Except.ok (Instr.iconst 1, 1) := vyd_4 (vyb_cX6_isNowhere_0 (i := 5) rfl)
theorem dX6_isNowhere_6 : decode cX6_isNowhere 6 = Except.ok (Instr.invokevirtual 110, 3) := vyd_182 (vyb_cX6_isNowhere_0 (i := 6) rfl) (vyb_cX6_isNowhere_0 (i := 7) rfl) (vyb_cX6_isNowhere_0 (i := 8) rfl) rfl
theorem dX6_isNowhere_9 : decode cX6_isNowhere 9 = Except.ok (Instr.ifCond .ne 28, 3) := vyd_154 (vyb_cX6_isNowhere_0 (i := 9) rfl) (vyb_cX6_isNowhere_1 (i := 0) rfl) (vyb_cX6_isNowhere_1 (i := 1) rfl) (by decide +kernel)
theorem dX6_isNowhere_12 : decode cX6_isNowhere 12 = Except.ok (Instr.aload_n 0, 1) := vyd_42 (vyb_cX6_isNowhere_1 (i := 2) rfl)
theorem dX6_isNowhere_13 : decode cX6_isNowhere 13 = Except.ok (Instr.aload_n 0, 1) := vyd_42 (vyb_cX6_isNowhere_1 (i := 3) rfl)
theorem dX6_isNowhere_14 : decode cX6_isNowhere 14 = Except.ok (Instr.getfield 25, 3) := vyd_180 (vyb_cX6_isNowhere_1 (i := 4) rfl) (vyb_cX6_isNowhere_1 (i := 5) rfl) (vyb_cX6_isNowhere_1 (i := 6) rfl) rfl
theorem dX6_isNowhere_17 : decode cX6_isNowhere 17 = Except.ok (Instr.iload_n 1, 1) := vyd_27 (vyb_cX6_isNowhere_1 (i := 7) rfl)
theorem dX6_isNowhere_18 : decode cX6_isNowhere 18 = Except.ok (Instr.aaload, 1) := vyd_50 (vyb_cX6_isNowhere_1 (i := 8) rfl)
theorem dX6_isNowhere_19 : decode cX6_isNowhere 19 = Except.ok (Instr.getfield 67, 3) := vyd_180 (vyb_cX6_isNowhere_1 (i := 9) rfl) (vyb_cX6_isNowhere_2 (i := 0) rfl) (vyb_cX6_isNowhere_2 (i := 1) rfl) rfl
theorem dX6_isNowhere_22 : decode cX6_isNowhere 22 = Except.ok (Instr.ifCond .ne 7, 3) := vyd_154 (vyb_cX6_isNowhere_2 (i := 2) rfl) (vyb_cX6_isNowhere_2 (i := 3) rfl) (vyb_cX6_isNowhere_2 (i := 4) rfl) (by decide +kernel)
theorem dX6_isNowhere_25 : decode cX6_isNowhere 25 = Except.ok (Instr.iconst 1, 1) := vyd_4 (vyb_cX6_isNowhere_2 (i := 5) rfl)
theorem dX6_isNowhere_26 : decode cX6_isNowhere 26 = Except.ok (Instr.goto 4, 3) := vyd_167 (vyb_cX6_isNowhere_2 (i := 6) rfl) (vyb_cX6_isNowhere_2 (i := 7) rfl) (vyb_cX6_isNowhere_2 (i := 8) rfl) (by decide +kernel)
theorem dX6_isNowhere_29 : decode cX6_isNowhere 29 = Except.ok (Instr.iconst 0, 1) := vyd_3 (vyb_cX6_isNowhere_2 (i := 9) rfl)
theorem dX6_isNowhere_30 : decode cX6_isNowhere 30 = Except.ok (Instr.iconst 2, 1) := vyd_5 (vyb_cX6_isNowhere_3 (i := 0) rfl)
theorem dX6_isNowhere_31 : decode cX6_isNowhere 31 = Except.ok (Instr.invokevirtual 40, 3) := vyd_182 (vyb_cX6_isNowhere_3 (i := 1) rfl) (vyb_cX6_isNowhere_3 (i := 2) rfl) (vyb_cX6_isNowhere_3 (i := 3) rfl) rfl
theorem dX6_isNowhere_34 : decode cX6_isNowhere 34 = Except.ok (Instr.ifCond .eq 7, 3) := vyd_153 (vyb_cX6_isNowhere_3 (i := 4) rfl) (vyb_cX6_isNowhere_3 (i := 5) rfl) (vyb_cX6_isNowhere_3 (i := 6) rfl) (by decide +kernel)
theorem dX6_isNowhere_37 : decode cX6_isNowhere 37 = Except.ok (Instr.iconst 1, 1) := vyd_4 (vyb_cX6_isNowhere_3 (i := 7) rfl)
theorem dX6_isNowhere_38 : decode cX6_isNowhere 38 = Except.ok (Instr.goto 4, 3) := vyd_167 (vyb_cX6_isNowhere_3 (i := 8) rfl) (vyb_cX6_isNowhere_3 (i := 9) rfl) (vyb_cX6_isNowhere_4 (i := 0) rfl) (by decide +kernel)
theorem dX6_isNowhere_41 : decode cX6_isNowhere 41 = Except.ok (Instr.iconst 0, 1) := vyd_3 (vyb_cX6_isNowhere_4 (i := 1) rfl)
theorem dX6_isNowhere_42 : decode cX6_isNowhere 42 = Except.ok (Instr.ireturn, 1) := vyd_172 (vyb_cX6_isNowhere_4 (i := 2) rfl)
theorem vyb_cX6_stand_0 {i : Nat} {b : UInt8} (h : ([0x2a, 0x1b, 0xb8, 0x00, 0xbb, 0x9a, 0x00, 0x0d, 0x1c, 0x03] : List UInt8)[i]? = some b) : vy_8 cX6_stand (0 + i) b := vy_in (n := 10) (by decide +kernel) h
theorem vyb_cX6_stand_1 {i : Nat} {b : UInt8} (h : ([0x10, 0x14, 0xb8, 0x00, 0x2c, 0x9a, 0x00, 0x07, 0x04, 0xa7] : List UInt8)[i]? = some b) : vy_8 cX6_stand (10 + i) b := vy_in (n := 10) (by decide +kernel) h
theorem vyb_cX6_stand_2 {i : Nat} {b : UInt8} (h : ([0x00, 0x04, 0x03, 0x04, 0xb6, 0x00, 0x6e, 0x99, 0x00, 0x05] : List UInt8)[i]? = some b) : vy_8 cX6_stand (20 + i) b := vy_in (n := 10) (by decide +kernel) h
theorem vyb_cX6_stand_3 {i : Nat} {b : UInt8} (h : ([0x03, 0xac, 0x1c, 0x2a, 0x04, 0xb6, 0x00, 0x5b, 0xa4, 0x00] : List UInt8)[i]? = some b) : vy_8 cX6_stand (30 + i) b := vy_in (n := 10) (by decide +kernel) h
theorem vyb_cX6_stand_4 {i : Nat} {b : UInt8} (h : ([0x06, 0x10, 0xf7, 0xac, 0x2a, 0xb4, 0x00, 0x19, 0x1b, 0x32] : List UInt8)[i]? = some b) : vy_8 cX6_stand (40 + i) b := vy_in (n := 10) (by decide +kernel) h
theorem vyb_cX6_stand_5 {i : Nat} {b : UInt8} (h : ([0x04, 0xb5, 0x00, 0x43, 0x2a, 0xb4, 0x00, 0x19, 0x1b, 0x32] : List UInt8)[i]? = some b) : vy_8 cX6_stand (50 + i) b := vy_in (n := 10) (by decide +kernel) h
theorem vyb_cX6_stand_6 {i : Nat} {b : UInt8} (h : ([0x1c, 0xb5, 0x00, 0xbe, 0x2a, 0xb4, 0x00, 0x19, 0x1b, 0x32] : List UInt8)[i]? = some b) : vy_8 cX6_stand (60 + i) b := vy_in (n := 10) (by decide +kernel) h
theorem vyb_cX6_stand_7 {i : Nat} {b : UInt8} (h : ([0x02, 0xb5, 0x00, 0xc1, 0x1c, 0xac] : List UInt8)[i]? = some b) : vy_8 cX6_stand (70 + i) b := vy_in (n := 6) (by decide +kernel) h
theorem dX6_stand_0 : decode cX6_stand 0 = Except.ok (Instr.aload_n 0, 1) := vyd_42 (vyb_cX6_stand_0 (i := 0) rfl)
theorem dX6_stand_1 : decode cX6_stand 1 = Except.ok (Instr.iload_n 1, 1) := vyd_27 (vyb_cX6_stand_0 (i := 1) rfl)
theorem dX6_stand_2 : decode cX6_stand 2 = Except.ok (Instr.invokestatic 187, 3) := vyd_184 (vyb_cX6_stand_0 (i := 2) rfl) (vyb_cX6_stand_0 (i := 3) rfl) (vyb_cX6_stand_0 (i := 4) rfl) rfl
theorem dX6_stand_5 : decode cX6_stand 5 = Except.ok (Instr.ifCond .ne 13, 3) := vyd_154 (vyb_cX6_stand_0 (i := 5) rfl) (vyb_cX6_stand_0 (i := 6) rfl) (vyb_cX6_stand_0 (i := 7) rfl) (by decide +kernel)
theorem dX6_stand_8 : decode cX6_stand 8 = Except.ok (Instr.iload_n 2, 1) := vyd_28 (vyb_cX6_stand_0 (i := 8) rfl)
theorem dX6_stand_9 : decode cX6_stand 9 = Except.ok (Instr.iconst 0, 1) := vyd_3 (vyb_cX6_stand_0 (i := 9) rfl)
theorem dX6_stand_10 : decode cX6_stand 10 = Except.ok (Instr.bipush 20, 2) := vyd_16 (vyb_cX6_stand_1 (i := 0) rfl) (vyb_cX6_stand_1 (i := 1) rfl) (by decide +kernel)
theorem dX6_stand_12 : decode cX6_stand 12 = Except.ok (Instr.invokestatic 44, 3) := vyd_184 (vyb_cX6_stand_1 (i := 2) rfl) (vyb_cX6_stand_1 (i := 3) rfl) (vyb_cX6_stand_1 (i := 4) rfl) rfl
theorem dX6_stand_15 : decode cX6_stand 15 = Except.ok (Instr.ifCond .ne 7, 3) := vyd_154 (vyb_cX6_stand_1 (i := 5) rfl) (vyb_cX6_stand_1 (i := 6) rfl) (vyb_cX6_stand_1 (i := 7) rfl) (by decide +kernel)
theorem dX6_stand_18 : decode cX6_stand 18 = Except.ok (Instr.iconst 1, 1) := vyd_4 (vyb_cX6_stand_1 (i := 8) rfl)
theorem dX6_stand_19 : decode cX6_stand 19 = Except.ok (Instr.goto 4, 3) := vyd_167 (vyb_cX6_stand_1 (i := 9) rfl) (vyb_cX6_stand_2 (i := 0) rfl) (vyb_cX6_stand_2 (i := 1) rfl) (by decide +kernel)
theorem dX6_stand_22 : decode cX6_stand 22 = Except.ok (Instr.iconst 0, 1) := vyd_3 (vyb_cX6_stand_2 (i := 2) rfl)
theorem dX6_stand_23 : decode cX6_stand 23 = Except.ok (Instr.iconst 1, 1) := vyd_4 (vyb_cX6_stand_2 (i := 3) rfl)
theorem dX6_stand_24 : decode cX6_stand 24 = Except.ok (Instr.invokevirtual 110, 3) := vyd_182 (vyb_cX6_stand_2 (i := 4) rfl) (vyb_cX6_stand_2 (i := 5) rfl) (vyb_cX6_stand_2 (i := 6) rfl) rfl
theorem dX6_stand_27 : decode cX6_stand 27 = Except.ok (Instr.ifCond .eq 5, 3) := vyd_153 (vyb_cX6_stand_2 (i := 7) rfl) (vyb_cX6_stand_2 (i := 8) rfl) (vyb_cX6_stand_2 (i := 9) rfl) (by decide +kernel)
theorem dX6_stand_30 : decode cX6_stand 30 = Except.ok (Instr.iconst 0, 1) := vyd_3 (vyb_cX6_stand_3 (i := 0) rfl)
theorem dX6_stand_31 : decode cX6_stand 31 = Except.ok (Instr.ireturn, 1) := vyd_172 (vyb_cX6_stand_3 (i := 1) rfl)
theorem dX6_stand_32 : decode cX6_stand 32 = Except.ok (Instr.iload_n 2, 1) := vyd_28 (vyb_cX6_stand_3 (i := 2) rfl)
theorem dX6_stand_33 : decode cX6_stand 33 = Except.ok (Instr.aload_n 0, 1) := vyd_42 (vyb_cX6_stand_3 (i := 3) rfl)
theorem dX6_stand_34 : decode cX6_stand 34 = Except.ok (Instr.iconst 1, 1) := vyd_4 (vyb_cX6_stand_3 (i := 4) rfl)
theorem dX6_stand_35 : decode cX6_stand 35 = Except.ok (Instr.invokevirtual 91, 3) := vyd_182 (vyb_cX6_stand_3 (i := 5) rfl) (vyb_cX6_stand_3 (i := 6) rfl) (vyb_cX6_stand_3 (i := 7) rfl) rfl
theorem dX6_stand_38 : decode cX6_stand 38 = Except.ok (Instr.if_icmp .le 6, 3) := vyd_164 (vyb_cX6_stand_3 (i := 8) rfl) (vyb_cX6_stand_3 (i := 9) rfl) (vyb_cX6_stand_4 (i := 0) rfl) (by decide +kernel)
theorem dX6_stand_41 : decode cX6_stand 41 = Except.ok (Instr.bipush (-9), 2) := vyd_16 (vyb_cX6_stand_4 (i := 1) rfl) (vyb_cX6_stand_4 (i := 2) rfl) (by decide +kernel)
theorem dX6_stand_43 : decode cX6_stand 43 = Except.ok (Instr.ireturn, 1) := vyd_172 (vyb_cX6_stand_4 (i := 3) rfl)
theorem dX6_stand_44 : decode cX6_stand 44 = Except.ok (Instr.aload_n 0, 1) := vyd_42 (vyb_cX6_stand_4 (i := 4) rfl)
theorem dX6_stand_45 : decode cX6_stand 45 = Except.ok (Instr.getfield 25, 3) := vyd_180 (vyb_cX6_stand_4 (i := 5) rfl) (vyb_cX6_stand_4 (i := 6) rfl) (vyb_cX6_stand_4 (i := 7) rfl) rfl
theorem dX6_stand_48 : decode cX6_stand 48 = Except.ok (Instr.iload_n 1, 1) := vyd_27 (vyb_cX6_stand_4 (i := 8) rfl)
theorem dX6_stand_49 : decode cX6_stand 49 = Except.ok (Instr.aaload, 1) := vyd_50 (vyb_cX6_stand_4 (i := 9) rfl)
theorem dX6_stand_50 : decode cX6_stand 50 = Except.ok (Instr.iconst 1, 1) := vyd_4 (vyb_cX6_stand_5 (i := 0) rfl)
theorem dX6_stand_51 : decode cX6_stand 51 = Except.ok (Instr.putfield 67, 3) := vyd_181 (vyb_cX6_stand_5 (i := 1) rfl) (vyb_cX6_stand_5 (i := 2) rfl) (vyb_cX6_stand_5 (i := 3) rfl) rfl
theorem dX6_stand_54 : decode cX6_stand 54 = Except.ok (Instr.aload_n 0, 1) := vyd_42 (vyb_cX6_stand_5 (i := 4) rfl)
theorem dX6_stand_55 : decode cX6_stand 55 = Except.ok (Instr.getfield 25, 3) := vyd_180 (vyb_cX6_stand_5 (i := 5) rfl) (vyb_cX6_stand_5 (i := 6) rfl) (vyb_cX6_stand_5 (i := 7) rfl) rfl
theorem dX6_stand_58 : decode cX6_stand 58 = Except.ok (Instr.iload_n 1, 1) := vyd_27 (vyb_cX6_stand_5 (i := 8) rfl)
theorem dX6_stand_59 : decode cX6_stand 59 = Except.ok (Instr.aaload, 1) := vyd_50 (vyb_cX6_stand_5 (i := 9) rfl)
theorem dX6_stand_60 : decode cX6_stand 60 = Except.ok (Instr.iload_n 2, 1) := vyd_28 (vyb_cX6_stand_6 (i := 0) rfl)
theorem dX6_stand_61 : decode cX6_stand 61 = Except.ok (Instr.putfield 190, 3) := vyd_181 (vyb_cX6_stand_6 (i := 1) rfl) (vyb_cX6_stand_6 (i := 2) rfl) (vyb_cX6_stand_6 (i := 3) rfl) rfl
theorem dX6_stand_64 : decode cX6_stand 64 = Except.ok (Instr.aload_n 0, 1) := vyd_42 (vyb_cX6_stand_6 (i := 4) rfl)
theorem dX6_stand_65 : decode cX6_stand 65 = Except.ok (Instr.getfield 25, 3) := vyd_180 (vyb_cX6_stand_6 (i := 5) rfl) (vyb_cX6_stand_6 (i := 6) rfl) (vyb_cX6_stand_6 (i := 7) rfl) rfl
theorem dX6_stand_68 : decode cX6_stand 68 = Except.ok (Instr.iload_n 1, 1) := vyd_27 (vyb_cX6_stand_6 (i := 8) rfl)
theorem dX6_stand_69 : decode cX6_stand 69 = Except.ok (Instr.aaload, 1) := vyd_50 (vyb_cX6_stand_6 (i := 9) rfl)
theorem dX6_stand_70 : decode cX6_stand 70 = Except.ok (Instr.iconst (-1), 1) := vyd_2 (vyb_cX6_stand_7 (i := 0) rfl)
theorem dX6_stand_71 : decode cX6_stand 71 = Except.ok (Instr.putfield 193, 3) := vyd_181 (vyb_cX6_stand_7 (i := 1) rfl) (vyb_cX6_stand_7 (i := 2) rfl) (vyb_cX6_stand_7 (i := 3) rfl) rfl
theorem dX6_stand_74 : decode cX6_stand 74 = Except.ok (Instr.iload_n 2, 1) := vyd_28 (vyb_cX6_stand_7 (i := 4) rfl)
theorem dX6_stand_75 : decode cX6_stand 75 = Except.ok (Instr.ireturn, 1) := vyd_172 (vyb_cX6_stand_7 (i := 5) rfl)
theorem vyb_cX6_forth_0 {i : Nat} {b : UInt8} (h : ([0x2a, 0x1b, 0xb6, 0x00, 0xc2, 0x99, 0x00, 0x05, 0x03, 0xac] : List UInt8)[i]? = some b) : vy_8 cX6_forth (0 + i) b := vy_in (n := 10) (by decide +kernel) h
theorem vyb_cX6_forth_1 {i : Nat} {b : UInt8} (h : ([0x2a, 0xb4, 0x00, 0x19, 0x1b, 0x32, 0x4d, 0x2c, 0xb4, 0x00] : List UInt8)[i]? = some b) : vy_8 cX6_forth (10 + i) b := vy_in (n := 10) (by decide +kernel) h
theorem vyb_cX6_forth_2 {i : Nat} {b : UInt8} (h : ([0x43, 0x05, 0x9f, 0x00, 0x0f, 0x2c, 0xb4, 0x00, 0xbe, 0x2a] : List UInt8)[i]? = some b) : vy_8 cX6_forth (20 + i) b := vy_in (n := 10) (by decide +kernel) h
theorem vyb_cX6_forth_3 {i : Nat} {b : UInt8} (h : ([0x04, 0xb6, 0x00, 0x5b, 0xa0, 0x00, 0x06, 0x10, 0xf7, 0xac] : List UInt8)[i]? = some b) : vy_8 cX6_forth (30 + i) b := vy_in (n := 10) (by decide +kernel) h
theorem vyb_cX6_forth_4 {i : Nat} {b : UInt8} (h : ([0x2c, 0x2c, 0xb4, 0x00, 0xbe, 0xb5, 0x00, 0xc1, 0x2c, 0x59] : List UInt8)[i]? = some b) : vy_8 cX6_forth (40 + i) b := vy_in (n := 10) (by decide +kernel) h
theorem vyb_cX6_forth_5 {i : Nat} {b : UInt8} (h : ([0xb4, 0x00, 0xbe, 0x04, 0x60, 0xb5, 0x00, 0xbe, 0x2a, 0x04] : List UInt8)[i]? = some b) : vy_8 cX6_forth (50 + i) b := vy_in (n := 10) (by decide +kernel) h
theorem vyb_cX6_forth_6 {i : Nat} {b : UInt8} (h : ([0x2c, 0xb4, 0x00, 0xc1, 0xb6, 0x00, 0x83, 0xac] : List UInt8)[i]? = some b) : vy_8 cX6_forth (60 + i) b := vy_in (n := 8) (by decide +kernel) h
theorem dX6_forth_0 : decode cX6_forth 0 = Except.ok (Instr.aload_n 0, 1) := vyd_42 (vyb_cX6_forth_0 (i := 0) rfl)
theorem dX6_forth_1 : decode cX6_forth 1 = Except.ok (Instr.iload_n 1, 1) := vyd_27 (vyb_cX6_forth_0 (i := 1) rfl)
theorem dX6_forth_2 : decode cX6_forth 2 = Except.ok (Instr.invokevirtual 194, 3) := vyd_182 (vyb_cX6_forth_0 (i := 2) rfl) (vyb_cX6_forth_0 (i := 3) rfl) (vyb_cX6_forth_0 (i := 4) rfl) rfl
theorem dX6_forth_5 : decode cX6_forth 5 = Except.ok (Instr.ifCond .eq 5, 3) := vyd_153 (vyb_cX6_forth_0 (i := 5) rfl) (vyb_cX6_forth_0 (i := 6) rfl) (vyb_cX6_forth_0 (i := 7) rfl) (by decide +kernel)
theorem dX6_forth_8 : decode cX6_forth 8 = Except.ok (Instr.iconst 0, 1) := vyd_3 (vyb_cX6_forth_0 (i := 8) rfl)
theorem dX6_forth_9 : decode cX6_forth 9 = Except.ok (Instr.ireturn, 1) := vyd_172 (vyb_cX6_forth_0 (i := 9) rfl)
theorem dX6_forth_10 : decode cX6_forth 10 = Except.ok (Instr.aload_n 0, 1) := vyd_42 (vyb_cX6_forth_1 (i := 0) rfl)
theorem dX6_forth_11 : decode cX6_forth 11 = Except.ok (Instr.getfield 25, 3) := vyd_180 (vyb_cX6_forth_1 (i := 1) rfl) (vyb_cX6_forth_1 (i := 2) rfl) (vyb_cX6_forth_1 (i := 3) rfl) rfl
theorem dX6_forth_14 : decode cX6_forth 14 = Except.ok (Instr.iload_n 1, 1) := vyd_27 (vyb_cX6_forth_1 (i := 4) rfl)
theorem dX6_forth_15 : decode cX6_forth 15 = Except.ok (Instr.aaload, 1) := vyd_50 (vyb_cX6_forth_1 (i := 5) rfl)
theorem dX6_forth_16 : decode cX6_forth 16 = Except.ok (Instr.astore_n 2, 1) := vyd_77 (vyb_cX6_forth_1 (i := 6) rfl)
theorem dX6_forth_17 : decode cX6_forth 17 = Except.ok (Instr.aload_n 2, 1) := vyd_44 (vyb_cX6_forth_1 (i := 7) rfl)
theorem dX6_forth_18 : decode cX6_forth 18 = Except.ok (Instr.getfield 67, 3) := vyd_180 (vyb_cX6_forth_1 (i := 8) rfl) (vyb_cX6_forth_1 (i := 9) rfl) (vyb_cX6_forth_2 (i := 0) rfl) rfl
theorem dX6_forth_21 : decode cX6_forth 21 = Except.ok (Instr.iconst 2, 1) := vyd_5 (vyb_cX6_forth_2 (i := 1) rfl)
theorem dX6_forth_22 : decode cX6_forth 22 = Except.ok (Instr.if_icmp .eq 15, 3) := vyd_159 (vyb_cX6_forth_2 (i := 2) rfl) (vyb_cX6_forth_2 (i := 3) rfl) (vyb_cX6_forth_2 (i := 4) rfl) (by decide +kernel)
theorem dX6_forth_25 : decode cX6_forth 25 = Except.ok (Instr.aload_n 2, 1) := vyd_44 (vyb_cX6_forth_2 (i := 5) rfl)
theorem dX6_forth_26 : decode cX6_forth 26 = Except.ok (Instr.getfield 190, 3) := vyd_180 (vyb_cX6_forth_2 (i := 6) rfl) (vyb_cX6_forth_2 (i := 7) rfl) (vyb_cX6_forth_2 (i := 8) rfl) rfl
theorem dX6_forth_29 : decode cX6_forth 29 = Except.ok (Instr.aload_n 0, 1) := vyd_42 (vyb_cX6_forth_2 (i := 9) rfl)
theorem dX6_forth_30 : decode cX6_forth 30 = Except.ok (Instr.iconst 1, 1) := vyd_4 (vyb_cX6_forth_3 (i := 0) rfl)
theorem dX6_forth_31 : decode cX6_forth 31 = Except.ok (Instr.invokevirtual 91, 3) := vyd_182 (vyb_cX6_forth_3 (i := 1) rfl) (vyb_cX6_forth_3 (i := 2) rfl) (vyb_cX6_forth_3 (i := 3) rfl) rfl
theorem dX6_forth_34 : decode cX6_forth 34 = Except.ok (Instr.if_icmp .ne 6, 3) := vyd_160 (vyb_cX6_forth_3 (i := 4) rfl) (vyb_cX6_forth_3 (i := 5) rfl) (vyb_cX6_forth_3 (i := 6) rfl) (by decide +kernel)
theorem dX6_forth_37 : decode cX6_forth 37 = Except.ok (Instr.bipush (-9), 2) := vyd_16 (vyb_cX6_forth_3 (i := 7) rfl) (vyb_cX6_forth_3 (i := 8) rfl) (by decide +kernel)
theorem dX6_forth_39 : decode cX6_forth 39 = Except.ok (Instr.ireturn, 1) := vyd_172 (vyb_cX6_forth_3 (i := 9) rfl)
theorem dX6_forth_40 : decode cX6_forth 40 = Except.ok (Instr.aload_n 2, 1) := vyd_44 (vyb_cX6_forth_4 (i := 0) rfl)
theorem dX6_forth_41 : decode cX6_forth 41 = Except.ok (Instr.aload_n 2, 1) := vyd_44 (vyb_cX6_forth_4 (i := 1) rfl)
theorem dX6_forth_42 : decode cX6_forth 42 = Except.ok (Instr.getfield 190, 3) := vyd_180 (vyb_cX6_forth_4 (i := 2) rfl) (vyb_cX6_forth_4 (i := 3) rfl) (vyb_cX6_forth_4 (i := 4) rfl) rfl
theorem dX6_forth_45 : decode cX6_forth 45 = Except.ok (Instr.putfield 193, 3) := vyd_181 (vyb_cX6_forth_4 (i := 5) rfl) (vyb_cX6_forth_4 (i := 6) rfl) (vyb_cX6_forth_4 (i := 7) rfl) rfl
theorem dX6_forth_48 : decode cX6_forth 48 = Except.ok (Instr.aload_n 2, 1) := vyd_44 (vyb_cX6_forth_4 (i := 8) rfl)
theorem dX6_forth_49 : decode cX6_forth 49 = Except.ok (Instr.dup, 1) := vyd_89 (vyb_cX6_forth_4 (i := 9) rfl)
theorem dX6_forth_50 : decode cX6_forth 50 = Except.ok (Instr.getfield 190, 3) := vyd_180 (vyb_cX6_forth_5 (i := 0) rfl) (vyb_cX6_forth_5 (i := 1) rfl) (vyb_cX6_forth_5 (i := 2) rfl) rfl
theorem dX6_forth_53 : decode cX6_forth 53 = Except.ok (Instr.iconst 1, 1) := vyd_4 (vyb_cX6_forth_5 (i := 3) rfl)
theorem dX6_forth_54 : decode cX6_forth 54 = Except.ok (Instr.iadd, 1) := vyd_96 (vyb_cX6_forth_5 (i := 4) rfl)
theorem dX6_forth_55 : decode cX6_forth 55 = Except.ok (Instr.putfield 190, 3) := vyd_181 (vyb_cX6_forth_5 (i := 5) rfl) (vyb_cX6_forth_5 (i := 6) rfl) (vyb_cX6_forth_5 (i := 7) rfl) rfl
theorem dX6_forth_58 : decode cX6_forth 58 = Except.ok (Instr.aload_n 0, 1) := vyd_42 (vyb_cX6_forth_5 (i := 8) rfl)
theorem dX6_forth_59 : decode cX6_forth 59 = Except.ok (Instr.iconst 1, 1) := vyd_4 (vyb_cX6_forth_5 (i := 9) rfl)
theorem dX6_forth_60 : decode cX6_forth 60 = Except.ok (Instr.aload_n 2, 1) := vyd_44 (vyb_cX6_forth_6 (i := 0) rfl)
theorem dX6_forth_61 : decode cX6_forth 61 = Except.ok (Instr.getfield 193, 3) := vyd_180 (vyb_cX6_forth_6 (i := 1) rfl) (vyb_cX6_forth_6 (i := 2) rfl) (vyb_cX6_forth_6 (i := 3) rfl) rfl
theorem dX6_forth_64 : decode cX6_forth 64 = Except.ok (Instr.invokevirtual 131, 3) := vyd_182 (vyb_cX6_forth_6 (i := 4) rfl) (vyb_cX6_forth_6 (i := 5) rfl) (vyb_cX6_forth_6 (i := 6) rfl) rfl
theorem dX6_forth_67 : decode cX6_forth 67 = Except.ok (Instr.ireturn, 1) := vyd_172 (vyb_cX6_forth_6 (i := 7) rfl)
theorem vyb_cX6_back_0 {i : Nat} {b : UInt8} (h : ([0x2a, 0x1b, 0xb6, 0x00, 0xc2, 0x99, 0x00, 0x05, 0x03, 0xac] : List UInt8)[i]? = some b) : vy_8 cX6_back (0 + i) b := vy_in (n := 10) (by decide +kernel) h
theorem vyb_cX6_back_1 {i : Nat} {b : UInt8} (h : ([0x2a, 0xb4, 0x00, 0x19, 0x1b, 0x32, 0x4d, 0x2c, 0xb4, 0x00] : List UInt8)[i]? = some b) : vy_8 cX6_back (10 + i) b := vy_in (n := 10) (by decide +kernel) h
theorem vyb_cX6_back_2 {i : Nat} {b : UInt8} (h : ([0x43, 0x05, 0x9f, 0x00, 0x0a, 0x2c, 0xb4, 0x00, 0xbe, 0x9a] : List UInt8)[i]? = some b) : vy_8 cX6_back (20 + i) b := vy_in (n := 10) (by decide +kernel) h
theorem vyb_cX6_back_3 {i : Nat} {b : UInt8} (h : ([0x00, 0x06, 0x10, 0xf7, 0xac, 0x2c, 0x59, 0xb4, 0x00, 0xbe] : List UInt8)[i]? = some b) : vy_8 cX6_back (30 + i) b := vy_in (n := 10) (by decide +kernel) h
theorem vyb_cX6_back_4 {i : Nat} {b : UInt8} (h : ([0x04, 0x64, 0xb5, 0x00, 0xbe, 0x2c, 0x2c, 0xb4, 0x00, 0xbe] : List UInt8)[i]? = some b) : vy_8 cX6_back (40 + i) b := vy_in (n := 10) (by decide +kernel) h
theorem vyb_cX6_back_5 {i : Nat} {b : UInt8} (h : ([0xb5, 0x00, 0xc1, 0x2a, 0x04, 0x2c, 0xb4, 0x00, 0xc1, 0xb6] : List UInt8)[i]? = some b) : vy_8 cX6_back (50 + i) b := vy_in (n := 10) (by decide +kernel) h
theorem vyb_cX6_back_6 {i : Nat} {b : UInt8} (h : ([0x00, 0x83, 0xac] : List UInt8)[i]? = some b) : vy_8 cX6_back (60 + i) b := vy_in (n := 3) (by decide +kernel) h
theorem dX6_back_0 : decode cX6_back 0 = Except.ok (Instr.aload_n 0, 1) := vyd_42 (vyb_cX6_back_0 (i := 0) rfl)
theorem dX6_back_1 : decode cX6_back 1 = Except.ok (Instr.iload_n 1, 1) := vyd_27 (vyb_cX6_back_0 (i := 1) rfl)
theorem dX6_back_2 : decode cX6_back 2 = Except.ok (Instr.invokevirtual 194, 3) := vyd_182 (vyb_cX6_back_0 (i := 2) rfl) (vyb_cX6_back_0 (i := 3) rfl) (vyb_cX6_back_0 (i := 4) rfl) rfl
theorem dX6_back_5 : decode cX6_back 5 = Except.ok (Instr.ifCond .eq 5, 3) := vyd_153 (vyb_cX6_back_0 (i := 5) rfl) (vyb_cX6_back_0 (i := 6) rfl) (vyb_cX6_back_0 (i := 7) rfl) (by decide +kernel)
theorem dX6_back_8 : decode cX6_back 8 = Except.ok (Instr.iconst 0, 1) := vyd_3 (vyb_cX6_back_0 (i := 8) rfl)
theorem dX6_back_9 : decode cX6_back 9 = Except.ok (Instr.ireturn, 1) := vyd_172 (vyb_cX6_back_0 (i := 9) rfl)
theorem dX6_back_10 : decode cX6_back 10 = Except.ok (Instr.aload_n 0, 1) := vyd_42 (vyb_cX6_back_1 (i := 0) rfl)
theorem dX6_back_11 : decode cX6_back 11 = Except.ok (Instr.getfield 25, 3) := vyd_180 (vyb_cX6_back_1 (i := 1) rfl) (vyb_cX6_back_1 (i := 2) rfl) (vyb_cX6_back_1 (i := 3) rfl) rfl
theorem dX6_back_14 : decode cX6_back 14 = Except.ok (Instr.iload_n 1, 1) := vyd_27 (vyb_cX6_back_1 (i := 4) rfl)
theorem dX6_back_15 : decode cX6_back 15 = Except.ok (Instr.aaload, 1) := vyd_50 (vyb_cX6_back_1 (i := 5) rfl)
theorem dX6_back_16 : decode cX6_back 16 = Except.ok (Instr.astore_n 2, 1) := vyd_77 (vyb_cX6_back_1 (i := 6) rfl)
theorem dX6_back_17 : decode cX6_back 17 = Except.ok (Instr.aload_n 2, 1) := vyd_44 (vyb_cX6_back_1 (i := 7) rfl)
theorem dX6_back_18 : decode cX6_back 18 = Except.ok (Instr.getfield 67, 3) := vyd_180 (vyb_cX6_back_1 (i := 8) rfl) (vyb_cX6_back_1 (i := 9) rfl) (vyb_cX6_back_2 (i := 0) rfl) rfl
theorem dX6_back_21 : decode cX6_back 21 = Except.ok (Instr.iconst 2, 1) := vyd_5 (vyb_cX6_back_2 (i := 1) rfl)
theorem dX6_back_22 : decode cX6_back 22 = Except.ok (Instr.if_icmp .eq 10, 3) := vyd_159 (vyb_cX6_back_2 (i := 2) rfl) (vyb_cX6_back_2 (i := 3) rfl) (vyb_cX6_back_2 (i := 4) rfl) (by decide +kernel)
theorem dX6_back_25 : decode cX6_back 25 = Except.ok (Instr.aload_n 2, 1) := vyd_44 (vyb_cX6_back_2 (i := 5) rfl)
theorem dX6_back_26 : decode cX6_back 26 = Except.ok (Instr.getfield 190, 3) := vyd_180 (vyb_cX6_back_2 (i := 6) rfl) (vyb_cX6_back_2 (i := 7) rfl) (vyb_cX6_back_2 (i := 8) rfl) rfl
theorem dX6_back_29 : decode cX6_back 29 = Except.ok (Instr.ifCond .ne 6, 3) := vyd_154 (vyb_cX6_back_2 (i := 9) rfl) (vyb_cX6_back_3 (i := 0) rfl) (vyb_cX6_back_3 (i := 1) rfl) (by decide +kernel)
theorem dX6_back_32 : decode cX6_back 32 = Except.ok (Instr.bipush (-9), 2) := vyd_16 (vyb_cX6_back_3 (i := 2) rfl) (vyb_cX6_back_3 (i := 3) rfl) (by decide +kernel)
theorem dX6_back_34 : decode cX6_back 34 = Except.ok (Instr.ireturn, 1) := vyd_172 (vyb_cX6_back_3 (i := 4) rfl)
theorem dX6_back_35 : decode cX6_back 35 = Except.ok (Instr.aload_n 2, 1) := vyd_44 (vyb_cX6_back_3 (i := 5) rfl)
theorem dX6_back_36 : decode cX6_back 36 = Except.ok (Instr.dup, 1) := vyd_89 (vyb_cX6_back_3 (i := 6) rfl)
theorem dX6_back_37 : decode cX6_back 37 = Except.ok (Instr.getfield 190, 3) := vyd_180 (vyb_cX6_back_3 (i := 7) rfl) (vyb_cX6_back_3 (i := 8) rfl) (vyb_cX6_back_3 (i := 9) rfl) rfl
theorem dX6_back_40 : decode cX6_back 40 = Except.ok (Instr.iconst 1, 1) := vyd_4 (vyb_cX6_back_4 (i := 0) rfl)
theorem dX6_back_41 : decode cX6_back 41 = Except.ok (Instr.isub, 1) := vyd_100 (vyb_cX6_back_4 (i := 1) rfl)
theorem dX6_back_42 : decode cX6_back 42 = Except.ok (Instr.putfield 190, 3) := vyd_181 (vyb_cX6_back_4 (i := 2) rfl) (vyb_cX6_back_4 (i := 3) rfl) (vyb_cX6_back_4 (i := 4) rfl) rfl
theorem dX6_back_45 : decode cX6_back 45 = Except.ok (Instr.aload_n 2, 1) := vyd_44 (vyb_cX6_back_4 (i := 5) rfl)
theorem dX6_back_46 : decode cX6_back 46 = Except.ok (Instr.aload_n 2, 1) := vyd_44 (vyb_cX6_back_4 (i := 6) rfl)
theorem dX6_back_47 : decode cX6_back 47 = Except.ok (Instr.getfield 190, 3) := vyd_180 (vyb_cX6_back_4 (i := 7) rfl) (vyb_cX6_back_4 (i := 8) rfl) (vyb_cX6_back_4 (i := 9) rfl) rfl
theorem dX6_back_50 : decode cX6_back 50 = Except.ok (Instr.putfield 193, 3) := vyd_181 (vyb_cX6_back_5 (i := 0) rfl) (vyb_cX6_back_5 (i := 1) rfl) (vyb_cX6_back_5 (i := 2) rfl) rfl
theorem dX6_back_53 : decode cX6_back 53 = Except.ok (Instr.aload_n 0, 1) := vyd_42 (vyb_cX6_back_5 (i := 3) rfl)
theorem dX6_back_54 : decode cX6_back 54 = Except.ok (Instr.iconst 1, 1) := vyd_4 (vyb_cX6_back_5 (i := 4) rfl)
theorem dX6_back_55 : decode cX6_back 55 = Except.ok (Instr.aload_n 2, 1) := vyd_44 (vyb_cX6_back_5 (i := 5) rfl)
theorem dX6_back_56 : decode cX6_back 56 = Except.ok (Instr.getfield 193, 3) := vyd_180 (vyb_cX6_back_5 (i := 6) rfl) (vyb_cX6_back_5 (i := 7) rfl) (vyb_cX6_back_5 (i := 8) rfl) rfl
theorem dX6_back_59 : decode cX6_back 59 = Except.ok (Instr.invokevirtual 131, 3) := vyd_182 (vyb_cX6_back_5 (i := 9) rfl) (vyb_cX6_back_6 (i := 0) rfl) (vyb_cX6_back_6 (i := 1) rfl) rfl
theorem dX6_back_62 : decode cX6_back 62 = Except.ok (Instr.ireturn, 1) := vyd_172 (vyb_cX6_back_6 (i := 2) rfl)
theorem vyb_cX6_takeHeld_0 {i : Nat} {b : UInt8} (h : ([0x2a, 0x1b, 0xb6, 0x00, 0xc2, 0x99, 0x00, 0x05, 0x03, 0xac] : List UInt8)[i]? = some b) : vy_8 cX6_takeHeld (0 + i) b := vy_in (n := 10) (by decide +kernel) h
theorem vyb_cX6_takeHeld_1 {i : Nat} {b : UInt8} (h : ([0x2a, 0xb4, 0x00, 0x19, 0x1b, 0x32, 0x4d, 0x2c, 0xb4, 0x00] : List UInt8)[i]? = some b) : vy_8 cX6_takeHeld (10 + i) b := vy_in (n := 10) (by decide +kernel) h
theorem vyb_cX6_takeHeld_2 {i : Nat} {b : UInt8} (h : ([0x43, 0x05, 0x9f, 0x00, 0x0b, 0x2c, 0xb4, 0x00, 0xc1, 0x02] : List UInt8)[i]? = some b) : vy_8 cX6_takeHeld (20 + i) b := vy_in (n := 10) (by decide +kernel) h
theorem vyb_cX6_takeHeld_3 {i : Nat} {b : UInt8} (h : ([0xa0, 0x00, 0x06, 0x10, 0xf7, 0xac, 0x2a, 0xb4, 0x00, 0x0a] : List UInt8)[i]? = some b) : vy_8 cX6_takeHeld (30 + i) b := vy_in (n := 10) (by decide +kernel) h
theorem vyb_cX6_takeHeld_4 {i : Nat} {b : UInt8} (h : ([0x04, 0xb6, 0x00, 0x30, 0xc0, 0x00, 0x07, 0x2c, 0xb4, 0x00] : List UInt8)[i]? = some b) : vy_8 cX6_takeHeld (40 + i) b := vy_in (n := 10) (by decide +kernel) h
theorem vyb_cX6_takeHeld_5 {i : Nat} {b : UInt8} (h : ([0xc1, 0xb6, 0x00, 0x51, 0x57, 0x2c, 0x59, 0xb4, 0x00, 0xbe] : List UInt8)[i]? = some b) : vy_8 cX6_takeHeld (50 + i) b := vy_in (n := 10) (by decide +kernel) h
theorem vyb_cX6_takeHeld_6 {i : Nat} {b : UInt8} (h : ([0x2c, 0xb4, 0x00, 0xc1, 0x2c, 0xb4, 0x00, 0xbe, 0xa2, 0x00] : List UInt8)[i]? = some b) : vy_8 cX6_takeHeld (60 + i) b := vy_in (n := 10) (by decide +kernel) h
theorem vyb_cX6_takeHeld_7 {i : Nat} {b : UInt8} (h : ([0x07, 0x04, 0xa7, 0x00, 0x04, 0x03, 0xb8, 0x00, 0x57, 0x64] : List UInt8)[i]? = some b) : vy_8 cX6_takeHeld (70 + i) b := vy_in (n := 10) (by decide +kernel) h
theorem vyb_cX6_takeHeld_8 {i : Nat} {b : UInt8} (h : ([0xb5, 0x00, 0xbe, 0x2c, 0x02, 0xb5, 0x00, 0xc1, 0x2a, 0x04] : List UInt8)[i]? = some b) : vy_8 cX6_takeHeld (80 + i) b := vy_in (n := 10) (by decide +kernel) h
theorem vyb_cX6_takeHeld_9 {i : Nat} {b : UInt8} (h : ([0x1b, 0xb6, 0x00, 0x4d, 0x2a, 0xb6, 0x00, 0xa4, 0x2c, 0xb4] : List UInt8)[i]? = some b) : vy_8 cX6_takeHeld (90 + i) b := vy_in (n := 10) (by decide +kernel) h
theorem vyb_cX6_takeHeld_10 {i : Nat} {b : UInt8} (h : ([0x00, 0xbe, 0xac] : List UInt8)[i]? = some b) : vy_8 cX6_takeHeld (100 + i) b := vy_in (n := 3) (by decide +kernel) h
theorem dX6_takeHeld_0 : decode cX6_takeHeld 0 = Except.ok (Instr.aload_n 0, 1) := vyd_42 (vyb_cX6_takeHeld_0 (i := 0) rfl)
theorem dX6_takeHeld_1 : decode cX6_takeHeld 1 = Except.ok (Instr.iload_n 1, 1) := vyd_27 (vyb_cX6_takeHeld_0 (i := 1) rfl)
theorem dX6_takeHeld_2 : decode cX6_takeHeld 2 = Except.ok (Instr.invokevirtual 194, 3) := vyd_182 (vyb_cX6_takeHeld_0 (i := 2) rfl) (vyb_cX6_takeHeld_0 (i := 3) rfl) (vyb_cX6_takeHeld_0 (i := 4) rfl) rfl
theorem dX6_takeHeld_5 : decode cX6_takeHeld 5 = Except.ok (Instr.ifCond .eq 5, 3) := vyd_153 (vyb_cX6_takeHeld_0 (i := 5) rfl) (vyb_cX6_takeHeld_0 (i := 6) rfl) (vyb_cX6_takeHeld_0 (i := 7) rfl) (by decide +kernel)
theorem dX6_takeHeld_8 : decode cX6_takeHeld 8 = Except.ok (Instr.iconst 0, 1) := vyd_3 (vyb_cX6_takeHeld_0 (i := 8) rfl)
theorem dX6_takeHeld_9 : decode cX6_takeHeld 9 = Except.ok (Instr.ireturn, 1) := vyd_172 (vyb_cX6_takeHeld_0 (i := 9) rfl)
theorem dX6_takeHeld_10 : decode cX6_takeHeld 10 = Except.ok (Instr.aload_n 0, 1) := vyd_42 (vyb_cX6_takeHeld_1 (i := 0) rfl)
theorem dX6_takeHeld_11 : decode cX6_takeHeld 11 = Except.ok (Instr.getfield 25, 3) := vyd_180 (vyb_cX6_takeHeld_1 (i := 1) rfl) (vyb_cX6_takeHeld_1 (i := 2) rfl) (vyb_cX6_takeHeld_1 (i := 3) rfl) rfl
theorem dX6_takeHeld_14 : decode cX6_takeHeld 14 = Except.ok (Instr.iload_n 1, 1) := vyd_27 (vyb_cX6_takeHeld_1 (i := 4) rfl)
theorem dX6_takeHeld_15 : decode cX6_takeHeld 15 = Except.ok (Instr.aaload, 1) := vyd_50 (vyb_cX6_takeHeld_1 (i := 5) rfl)
theorem dX6_takeHeld_16 : decode cX6_takeHeld 16 = Except.ok (Instr.astore_n 2, 1) := vyd_77 (vyb_cX6_takeHeld_1 (i := 6) rfl)
theorem dX6_takeHeld_17 : decode cX6_takeHeld 17 = Except.ok (Instr.aload_n 2, 1) := vyd_44 (vyb_cX6_takeHeld_1 (i := 7) rfl)
theorem dX6_takeHeld_18 : decode cX6_takeHeld 18 = Except.ok (Instr.getfield 67, 3) := vyd_180 (vyb_cX6_takeHeld_1 (i := 8) rfl) (vyb_cX6_takeHeld_1 (i := 9) rfl) (vyb_cX6_takeHeld_2 (i := 0) rfl) rfl
theorem dX6_takeHeld_21 : decode cX6_takeHeld 21 = Except.ok (Instr.iconst 2, 1) := vyd_5 (vyb_cX6_takeHeld_2 (i := 1) rfl)
theorem dX6_takeHeld_22 : decode cX6_takeHeld 22 = Except.ok (Instr.if_icmp .eq 11, 3) := vyd_159 (vyb_cX6_takeHeld_2 (i := 2) rfl) (vyb_cX6_takeHeld_2 (i := 3) rfl) (vyb_cX6_takeHeld_2 (i := 4) rfl) (by decide +kernel)
theorem dX6_takeHeld_25 : decode cX6_takeHeld 25 = Except.ok (Instr.aload_n 2, 1) := vyd_44 (vyb_cX6_takeHeld_2 (i := 5) rfl)
theorem dX6_takeHeld_26 : decode cX6_takeHeld 26 = Except.ok (Instr.getfield 193, 3) := vyd_180 (vyb_cX6_takeHeld_2 (i := 6) rfl) (vyb_cX6_takeHeld_2 (i := 7) rfl) (vyb_cX6_takeHeld_2 (i := 8) rfl) rfl
theorem dX6_takeHeld_29 : decode cX6_takeHeld 29 = Except.ok (Instr.iconst (-1), 1) := vyd_2 (vyb_cX6_takeHeld_2 (i := 9) rfl)
theorem dX6_takeHeld_30 : decode cX6_takeHeld 30 = Except.ok (Instr.if_icmp .ne 6, 3) := vyd_160 (vyb_cX6_takeHeld_3 (i := 0) rfl) (vyb_cX6_takeHeld_3 (i := 1) rfl) (vyb_cX6_takeHeld_3 (i := 2) rfl) (by decide +kernel)
theorem dX6_takeHeld_33 : decode cX6_takeHeld 33 = Except.ok (Instr.bipush (-9), 2) := vyd_16 (vyb_cX6_takeHeld_3 (i := 3) rfl) (vyb_cX6_takeHeld_3 (i := 4) rfl) (by decide +kernel)
theorem dX6_takeHeld_35 : decode cX6_takeHeld 35 = Except.ok (Instr.ireturn, 1) := vyd_172 (vyb_cX6_takeHeld_3 (i := 5) rfl)
theorem dX6_takeHeld_36 : decode cX6_takeHeld 36 = Except.ok (Instr.aload_n 0, 1) := vyd_42 (vyb_cX6_takeHeld_3 (i := 6) rfl)
theorem dX6_takeHeld_37 : decode cX6_takeHeld 37 = Except.ok (Instr.getfield 10, 3) := vyd_180 (vyb_cX6_takeHeld_3 (i := 7) rfl) (vyb_cX6_takeHeld_3 (i := 8) rfl) (vyb_cX6_takeHeld_3 (i := 9) rfl) rfl
theorem dX6_takeHeld_40 : decode cX6_takeHeld 40 = Except.ok (Instr.iconst 1, 1) := vyd_4 (vyb_cX6_takeHeld_4 (i := 0) rfl)
theorem dX6_takeHeld_41 : decode cX6_takeHeld 41 = Except.ok (Instr.invokevirtual 48, 3) := vyd_182 (vyb_cX6_takeHeld_4 (i := 1) rfl) (vyb_cX6_takeHeld_4 (i := 2) rfl) (vyb_cX6_takeHeld_4 (i := 3) rfl) rfl
theorem dX6_takeHeld_44 : decode cX6_takeHeld 44 = Except.ok (Instr.checkcast 7, 3) := vyd_192 (vyb_cX6_takeHeld_4 (i := 4) rfl) (vyb_cX6_takeHeld_4 (i := 5) rfl) (vyb_cX6_takeHeld_4 (i := 6) rfl) rfl
theorem dX6_takeHeld_47 : decode cX6_takeHeld 47 = Except.ok (Instr.aload_n 2, 1) := vyd_44 (vyb_cX6_takeHeld_4 (i := 7) rfl)
theorem dX6_takeHeld_48 : decode cX6_takeHeld 48 = Except.ok (Instr.getfield 193, 3) := vyd_180 (vyb_cX6_takeHeld_4 (i := 8) rfl) (vyb_cX6_takeHeld_4 (i := 9) rfl) (vyb_cX6_takeHeld_5 (i := 0) rfl) rfl
theorem dX6_takeHeld_51 : decode cX6_takeHeld 51 = Except.ok (Instr.invokevirtual 81, 3) := vyd_182 (vyb_cX6_takeHeld_5 (i := 1) rfl) (vyb_cX6_takeHeld_5 (i := 2) rfl) (vyb_cX6_takeHeld_5 (i := 3) rfl) rfl
theorem dX6_takeHeld_54 : decode cX6_takeHeld 54 = Except.ok (Instr.pop, 1) := vyd_87 (vyb_cX6_takeHeld_5 (i := 4) rfl)
theorem dX6_takeHeld_55 : decode cX6_takeHeld 55 = Except.ok (Instr.aload_n 2, 1) := vyd_44 (vyb_cX6_takeHeld_5 (i := 5) rfl)
theorem dX6_takeHeld_56 : decode cX6_takeHeld 56 = Except.ok (Instr.dup, 1) := vyd_89 (vyb_cX6_takeHeld_5 (i := 6) rfl)
theorem dX6_takeHeld_57 : decode cX6_takeHeld 57 = Except.ok (Instr.getfield 190, 3) := vyd_180 (vyb_cX6_takeHeld_5 (i := 7) rfl) (vyb_cX6_takeHeld_5 (i := 8) rfl) (vyb_cX6_takeHeld_5 (i := 9) rfl) rfl
theorem dX6_takeHeld_60 : decode cX6_takeHeld 60 = Except.ok (Instr.aload_n 2, 1) := vyd_44 (vyb_cX6_takeHeld_6 (i := 0) rfl)
theorem dX6_takeHeld_61 : decode cX6_takeHeld 61 = Except.ok (Instr.getfield 193, 3) := vyd_180 (vyb_cX6_takeHeld_6 (i := 1) rfl) (vyb_cX6_takeHeld_6 (i := 2) rfl) (vyb_cX6_takeHeld_6 (i := 3) rfl) rfl
theorem dX6_takeHeld_64 : decode cX6_takeHeld 64 = Except.ok (Instr.aload_n 2, 1) := vyd_44 (vyb_cX6_takeHeld_6 (i := 4) rfl)
theorem dX6_takeHeld_65 : decode cX6_takeHeld 65 = Except.ok (Instr.getfield 190, 3) := vyd_180 (vyb_cX6_takeHeld_6 (i := 5) rfl) (vyb_cX6_takeHeld_6 (i := 6) rfl) (vyb_cX6_takeHeld_6 (i := 7) rfl) rfl
theorem dX6_takeHeld_68 : decode cX6_takeHeld 68 = Except.ok (Instr.if_icmp .ge 7, 3) := vyd_162 (vyb_cX6_takeHeld_6 (i := 8) rfl) (vyb_cX6_takeHeld_6 (i := 9) rfl) (vyb_cX6_takeHeld_7 (i := 0) rfl) (by decide +kernel)
theorem dX6_takeHeld_71 : decode cX6_takeHeld 71 = Except.ok (Instr.iconst 1, 1) := vyd_4 (vyb_cX6_takeHeld_7 (i := 1) rfl)
theorem dX6_takeHeld_72 : decode cX6_takeHeld 72 = Except.ok (Instr.goto 4, 3) := vyd_167 (vyb_cX6_takeHeld_7 (i := 2) rfl) (vyb_cX6_takeHeld_7 (i := 3) rfl) (vyb_cX6_takeHeld_7 (i := 4) rfl) (by decide +kernel)
theorem dX6_takeHeld_75 : decode cX6_takeHeld 75 = Except.ok (Instr.iconst 0, 1) := vyd_3 (vyb_cX6_takeHeld_7 (i := 5) rfl)
theorem dX6_takeHeld_76 : decode cX6_takeHeld 76 = Except.ok (Instr.invokestatic 87, 3) := vyd_184 (vyb_cX6_takeHeld_7 (i := 6) rfl) (vyb_cX6_takeHeld_7 (i := 7) rfl) (vyb_cX6_takeHeld_7 (i := 8) rfl) rfl
theorem dX6_takeHeld_79 : decode cX6_takeHeld 79 = Except.ok (Instr.isub, 1) := vyd_100 (vyb_cX6_takeHeld_7 (i := 9) rfl)
theorem dX6_takeHeld_80 : decode cX6_takeHeld 80 = Except.ok (Instr.putfield 190, 3) := vyd_181 (vyb_cX6_takeHeld_8 (i := 0) rfl) (vyb_cX6_takeHeld_8 (i := 1) rfl) (vyb_cX6_takeHeld_8 (i := 2) rfl) rfl
theorem dX6_takeHeld_83 : decode cX6_takeHeld 83 = Except.ok (Instr.aload_n 2, 1) := vyd_44 (vyb_cX6_takeHeld_8 (i := 3) rfl)
theorem dX6_takeHeld_84 : decode cX6_takeHeld 84 = Except.ok (Instr.iconst (-1), 1) := vyd_2 (vyb_cX6_takeHeld_8 (i := 4) rfl)
theorem dX6_takeHeld_85 : decode cX6_takeHeld 85 = Except.ok (Instr.putfield 193, 3) := vyd_181 (vyb_cX6_takeHeld_8 (i := 5) rfl) (vyb_cX6_takeHeld_8 (i := 6) rfl) (vyb_cX6_takeHeld_8 (i := 7) rfl) rfl
theorem dX6_takeHeld_88 : decode cX6_takeHeld 88 = Except.ok (Instr.aload_n 0, 1) := vyd_42 (vyb_cX6_takeHeld_8 (i := 8) rfl)
theorem dX6_takeHeld_89 : decode cX6_takeHeld 89 = Except.ok (Instr.iconst 1, 1) := vyd_4 (vyb_cX6_takeHeld_8 (i := 9) rfl)
theorem dX6_takeHeld_90 : decode cX6_takeHeld 90 = Except.ok (Instr.iload_n 1, 1) := vyd_27 (vyb_cX6_takeHeld_9 (i := 0) rfl)
theorem dX6_takeHeld_91 : decode cX6_takeHeld 91 = Except.ok (Instr.invokevirtual 77, 3) := vyd_182 (vyb_cX6_takeHeld_9 (i := 1) rfl) (vyb_cX6_takeHeld_9 (i := 2) rfl) (vyb_cX6_takeHeld_9 (i := 3) rfl) rfl
theorem dX6_takeHeld_94 : decode cX6_takeHeld 94 = Except.ok (Instr.aload_n 0, 1) := vyd_42 (vyb_cX6_takeHeld_9 (i := 4) rfl)
theorem dX6_takeHeld_95 : decode cX6_takeHeld 95 = Except.ok (Instr.invokevirtual 164, 3) := vyd_182 (vyb_cX6_takeHeld_9 (i := 5) rfl) (vyb_cX6_takeHeld_9 (i := 6) rfl) (vyb_cX6_takeHeld_9 (i := 7) rfl) rfl
theorem dX6_takeHeld_98 : decode cX6_takeHeld 98 = Except.ok (Instr.aload_n 2, 1) := vyd_44 (vyb_cX6_takeHeld_9 (i := 8) rfl)
theorem dX6_takeHeld_99 : decode cX6_takeHeld 99 = Except.ok (Instr.getfield 190, 3) := vyd_180 (vyb_cX6_takeHeld_9 (i := 9) rfl) (vyb_cX6_takeHeld_10 (i := 0) rfl) (vyb_cX6_takeHeld_10 (i := 1) rfl) rfl
theorem dX6_takeHeld_102 : decode cX6_takeHeld 102 = Except.ok (Instr.ireturn, 1) := vyd_172 (vyb_cX6_takeHeld_10 (i := 2) rfl)
theorem vyb_cX6_setHeld_0 {i : Nat} {b : UInt8} (h : ([0x2a, 0x1b, 0xb8, 0x00, 0xbb, 0x04, 0xb6, 0x00, 0x6e, 0x9a] : List UInt8)[i]? = some b) : vy_8 cX6_setHeld (0 + i) b := vy_in (n := 10) (by decide +kernel) h
theorem vyb_cX6_setHeld_1 {i : Nat} {b : UInt8} (h : ([0x00, 0x29, 0x2a, 0x1c, 0x1d, 0xb8, 0x00, 0x71, 0x05, 0xb6] : List UInt8)[i]? = some b) : vy_8 cX6_setHeld (10 + i) b := vy_in (n := 10) (by decide +kernel) h
theorem vyb_cX6_setHeld_2 {i : Nat} {b : UInt8} (h : ([0x00, 0x28, 0x9a, 0x00, 0x1c, 0x2a, 0x2a, 0xb4, 0x00, 0x19] : List UInt8)[i]? = some b) : vy_8 cX6_setHeld (20 + i) b := vy_in (n := 10) (by decide +kernel) h
theorem vyb_cX6_setHeld_3 {i : Nat} {b : UInt8} (h : ([0x1b, 0x32, 0xb4, 0x00, 0x43, 0x9a, 0x00, 0x07, 0x04, 0xa7] : List UInt8)[i]? = some b) : vy_8 cX6_setHeld (30 + i) b := vy_in (n := 10) (by decide +kernel) h
theorem vyb_cX6_setHeld_4 {i : Nat} {b : UInt8} (h : ([0x00, 0x04, 0x03, 0x06, 0xb6, 0x00, 0x28, 0x99, 0x00, 0x05] : List UInt8)[i]? = some b) : vy_8 cX6_setHeld (40 + i) b := vy_in (n := 10) (by decide +kernel) h
theorem vyb_cX6_setHeld_5 {i : Nat} {b : UInt8} (h : ([0x03, 0xac, 0x2a, 0xb4, 0x00, 0x19, 0x1b, 0x32, 0x3a, 0x04] : List UInt8)[i]? = some b) : vy_8 cX6_setHeld (50 + i) b := vy_in (n := 10) (by decide +kernel) h
theorem vyb_cX6_setHeld_6 {i : Nat} {b : UInt8} (h : ([0x19, 0x04, 0xb4, 0x00, 0x43, 0x05, 0x9f, 0x00, 0x0c, 0x19] : List UInt8)[i]? = some b) : vy_8 cX6_setHeld (60 + i) b := vy_in (n := 10) (by decide +kernel) h
theorem vyb_cX6_setHeld_7 {i : Nat} {b : UInt8} (h : ([0x04, 0xb4, 0x00, 0xc1, 0x02, 0xa0, 0x00, 0x06, 0x10, 0xf7] : List UInt8)[i]? = some b) : vy_8 cX6_setHeld (70 + i) b := vy_in (n := 10) (by decide +kernel) h
theorem vyb_cX6_setHeld_8 {i : Nat} {b : UInt8} (h : ([0xac, 0x2a, 0xb4, 0x00, 0x0a, 0x04, 0xb6, 0x00, 0x30, 0xc0] : List UInt8)[i]? = some b) : vy_8 cX6_setHeld (80 + i) b := vy_in (n := 10) (by decide +kernel) h
theorem vyb_cX6_setHeld_9 {i : Nat} {b : UInt8} (h : ([0x00, 0x07, 0x19, 0x04, 0xb4, 0x00, 0xc1, 0x1c, 0x1d, 0xb8] : List UInt8)[i]? = some b) : vy_8 cX6_setHeld (90 + i) b := vy_in (n := 10) (by decide +kernel) h
theorem vyb_cX6_setHeld_10 {i : Nat} {b : UInt8} (h : ([0x00, 0x79, 0xb8, 0x00, 0x46, 0xb6, 0x00, 0xb4, 0x57, 0x2a] : List UInt8)[i]? = some b) : vy_8 cX6_setHeld (100 + i) b := vy_in (n := 10) (by decide +kernel) h
theorem vyb_cX6_setHeld_11 {i : Nat} {b : UInt8} (h : ([0xb6, 0x00, 0xa4, 0x19, 0x04, 0xb4, 0x00, 0xbe, 0xac] : List UInt8)[i]? = some b) : vy_8 cX6_setHeld (110 + i) b := vy_in (n := 9) (by decide +kernel) h
theorem dX6_setHeld_0 : decode cX6_setHeld 0 = Except.ok (Instr.aload_n 0, 1) := vyd_42 (vyb_cX6_setHeld_0 (i := 0) rfl)
theorem dX6_setHeld_1 : decode cX6_setHeld 1 = Except.ok (Instr.iload_n 1, 1) := vyd_27 (vyb_cX6_setHeld_0 (i := 1) rfl)
theorem dX6_setHeld_2 : decode cX6_setHeld 2 = Except.ok (Instr.invokestatic 187, 3) := vyd_184 (vyb_cX6_setHeld_0 (i := 2) rfl) (vyb_cX6_setHeld_0 (i := 3) rfl) (vyb_cX6_setHeld_0 (i := 4) rfl) rfl
theorem dX6_setHeld_5 : decode cX6_setHeld 5 = Except.ok (Instr.iconst 1, 1) := vyd_4 (vyb_cX6_setHeld_0 (i := 5) rfl)
theorem dX6_setHeld_6 : decode cX6_setHeld 6 = Except.ok (Instr.invokevirtual 110, 3) := vyd_182 (vyb_cX6_setHeld_0 (i := 6) rfl) (vyb_cX6_setHeld_0 (i := 7) rfl) (vyb_cX6_setHeld_0 (i := 8) rfl) rfl
theorem dX6_setHeld_9 : decode cX6_setHeld 9 = Except.ok (Instr.ifCond .ne 41, 3) := vyd_154 (vyb_cX6_setHeld_0 (i := 9) rfl) (vyb_cX6_setHeld_1 (i := 0) rfl) (vyb_cX6_setHeld_1 (i := 1) rfl) (by decide +kernel)
theorem dX6_setHeld_12 : decode cX6_setHeld 12 = Except.ok (Instr.aload_n 0, 1) := vyd_42 (vyb_cX6_setHeld_1 (i := 2) rfl)
theorem dX6_setHeld_13 : decode cX6_setHeld 13 = Except.ok (Instr.iload_n 2, 1) := vyd_28 (vyb_cX6_setHeld_1 (i := 3) rfl)
theorem dX6_setHeld_14 : decode cX6_setHeld 14 = Except.ok (Instr.iload_n 3, 1) := vyd_29 (vyb_cX6_setHeld_1 (i := 4) rfl)
theorem dX6_setHeld_15 : decode cX6_setHeld 15 = Except.ok (Instr.invokestatic 113, 3) := vyd_184 (vyb_cX6_setHeld_1 (i := 5) rfl) (vyb_cX6_setHeld_1 (i := 6) rfl) (vyb_cX6_setHeld_1 (i := 7) rfl) rfl
theorem dX6_setHeld_18 : decode cX6_setHeld 18 = Except.ok (Instr.iconst 2, 1) := vyd_5 (vyb_cX6_setHeld_1 (i := 8) rfl)
theorem dX6_setHeld_19 : decode cX6_setHeld 19 = Except.ok (Instr.invokevirtual 40, 3) := vyd_182 (vyb_cX6_setHeld_1 (i := 9) rfl) (vyb_cX6_setHeld_2 (i := 0) rfl) (vyb_cX6_setHeld_2 (i := 1) rfl) rfl
theorem dX6_setHeld_22 : decode cX6_setHeld 22 = Except.ok (Instr.ifCond .ne 28, 3) := vyd_154 (vyb_cX6_setHeld_2 (i := 2) rfl) (vyb_cX6_setHeld_2 (i := 3) rfl) (vyb_cX6_setHeld_2 (i := 4) rfl) (by decide +kernel)
theorem dX6_setHeld_25 : decode cX6_setHeld 25 = Except.ok (Instr.aload_n 0, 1) := vyd_42 (vyb_cX6_setHeld_2 (i := 5) rfl)
theorem dX6_setHeld_26 : decode cX6_setHeld 26 = Except.ok (Instr.aload_n 0, 1) := vyd_42 (vyb_cX6_setHeld_2 (i := 6) rfl)
theorem dX6_setHeld_27 : decode cX6_setHeld 27 = Except.ok (Instr.getfield 25, 3) := vyd_180 (vyb_cX6_setHeld_2 (i := 7) rfl) (vyb_cX6_setHeld_2 (i := 8) rfl) (vyb_cX6_setHeld_2 (i := 9) rfl) rfl
theorem dX6_setHeld_30 : decode cX6_setHeld 30 = Except.ok (Instr.iload_n 1, 1) := vyd_27 (vyb_cX6_setHeld_3 (i := 0) rfl)
theorem dX6_setHeld_31 : decode cX6_setHeld 31 = Except.ok (Instr.aaload, 1) := vyd_50 (vyb_cX6_setHeld_3 (i := 1) rfl)
theorem dX6_setHeld_32 : decode cX6_setHeld 32 = Except.ok (Instr.getfield 67, 3) := vyd_180 (vyb_cX6_setHeld_3 (i := 2) rfl) (vyb_cX6_setHeld_3 (i := 3) rfl) (vyb_cX6_setHeld_3 (i := 4) rfl) rfl
theorem dX6_setHeld_35 : decode cX6_setHeld 35 = Except.ok (Instr.ifCond .ne 7, 3) := vyd_154 (vyb_cX6_setHeld_3 (i := 5) rfl) (vyb_cX6_setHeld_3 (i := 6) rfl) (vyb_cX6_setHeld_3 (i := 7) rfl) (by decide +kernel)
theorem dX6_setHeld_38 : decode cX6_setHeld 38 = Except.ok (Instr.iconst 1, 1) := vyd_4 (vyb_cX6_setHeld_3 (i := 8) rfl)
theorem dX6_setHeld_39 : decode cX6_setHeld 39 = Except.ok (Instr.goto 4, 3) := vyd_167 (vyb_cX6_setHeld_3 (i := 9) rfl) (vyb_cX6_setHeld_4 (i := 0) rfl) (vyb_cX6_setHeld_4 (i := 1) rfl) (by decide +kernel)
theorem dX6_setHeld_42 : decode cX6_setHeld 42 = Except.ok (Instr.iconst 0, 1) := vyd_3 (vyb_cX6_setHeld_4 (i := 2) rfl)
theorem dX6_setHeld_43 : decode cX6_setHeld 43 = Except.ok (Instr.iconst 3, 1) := vyd_6 (vyb_cX6_setHeld_4 (i := 3) rfl)
theorem dX6_setHeld_44 : decode cX6_setHeld 44 = Except.ok (Instr.invokevirtual 40, 3) := vyd_182 (vyb_cX6_setHeld_4 (i := 4) rfl) (vyb_cX6_setHeld_4 (i := 5) rfl) (vyb_cX6_setHeld_4 (i := 6) rfl) rfl
theorem dX6_setHeld_47 : decode cX6_setHeld 47 = Except.ok (Instr.ifCond .eq 5, 3) := vyd_153 (vyb_cX6_setHeld_4 (i := 7) rfl) (vyb_cX6_setHeld_4 (i := 8) rfl) (vyb_cX6_setHeld_4 (i := 9) rfl) (by decide +kernel)
theorem dX6_setHeld_50 : decode cX6_setHeld 50 = Except.ok (Instr.iconst 0, 1) := vyd_3 (vyb_cX6_setHeld_5 (i := 0) rfl)
theorem dX6_setHeld_51 : decode cX6_setHeld 51 = Except.ok (Instr.ireturn, 1) := vyd_172 (vyb_cX6_setHeld_5 (i := 1) rfl)
theorem dX6_setHeld_52 : decode cX6_setHeld 52 = Except.ok (Instr.aload_n 0, 1) := vyd_42 (vyb_cX6_setHeld_5 (i := 2) rfl)
theorem dX6_setHeld_53 : decode cX6_setHeld 53 = Except.ok (Instr.getfield 25, 3) := vyd_180 (vyb_cX6_setHeld_5 (i := 3) rfl) (vyb_cX6_setHeld_5 (i := 4) rfl) (vyb_cX6_setHeld_5 (i := 5) rfl) rfl
theorem dX6_setHeld_56 : decode cX6_setHeld 56 = Except.ok (Instr.iload_n 1, 1) := vyd_27 (vyb_cX6_setHeld_5 (i := 6) rfl)
theorem dX6_setHeld_57 : decode cX6_setHeld 57 = Except.ok (Instr.aaload, 1) := vyd_50 (vyb_cX6_setHeld_5 (i := 7) rfl)
theorem dX6_setHeld_58 : decode cX6_setHeld 58 = Except.ok (Instr.astore 4, 2) := vyd_58 (vyb_cX6_setHeld_5 (i := 8) rfl) (vyb_cX6_setHeld_5 (i := 9) rfl) rfl
theorem dX6_setHeld_60 : decode cX6_setHeld 60 = Except.ok (Instr.aload 4, 2) := vyd_25 (vyb_cX6_setHeld_6 (i := 0) rfl) (vyb_cX6_setHeld_6 (i := 1) rfl) rfl
theorem dX6_setHeld_62 : decode cX6_setHeld 62 = Except.ok (Instr.getfield 67, 3) := vyd_180 (vyb_cX6_setHeld_6 (i := 2) rfl) (vyb_cX6_setHeld_6 (i := 3) rfl) (vyb_cX6_setHeld_6 (i := 4) rfl) rfl
theorem dX6_setHeld_65 : decode cX6_setHeld 65 = Except.ok (Instr.iconst 2, 1) := vyd_5 (vyb_cX6_setHeld_6 (i := 5) rfl)
theorem dX6_setHeld_66 : decode cX6_setHeld 66 = Except.ok (Instr.if_icmp .eq 12, 3) := vyd_159 (vyb_cX6_setHeld_6 (i := 6) rfl) (vyb_cX6_setHeld_6 (i := 7) rfl) (vyb_cX6_setHeld_6 (i := 8) rfl) (by decide +kernel)
theorem dX6_setHeld_69 : decode cX6_setHeld 69 = Except.ok (Instr.aload 4, 2) := vyd_25 (vyb_cX6_setHeld_6 (i := 9) rfl) (vyb_cX6_setHeld_7 (i := 0) rfl) rfl
theorem dX6_setHeld_71 : decode cX6_setHeld 71 = Except.ok (Instr.getfield 193, 3) := vyd_180 (vyb_cX6_setHeld_7 (i := 1) rfl) (vyb_cX6_setHeld_7 (i := 2) rfl) (vyb_cX6_setHeld_7 (i := 3) rfl) rfl
theorem dX6_setHeld_74 : decode cX6_setHeld 74 = Except.ok (Instr.iconst (-1), 1) := vyd_2 (vyb_cX6_setHeld_7 (i := 4) rfl)
theorem dX6_setHeld_75 : decode cX6_setHeld 75 = Except.ok (Instr.if_icmp .ne 6, 3) := vyd_160 (vyb_cX6_setHeld_7 (i := 5) rfl) (vyb_cX6_setHeld_7 (i := 6) rfl) (vyb_cX6_setHeld_7 (i := 7) rfl) (by decide +kernel)
theorem dX6_setHeld_78 : decode cX6_setHeld 78 = Except.ok (Instr.bipush (-9), 2) := vyd_16 (vyb_cX6_setHeld_7 (i := 8) rfl) (vyb_cX6_setHeld_7 (i := 9) rfl) (by decide +kernel)
theorem dX6_setHeld_80 : decode cX6_setHeld 80 = Except.ok (Instr.ireturn, 1) := vyd_172 (vyb_cX6_setHeld_8 (i := 0) rfl)
theorem dX6_setHeld_81 : decode cX6_setHeld 81 = Except.ok (Instr.aload_n 0, 1) := vyd_42 (vyb_cX6_setHeld_8 (i := 1) rfl)
theorem dX6_setHeld_82 : decode cX6_setHeld 82 = Except.ok (Instr.getfield 10, 3) := vyd_180 (vyb_cX6_setHeld_8 (i := 2) rfl) (vyb_cX6_setHeld_8 (i := 3) rfl) (vyb_cX6_setHeld_8 (i := 4) rfl) rfl
theorem dX6_setHeld_85 : decode cX6_setHeld 85 = Except.ok (Instr.iconst 1, 1) := vyd_4 (vyb_cX6_setHeld_8 (i := 5) rfl)
theorem dX6_setHeld_86 : decode cX6_setHeld 86 = Except.ok (Instr.invokevirtual 48, 3) := vyd_182 (vyb_cX6_setHeld_8 (i := 6) rfl) (vyb_cX6_setHeld_8 (i := 7) rfl) (vyb_cX6_setHeld_8 (i := 8) rfl) rfl
theorem dX6_setHeld_89 : decode cX6_setHeld 89 = Except.ok (Instr.checkcast 7, 3) := vyd_192 (vyb_cX6_setHeld_8 (i := 9) rfl) (vyb_cX6_setHeld_9 (i := 0) rfl) (vyb_cX6_setHeld_9 (i := 1) rfl) rfl
theorem dX6_setHeld_92 : decode cX6_setHeld 92 = Except.ok (Instr.aload 4, 2) := vyd_25 (vyb_cX6_setHeld_9 (i := 2) rfl) (vyb_cX6_setHeld_9 (i := 3) rfl) rfl
theorem dX6_setHeld_94 : decode cX6_setHeld 94 = Except.ok (Instr.getfield 193, 3) := vyd_180 (vyb_cX6_setHeld_9 (i := 4) rfl) (vyb_cX6_setHeld_9 (i := 5) rfl) (vyb_cX6_setHeld_9 (i := 6) rfl) rfl
theorem dX6_setHeld_97 : decode cX6_setHeld 97 = Except.ok (Instr.iload_n 2, 1) := vyd_28 (vyb_cX6_setHeld_9 (i := 7) rfl)
theorem dX6_setHeld_98 : decode cX6_setHeld 98 = Except.ok (Instr.iload_n 3, 1) := vyd_29 (vyb_cX6_setHeld_9 (i := 8) rfl)
theorem dX6_setHeld_99 : decode cX6_setHeld 99 = Except.ok (Instr.invokestatic 121, 3) := vyd_184 (vyb_cX6_setHeld_9 (i := 9) rfl) (vyb_cX6_setHeld_10 (i := 0) rfl) (vyb_cX6_setHeld_10 (i := 1) rfl) rfl
theorem dX6_setHeld_102 : decode cX6_setHeld 102 = Except.ok (Instr.invokestatic 70, 3) := vyd_184 (vyb_cX6_setHeld_10 (i := 2) rfl) (vyb_cX6_setHeld_10 (i := 3) rfl) (vyb_cX6_setHeld_10 (i := 4) rfl) rfl
theorem dX6_setHeld_105 : decode cX6_setHeld 105 = Except.ok (Instr.invokevirtual 180, 3) := vyd_182 (vyb_cX6_setHeld_10 (i := 5) rfl) (vyb_cX6_setHeld_10 (i := 6) rfl) (vyb_cX6_setHeld_10 (i := 7) rfl) rfl
theorem dX6_setHeld_108 : decode cX6_setHeld 108 = Except.ok (Instr.pop, 1) := vyd_87 (vyb_cX6_setHeld_10 (i := 8) rfl)
theorem dX6_setHeld_109 : decode cX6_setHeld 109 = Except.ok (Instr.aload_n 0, 1) := vyd_42 (vyb_cX6_setHeld_10 (i := 9) rfl)
theorem dX6_setHeld_110 : decode cX6_setHeld 110 = Except.ok (Instr.invokevirtual 164, 3) := vyd_182 (vyb_cX6_setHeld_11 (i := 0) rfl) (vyb_cX6_setHeld_11 (i := 1) rfl) (vyb_cX6_setHeld_11 (i := 2) rfl) rfl
theorem dX6_setHeld_113 : decode cX6_setHeld 113 = Except.ok (Instr.aload 4, 2) := vyd_25 (vyb_cX6_setHeld_11 (i := 3) rfl) (vyb_cX6_setHeld_11 (i := 4) rfl) rfl
theorem dX6_setHeld_115 : decode cX6_setHeld 115 = Except.ok (Instr.getfield 190, 3) := vyd_180 (vyb_cX6_setHeld_11 (i := 5) rfl) (vyb_cX6_setHeld_11 (i := 6) rfl) (vyb_cX6_setHeld_11 (i := 7) rfl) rfl
theorem dX6_setHeld_118 : decode cX6_setHeld 118 = Except.ok (Instr.ireturn, 1) := vyd_172 (vyb_cX6_setHeld_11 (i := 8) rfl)
theorem vyb_cX6_put_0 {i : Nat} {b : UInt8} (h : ([0x2a, 0x1b, 0xb8, 0x00, 0xbb, 0x04, 0xb6, 0x00, 0x6e, 0x9a] : List UInt8)[i]? = some b) : vy_8 cX6_put (0 + i) b := vy_in (n := 10) (by decide +kernel) h
theorem vyb_cX6_put_1 {i : Nat} {b : UInt8} (h : ([0x00, 0x33, 0x2a, 0x1c, 0x1d, 0xb8, 0x00, 0x71, 0x05, 0xb6] : List UInt8)[i]? = some b) : vy_8 cX6_put (10 + i) b := vy_in (n := 10) (by decide +kernel) h
theorem vyb_cX6_put_2 {i : Nat} {b : UInt8} (h : ([0x00, 0x28, 0x9a, 0x00, 0x26, 0x2a, 0x2a, 0xb4, 0x00, 0x19] : List UInt8)[i]? = some b) : vy_8 cX6_put (20 + i) b := vy_in (n := 10) (by decide +kernel) h
theorem vyb_cX6_put_3 {i : Nat} {b : UInt8} (h : ([0x1b, 0x32, 0xb4, 0x00, 0x43, 0x99, 0x00, 0x0d, 0x2a, 0x04] : List UInt8)[i]? = some b) : vy_8 cX6_put (30 + i) b := vy_in (n := 10) (by decide +kernel) h
theorem vyb_cX6_put_4 {i : Nat} {b : UInt8} (h : ([0xb6, 0x00, 0x5b, 0x10, 0x14, 0xa0, 0x00, 0x07, 0x04, 0xa7] : List UInt8)[i]? = some b) : vy_8 cX6_put (40 + i) b := vy_in (n := 10) (by decide +kernel) h
theorem vyb_cX6_put_5 {i : Nat} {b : UInt8} (h : ([0x00, 0x04, 0x03, 0x06, 0xb6, 0x00, 0x28, 0x99, 0x00, 0x05] : List UInt8)[i]? = some b) : vy_8 cX6_put (50 + i) b := vy_in (n := 10) (by decide +kernel) h
theorem vyb_cX6_put_6 {i : Nat} {b : UInt8} (h : ([0x03, 0xac, 0x2a, 0xb4, 0x00, 0x19, 0x1b, 0x32, 0x3a, 0x04] : List UInt8)[i]? = some b) : vy_8 cX6_put (60 + i) b := vy_in (n := 10) (by decide +kernel) h
theorem vyb_cX6_put_7 {i : Nat} {b : UInt8} (h : ([0x19, 0x04, 0xb4, 0x00, 0x43, 0x05, 0xa0, 0x00, 0x06, 0x10] : List UInt8)[i]? = some b) : vy_8 cX6_put (70 + i) b := vy_in (n := 10) (by decide +kernel) h
theorem vyb_cX6_put_8 {i : Nat} {b : UInt8} (h : ([0xf7, 0xac, 0x2a, 0xb4, 0x00, 0x0a, 0x04, 0xb6, 0x00, 0x30] : List UInt8)[i]? = some b) : vy_8 cX6_put (80 + i) b := vy_in (n := 10) (by decide +kernel) h
theorem vyb_cX6_put_9 {i : Nat} {b : UInt8} (h : ([0xc0, 0x00, 0x07, 0x19, 0x04, 0xb4, 0x00, 0xbe, 0x1c, 0x1d] : List UInt8)[i]? = some b) : vy_8 cX6_put (90 + i) b := vy_in (n := 10) (by decide +kernel) h
theorem vyb_cX6_put_10 {i : Nat} {b : UInt8} (h : ([0xb8, 0x00, 0x79, 0xb8, 0x00, 0x46, 0xb6, 0x00, 0x4a, 0x19] : List UInt8)[i]? = some b) : vy_8 cX6_put (100 + i) b := vy_in (n := 10) (by decide +kernel) h
theorem vyb_cX6_put_11 {i : Nat} {b : UInt8} (h : ([0x04, 0x59, 0xb4, 0x00, 0xbe, 0x04, 0x60, 0xb5, 0x00, 0xbe] : List UInt8)[i]? = some b) : vy_8 cX6_put (110 + i) b := vy_in (n := 10) (by decide +kernel) h
theorem vyb_cX6_put_12 {i : Nat} {b : UInt8} (h : ([0x19, 0x04, 0x02, 0xb5, 0x00, 0xc1, 0x2a, 0x04, 0x1b, 0xb6] : List UInt8)[i]? = some b) : vy_8 cX6_put (120 + i) b := vy_in (n := 10) (by decide +kernel) h
theorem vyb_cX6_put_13 {i : Nat} {b : UInt8} (h : ([0x00, 0x4d, 0x2a, 0xb6, 0x00, 0xa4, 0x19, 0x04, 0xb4, 0x00] : List UInt8)[i]? = some b) : vy_8 cX6_put (130 + i) b := vy_in (n := 10) (by decide +kernel) h
theorem vyb_cX6_put_14 {i : Nat} {b : UInt8} (h : ([0xbe, 0xac] : List UInt8)[i]? = some b) : vy_8 cX6_put (140 + i) b := vy_in (n := 2) (by decide +kernel) h
theorem dX6_put_0 : decode cX6_put 0 = Except.ok (Instr.aload_n 0, 1) := vyd_42 (vyb_cX6_put_0 (i := 0) rfl)
theorem dX6_put_1 : decode cX6_put 1 = Except.ok (Instr.iload_n 1, 1) := vyd_27 (vyb_cX6_put_0 (i := 1) rfl)
theorem dX6_put_2 : decode cX6_put 2 = Except.ok (Instr.invokestatic 187, 3) := vyd_184 (vyb_cX6_put_0 (i := 2) rfl) (vyb_cX6_put_0 (i := 3) rfl) (vyb_cX6_put_0 (i := 4) rfl) rfl
theorem dX6_put_5 : decode cX6_put 5 = Except.ok (Instr.iconst 1, 1) := vyd_4 (vyb_cX6_put_0 (i := 5) rfl)
theorem dX6_put_6 : decode cX6_put 6 = Except.ok (Instr.invokevirtual 110, 3) := vyd_182 (vyb_cX6_put_0 (i := 6) rfl) (vyb_cX6_put_0 (i := 7) rfl) (vyb_cX6_put_0 (i := 8) rfl) rfl
theorem dX6_put_9 : decode cX6_put 9 = Except.ok (Instr.ifCond .ne 51, 3) := vyd_154 (vyb_cX6_put_0 (i := 9) rfl) (vyb_cX6_put_1 (i := 0) rfl) (vyb_cX6_put_1 (i := 1) rfl) (by decide +kernel)
theorem dX6_put_12 : decode cX6_put 12 = Except.ok (Instr.aload_n 0, 1) := vyd_42 (vyb_cX6_put_1 (i := 2) rfl)
theorem dX6_put_13 : decode cX6_put 13 = Except.ok (Instr.iload_n 2, 1) := vyd_28 (vyb_cX6_put_1 (i := 3) rfl)
theorem dX6_put_14 : decode cX6_put 14 = Except.ok (Instr.iload_n 3, 1) := vyd_29 (vyb_cX6_put_1 (i := 4) rfl)
theorem dX6_put_15 : decode cX6_put 15 = Except.ok (Instr.invokestatic 113, 3) := vyd_184 (vyb_cX6_put_1 (i := 5) rfl) (vyb_cX6_put_1 (i := 6) rfl) (vyb_cX6_put_1 (i := 7) rfl) rfl
theorem dX6_put_18 : decode cX6_put 18 = Except.ok (Instr.iconst 2, 1) := vyd_5 (vyb_cX6_put_1 (i := 8) rfl)
theorem dX6_put_19 : decode cX6_put 19 = Except.ok (Instr.invokevirtual 40, 3) := vyd_182 (vyb_cX6_put_1 (i := 9) rfl) (vyb_cX6_put_2 (i := 0) rfl) (vyb_cX6_put_2 (i := 1) rfl) rfl
theorem dX6_put_22 : decode cX6_put 22 = Except.ok (Instr.ifCond .ne 38, 3) := vyd_154 (vyb_cX6_put_2 (i := 2) rfl) (vyb_cX6_put_2 (i := 3) rfl) (vyb_cX6_put_2 (i := 4) rfl) (by decide +kernel)
theorem dX6_put_25 : decode cX6_put 25 = Except.ok (Instr.aload_n 0, 1) := vyd_42 (vyb_cX6_put_2 (i := 5) rfl)
theorem dX6_put_26 : decode cX6_put 26 = Except.ok (Instr.aload_n 0, 1) := vyd_42 (vyb_cX6_put_2 (i := 6) rfl)
theorem dX6_put_27 : decode cX6_put 27 = Except.ok (Instr.getfield 25, 3) := vyd_180 (vyb_cX6_put_2 (i := 7) rfl) (vyb_cX6_put_2 (i := 8) rfl) (vyb_cX6_put_2 (i := 9) rfl) rfl
theorem dX6_put_30 : decode cX6_put 30 = Except.ok (Instr.iload_n 1, 1) := vyd_27 (vyb_cX6_put_3 (i := 0) rfl)
theorem dX6_put_31 : decode cX6_put 31 = Except.ok (Instr.aaload, 1) := vyd_50 (vyb_cX6_put_3 (i := 1) rfl)
theorem dX6_put_32 : decode cX6_put 32 = Except.ok (Instr.getfield 67, 3) := vyd_180 (vyb_cX6_put_3 (i := 2) rfl) (vyb_cX6_put_3 (i := 3) rfl) (vyb_cX6_put_3 (i := 4) rfl) rfl
theorem dX6_put_35 : decode cX6_put 35 = Except.ok (Instr.ifCond .eq 13, 3) := vyd_153 (vyb_cX6_put_3 (i := 5) rfl) (vyb_cX6_put_3 (i := 6) rfl) (vyb_cX6_put_3 (i := 7) rfl) (by decide +kernel)
theorem dX6_put_38 : decode cX6_put 38 = Except.ok (Instr.aload_n 0, 1) := vyd_42 (vyb_cX6_put_3 (i := 8) rfl)
theorem dX6_put_39 : decode cX6_put 39 = Except.ok (Instr.iconst 1, 1) := vyd_4 (vyb_cX6_put_3 (i := 9) rfl)
theorem dX6_put_40 : decode cX6_put 40 = Except.ok (Instr.invokevirtual 91, 3) := vyd_182 (vyb_cX6_put_4 (i := 0) rfl) (vyb_cX6_put_4 (i := 1) rfl) (vyb_cX6_put_4 (i := 2) rfl) rfl
theorem dX6_put_43 : decode cX6_put 43 = Except.ok (Instr.bipush 20, 2) := vyd_16 (vyb_cX6_put_4 (i := 3) rfl) (vyb_cX6_put_4 (i := 4) rfl) (by decide +kernel)
theorem dX6_put_45 : decode cX6_put 45 = Except.ok (Instr.if_icmp .ne 7, 3) := vyd_160 (vyb_cX6_put_4 (i := 5) rfl) (vyb_cX6_put_4 (i := 6) rfl) (vyb_cX6_put_4 (i := 7) rfl) (by decide +kernel)
theorem dX6_put_48 : decode cX6_put 48 = Except.ok (Instr.iconst 1, 1) := vyd_4 (vyb_cX6_put_4 (i := 8) rfl)
theorem dX6_put_49 : decode cX6_put 49 = Except.ok (Instr.goto 4, 3) := vyd_167 (vyb_cX6_put_4 (i := 9) rfl) (vyb_cX6_put_5 (i := 0) rfl) (vyb_cX6_put_5 (i := 1) rfl) (by decide +kernel)
theorem dX6_put_52 : decode cX6_put 52 = Except.ok (Instr.iconst 0, 1) := vyd_3 (vyb_cX6_put_5 (i := 2) rfl)
theorem dX6_put_53 : decode cX6_put 53 = Except.ok (Instr.iconst 3, 1) := vyd_6 (vyb_cX6_put_5 (i := 3) rfl)
theorem dX6_put_54 : decode cX6_put 54 = Except.ok (Instr.invokevirtual 40, 3) := vyd_182 (vyb_cX6_put_5 (i := 4) rfl) (vyb_cX6_put_5 (i := 5) rfl) (vyb_cX6_put_5 (i := 6) rfl) rfl
theorem dX6_put_57 : decode cX6_put 57 = Except.ok (Instr.ifCond .eq 5, 3) := vyd_153 (vyb_cX6_put_5 (i := 7) rfl) (vyb_cX6_put_5 (i := 8) rfl) (vyb_cX6_put_5 (i := 9) rfl) (by decide +kernel)
theorem dX6_put_60 : decode cX6_put 60 = Except.ok (Instr.iconst 0, 1) := vyd_3 (vyb_cX6_put_6 (i := 0) rfl)
theorem dX6_put_61 : decode cX6_put 61 = Except.ok (Instr.ireturn, 1) := vyd_172 (vyb_cX6_put_6 (i := 1) rfl)
theorem dX6_put_62 : decode cX6_put 62 = Except.ok (Instr.aload_n 0, 1) := vyd_42 (vyb_cX6_put_6 (i := 2) rfl)
theorem dX6_put_63 : decode cX6_put 63 = Except.ok (Instr.getfield 25, 3) := vyd_180 (vyb_cX6_put_6 (i := 3) rfl) (vyb_cX6_put_6 (i := 4) rfl) (vyb_cX6_put_6 (i := 5) rfl) rfl
theorem dX6_put_66 : decode cX6_put 66 = Except.ok (Instr.iload_n 1, 1) := vyd_27 (vyb_cX6_put_6 (i := 6) rfl)
theorem dX6_put_67 : decode cX6_put 67 = Except.ok (Instr.aaload, 1) := vyd_50 (vyb_cX6_put_6 (i := 7) rfl)
theorem dX6_put_68 : decode cX6_put 68 = Except.ok (Instr.astore 4, 2) := vyd_58 (vyb_cX6_put_6 (i := 8) rfl) (vyb_cX6_put_6 (i := 9) rfl) rfl
theorem dX6_put_70 : decode cX6_put 70 = Except.ok (Instr.aload 4, 2) := vyd_25 (vyb_cX6_put_7 (i := 0) rfl) (vyb_cX6_put_7 (i := 1) rfl) rfl
theorem dX6_put_72 : decode cX6_put 72 = Except.ok (Instr.getfield 67, 3) := vyd_180 (vyb_cX6_put_7 (i := 2) rfl) (vyb_cX6_put_7 (i := 3) rfl) (vyb_cX6_put_7 (i := 4) rfl) rfl
theorem dX6_put_75 : decode cX6_put 75 = Except.ok (Instr.iconst 2, 1) := vyd_5 (vyb_cX6_put_7 (i := 5) rfl)
theorem dX6_put_76 : decode cX6_put 76 = Except.ok (Instr.if_icmp .ne 6, 3) := vyd_160 (vyb_cX6_put_7 (i := 6) rfl) (vyb_cX6_put_7 (i := 7) rfl) (vyb_cX6_put_7 (i := 8) rfl) (by decide +kernel)
theorem dX6_put_79 : decode cX6_put 79 = Except.ok (Instr.bipush (-9), 2) := vyd_16 (vyb_cX6_put_7 (i := 9) rfl) (vyb_cX6_put_8 (i := 0) rfl) (by decide +kernel)
theorem dX6_put_81 : decode cX6_put 81 = Except.ok (Instr.ireturn, 1) := vyd_172 (vyb_cX6_put_8 (i := 1) rfl)
theorem dX6_put_82 : decode cX6_put 82 = Except.ok (Instr.aload_n 0, 1) := vyd_42 (vyb_cX6_put_8 (i := 2) rfl)
theorem dX6_put_83 : decode cX6_put 83 = Except.ok (Instr.getfield 10, 3) := vyd_180 (vyb_cX6_put_8 (i := 3) rfl) (vyb_cX6_put_8 (i := 4) rfl) (vyb_cX6_put_8 (i := 5) rfl) rfl
theorem dX6_put_86 : decode cX6_put 86 = Except.ok (Instr.iconst 1, 1) := vyd_4 (vyb_cX6_put_8 (i := 6) rfl)
theorem dX6_put_87 : decode cX6_put 87 = Except.ok (Instr.invokevirtual 48, 3) := vyd_182 (vyb_cX6_put_8 (i := 7) rfl) (vyb_cX6_put_8 (i := 8) rfl) (vyb_cX6_put_8 (i := 9) rfl) rfl
theorem dX6_put_90 : decode cX6_put 90 = Except.ok (Instr.checkcast 7, 3) := vyd_192 (vyb_cX6_put_9 (i := 0) rfl) (vyb_cX6_put_9 (i := 1) rfl) (vyb_cX6_put_9 (i := 2) rfl) rfl
theorem dX6_put_93 : decode cX6_put 93 = Except.ok (Instr.aload 4, 2) := vyd_25 (vyb_cX6_put_9 (i := 3) rfl) (vyb_cX6_put_9 (i := 4) rfl) rfl
theorem dX6_put_95 : decode cX6_put 95 = Except.ok (Instr.getfield 190, 3) := vyd_180 (vyb_cX6_put_9 (i := 5) rfl) (vyb_cX6_put_9 (i := 6) rfl) (vyb_cX6_put_9 (i := 7) rfl) rfl
theorem dX6_put_98 : decode cX6_put 98 = Except.ok (Instr.iload_n 2, 1) := vyd_28 (vyb_cX6_put_9 (i := 8) rfl)
theorem dX6_put_99 : decode cX6_put 99 = Except.ok (Instr.iload_n 3, 1) := vyd_29 (vyb_cX6_put_9 (i := 9) rfl)
theorem dX6_put_100 : decode cX6_put 100 = Except.ok (Instr.invokestatic 121, 3) := vyd_184 (vyb_cX6_put_10 (i := 0) rfl) (vyb_cX6_put_10 (i := 1) rfl) (vyb_cX6_put_10 (i := 2) rfl) rfl
theorem dX6_put_103 : decode cX6_put 103 = Except.ok (Instr.invokestatic 70, 3) := vyd_184 (vyb_cX6_put_10 (i := 3) rfl) (vyb_cX6_put_10 (i := 4) rfl) (vyb_cX6_put_10 (i := 5) rfl) rfl
theorem dX6_put_106 : decode cX6_put 106 = Except.ok (Instr.invokevirtual 74, 3) := vyd_182 (vyb_cX6_put_10 (i := 6) rfl) (vyb_cX6_put_10 (i := 7) rfl) (vyb_cX6_put_10 (i := 8) rfl) rfl
theorem dX6_put_109 : decode cX6_put 109 = Except.ok (Instr.aload 4, 2) := vyd_25 (vyb_cX6_put_10 (i := 9) rfl) (vyb_cX6_put_11 (i := 0) rfl) rfl
theorem dX6_put_111 : decode cX6_put 111 = Except.ok (Instr.dup, 1) := vyd_89 (vyb_cX6_put_11 (i := 1) rfl)
theorem dX6_put_112 : decode cX6_put 112 = Except.ok (Instr.getfield 190, 3) := vyd_180 (vyb_cX6_put_11 (i := 2) rfl) (vyb_cX6_put_11 (i := 3) rfl) (vyb_cX6_put_11 (i := 4) rfl) rfl
theorem dX6_put_115 : decode cX6_put 115 = Except.ok (Instr.iconst 1, 1) := vyd_4 (vyb_cX6_put_11 (i := 5) rfl)
theorem dX6_put_116 : decode cX6_put 116 = Except.ok (Instr.iadd, 1) := vyd_96 (vyb_cX6_put_11 (i := 6) rfl)
theorem dX6_put_117 : decode cX6_put 117 = Except.ok (Instr.putfield 190, 3) := vyd_181 (vyb_cX6_put_11 (i := 7) rfl) (vyb_cX6_put_11 (i := 8) rfl) (vyb_cX6_put_11 (i := 9) rfl) rfl
theorem dX6_put_120 : decode cX6_put 120 = Except.ok (Instr.aload 4, 2) := vyd_25 (vyb_cX6_put_12 (i := 0) rfl) (vyb_cX6_put_12 (i := 1) rfl) rfl
theorem dX6_put_122 : decode cX6_put 122 = Except.ok (Instr.iconst (-1), 1) := vyd_2 (vyb_cX6_put_12 (i := 2) rfl)
theorem dX6_put_123 : decode cX6_put 123 = Except.ok (Instr.putfield 193, 3) := vyd_181 (vyb_cX6_put_12 (i := 3) rfl) (vyb_cX6_put_12 (i := 4) rfl) (vyb_cX6_put_12 (i := 5) rfl) rfl
theorem dX6_put_126 : decode cX6_put 126 = Except.ok (Instr.aload_n 0, 1) := vyd_42 (vyb_cX6_put_12 (i := 6) rfl)
theorem dX6_put_127 : decode cX6_put 127 = Except.ok (Instr.iconst 1, 1) := vyd_4 (vyb_cX6_put_12 (i := 7) rfl)
theorem dX6_put_128 : decode cX6_put 128 = Except.ok (Instr.iload_n 1, 1) := vyd_27 (vyb_cX6_put_12 (i := 8) rfl)
theorem dX6_put_129 : decode cX6_put 129 = Except.ok (Instr.invokevirtual 77, 3) := vyd_182 (vyb_cX6_put_12 (i := 9) rfl) (vyb_cX6_put_13 (i := 0) rfl) (vyb_cX6_put_13 (i := 1) rfl) rfl
theorem dX6_put_132 : decode cX6_put 132 = Except.ok (Instr.aload_n 0, 1) := vyd_42 (vyb_cX6_put_13 (i := 2) rfl)
theorem dX6_put_133 : decode cX6_put 133 = Except.ok (Instr.invokevirtual 164, 3) := vyd_182 (vyb_cX6_put_13 (i := 3) rfl) (vyb_cX6_put_13 (i := 4) rfl) (vyb_cX6_put_13 (i := 5) rfl) rfl
theorem dX6_put_136 : decode cX6_put 136 = Except.ok (Instr.aload 4, 2) := vyd_25 (vyb_cX6_put_13 (i := 6) rfl) (vyb_cX6_put_13 (i := 7) rfl) rfl
theorem dX6_put_138 : decode cX6_put 138 = Except.ok (Instr.getfield 190, 3) := vyd_180 (vyb_cX6_put_13 (i := 8) rfl) (vyb_cX6_put_13 (i := 9) rfl) (vyb_cX6_put_14 (i := 0) rfl) rfl
theorem dX6_put_141 : decode cX6_put 141 = Except.ok (Instr.ireturn, 1) := vyd_172 (vyb_cX6_put_14 (i := 1) rfl)
theorem vyb_cX6_whereNow_0 {i : Nat} {b : UInt8} (h : ([0x2a, 0xb4, 0x00, 0x19, 0x1b, 0x32, 0x4e, 0x08, 0xbc, 0x0a] : List UInt8)[i]? = some b) : vy_8 cX6_whereNow (0 + i) b := vy_in (n := 10) (by decide +kernel) h
theorem vyb_cX6_whereNow_1 {i : Nat} {b : UInt8} (h : ([0x59, 0x03, 0x2d, 0xb4, 0x00, 0x43, 0x4f, 0x59, 0x04, 0x2d] : List UInt8)[i]? = some b) : vy_8 cX6_whereNow (10 + i) b := vy_in (n := 10) (by decide +kernel) h
theorem vyb_cX6_whereNow_2 {i : Nat} {b : UInt8} (h : ([0xb4, 0x00, 0xbe, 0x4f, 0x59, 0x05, 0x2d, 0xb4, 0x00, 0xbe] : List UInt8)[i]? = some b) : vy_8 cX6_whereNow (20 + i) b := vy_in (n := 10) (by decide +kernel) h
theorem vyb_cX6_whereNow_3 {i : Nat} {b : UInt8} (h : ([0x04, 0x64, 0x4f, 0x59, 0x06, 0x2d, 0xb4, 0x00, 0xbe, 0x2a] : List UInt8)[i]? = some b) : vy_8 cX6_whereNow (30 + i) b := vy_in (n := 10) (by decide +kernel) h
theorem vyb_cX6_whereNow_4 {i : Nat} {b : UInt8} (h : ([0x04, 0xb6, 0x00, 0x5b, 0xa2, 0x00, 0x07, 0x04, 0xa7, 0x00] : List UInt8)[i]? = some b) : vy_8 cX6_whereNow (40 + i) b := vy_in (n := 10) (by decide +kernel) h
theorem vyb_cX6_whereNow_5 {i : Nat} {b : UInt8} (h : ([0x04, 0x03, 0xb8, 0x00, 0x57, 0x4f, 0x59, 0x07, 0x2d, 0xb4] : List UInt8)[i]? = some b) : vy_8 cX6_whereNow (50 + i) b := vy_in (n := 10) (by decide +kernel) h
theorem vyb_cX6_whereNow_6 {i : Nat} {b : UInt8} (h : ([0x00, 0xbe, 0x9e, 0x00, 0x07, 0x04, 0xa7, 0x00, 0x04, 0x03] : List UInt8)[i]? = some b) : vy_8 cX6_whereNow (60 + i) b := vy_in (n := 10) (by decide +kernel) h
theorem vyb_cX6_whereNow_7 {i : Nat} {b : UInt8} (h : ([0xb8, 0x00, 0x57, 0x4f, 0x3a, 0x04, 0x19, 0x04, 0x1c, 0x2e] : List UInt8)[i]? = some b) : vy_8 cX6_whereNow (70 + i) b := vy_in (n := 10) (by decide +kernel) h
theorem vyb_cX6_whereNow_8 {i : Nat} {b : UInt8} (h : ([0xac] : List UInt8)[i]? = some b) : vy_8 cX6_whereNow (80 + i) b := vy_in (n := 1) (by decide +kernel) h
theorem dX6_whereNow_0 : decode cX6_whereNow 0 = Except.ok (Instr.aload_n 0, 1) := vyd_42 (vyb_cX6_whereNow_0 (i := 0) rfl)
theorem dX6_whereNow_1 : decode cX6_whereNow 1 = Except.ok (Instr.getfield 25, 3) := vyd_180 (vyb_cX6_whereNow_0 (i := 1) rfl) (vyb_cX6_whereNow_0 (i := 2) rfl) (vyb_cX6_whereNow_0 (i := 3) rfl) rfl
theorem dX6_whereNow_4 : decode cX6_whereNow 4 = Except.ok (Instr.iload_n 1, 1) := vyd_27 (vyb_cX6_whereNow_0 (i := 4) rfl)
theorem dX6_whereNow_5 : decode cX6_whereNow 5 = Except.ok (Instr.aaload, 1) := vyd_50 (vyb_cX6_whereNow_0 (i := 5) rfl)
theorem dX6_whereNow_6 : decode cX6_whereNow 6 = Except.ok (Instr.astore_n 3, 1) := vyd_78 (vyb_cX6_whereNow_0 (i := 6) rfl)
theorem dX6_whereNow_7 : decode cX6_whereNow 7 = Except.ok (Instr.iconst 5, 1) := vyd_8 (vyb_cX6_whereNow_0 (i := 7) rfl)
theorem dX6_whereNow_8 : decode cX6_whereNow 8 = .ok (.newarray .int, 2) := by decide +kernel
theorem dX6_whereNow_10 : decode cX6_whereNow 10 = Except.ok (Instr.dup, 1) := vyd_89 (vyb_cX6_whereNow_1 (i := 0) rfl)
theorem dX6_whereNow_11 : decode cX6_whereNow 11 = Except.ok (Instr.iconst 0, 1) := vyd_3 (vyb_cX6_whereNow_1 (i := 1) rfl)
theorem dX6_whereNow_12 : decode cX6_whereNow 12 = Except.ok (Instr.aload_n 3, 1) := vyd_45 (vyb_cX6_whereNow_1 (i := 2) rfl)
theorem dX6_whereNow_13 : decode cX6_whereNow 13 = Except.ok (Instr.getfield 67, 3) := vyd_180 (vyb_cX6_whereNow_1 (i := 3) rfl) (vyb_cX6_whereNow_1 (i := 4) rfl) (vyb_cX6_whereNow_1 (i := 5) rfl) rfl
theorem dX6_whereNow_16 : decode cX6_whereNow 16 = Except.ok (Instr.iastore, 1) := vyd_79 (vyb_cX6_whereNow_1 (i := 6) rfl)
theorem dX6_whereNow_17 : decode cX6_whereNow 17 = Except.ok (Instr.dup, 1) := vyd_89 (vyb_cX6_whereNow_1 (i := 7) rfl)
theorem dX6_whereNow_18 : decode cX6_whereNow 18 = Except.ok (Instr.iconst 1, 1) := vyd_4 (vyb_cX6_whereNow_1 (i := 8) rfl)
theorem dX6_whereNow_19 : decode cX6_whereNow 19 = Except.ok (Instr.aload_n 3, 1) := vyd_45 (vyb_cX6_whereNow_1 (i := 9) rfl)
theorem dX6_whereNow_20 : decode cX6_whereNow 20 = Except.ok (Instr.getfield 190, 3) := vyd_180 (vyb_cX6_whereNow_2 (i := 0) rfl) (vyb_cX6_whereNow_2 (i := 1) rfl) (vyb_cX6_whereNow_2 (i := 2) rfl) rfl
theorem dX6_whereNow_23 : decode cX6_whereNow 23 = Except.ok (Instr.iastore, 1) := vyd_79 (vyb_cX6_whereNow_2 (i := 3) rfl)
theorem dX6_whereNow_24 : decode cX6_whereNow 24 = Except.ok (Instr.dup, 1) := vyd_89 (vyb_cX6_whereNow_2 (i := 4) rfl)
theorem dX6_whereNow_25 : decode cX6_whereNow 25 = Except.ok (Instr.iconst 2, 1) := vyd_5 (vyb_cX6_whereNow_2 (i := 5) rfl)
theorem dX6_whereNow_26 : decode cX6_whereNow 26 = Except.ok (Instr.aload_n 3, 1) := vyd_45 (vyb_cX6_whereNow_2 (i := 6) rfl)
theorem dX6_whereNow_27 : decode cX6_whereNow 27 = Except.ok (Instr.getfield 190, 3) := vyd_180 (vyb_cX6_whereNow_2 (i := 7) rfl) (vyb_cX6_whereNow_2 (i := 8) rfl) (vyb_cX6_whereNow_2 (i := 9) rfl) rfl
theorem dX6_whereNow_30 : decode cX6_whereNow 30 = Except.ok (Instr.iconst 1, 1) := vyd_4 (vyb_cX6_whereNow_3 (i := 0) rfl)
theorem dX6_whereNow_31 : decode cX6_whereNow 31 = Except.ok (Instr.isub, 1) := vyd_100 (vyb_cX6_whereNow_3 (i := 1) rfl)
theorem dX6_whereNow_32 : decode cX6_whereNow 32 = Except.ok (Instr.iastore, 1) := vyd_79 (vyb_cX6_whereNow_3 (i := 2) rfl)
theorem dX6_whereNow_33 : decode cX6_whereNow 33 = Except.ok (Instr.dup, 1) := vyd_89 (vyb_cX6_whereNow_3 (i := 3) rfl)
theorem dX6_whereNow_34 : decode cX6_whereNow 34 = Except.ok (Instr.iconst 3, 1) := vyd_6 (vyb_cX6_whereNow_3 (i := 4) rfl)
theorem dX6_whereNow_35 : decode cX6_whereNow 35 = Except.ok (Instr.aload_n 3, 1) := vyd_45 (vyb_cX6_whereNow_3 (i := 5) rfl)
theorem dX6_whereNow_36 : decode cX6_whereNow 36 = Except.ok (Instr.getfield 190, 3) := vyd_180 (vyb_cX6_whereNow_3 (i := 6) rfl) (vyb_cX6_whereNow_3 (i := 7) rfl) (vyb_cX6_whereNow_3 (i := 8) rfl) rfl
theorem dX6_whereNow_39 : decode cX6_whereNow 39 = Except.ok (Instr.aload_n 0, 1) := vyd_42 (vyb_cX6_whereNow_3 (i := 9) rfl)
theorem dX6_whereNow_40 : decode cX6_whereNow 40 = Except.ok (Instr.iconst 1, 1) := vyd_4 (vyb_cX6_whereNow_4 (i := 0) rfl)
theorem dX6_whereNow_41 : decode cX6_whereNow 41 = Except.ok (Instr.invokevirtual 91, 3) := vyd_182 (vyb_cX6_whereNow_4 (i := 1) rfl) (vyb_cX6_whereNow_4 (i := 2) rfl) (vyb_cX6_whereNow_4 (i := 3) rfl) rfl
theorem dX6_whereNow_44 : decode cX6_whereNow 44 = Except.ok (Instr.if_icmp .ge 7, 3) := vyd_162 (vyb_cX6_whereNow_4 (i := 4) rfl) (vyb_cX6_whereNow_4 (i := 5) rfl) (vyb_cX6_whereNow_4 (i := 6) rfl) (by decide +kernel)
theorem dX6_whereNow_47 : decode cX6_whereNow 47 = Except.ok (Instr.iconst 1, 1) := vyd_4 (vyb_cX6_whereNow_4 (i := 7) rfl)
theorem dX6_whereNow_48 : decode cX6_whereNow 48 = Except.ok (Instr.goto 4, 3) := vyd_167 (vyb_cX6_whereNow_4 (i := 8) rfl) (vyb_cX6_whereNow_4 (i := 9) rfl) (vyb_cX6_whereNow_5 (i := 0) rfl) (by decide +kernel)
theorem dX6_whereNow_51 : decode cX6_whereNow 51 = Except.ok (Instr.iconst 0, 1) := vyd_3 (vyb_cX6_whereNow_5 (i := 1) rfl)
theorem dX6_whereNow_52 : decode cX6_whereNow 52 = Except.ok (Instr.invokestatic 87, 3) := vyd_184 (vyb_cX6_whereNow_5 (i := 2) rfl) (vyb_cX6_whereNow_5 (i := 3) rfl) (vyb_cX6_whereNow_5 (i := 4) rfl) rfl
theorem dX6_whereNow_55 : decode cX6_whereNow 55 = Except.ok (Instr.iastore, 1) := vyd_79 (vyb_cX6_whereNow_5 (i := 5) rfl)
theorem dX6_whereNow_56 : decode cX6_whereNow 56 = Except.ok (Instr.dup, 1) := vyd_89 (vyb_cX6_whereNow_5 (i := 6) rfl)
theorem dX6_whereNow_57 : decode cX6_whereNow 57 = Except.ok (Instr.iconst 4, 1) := vyd_7 (vyb_cX6_whereNow_5 (i := 7) rfl)
theorem dX6_whereNow_58 : decode cX6_whereNow 58 = Except.ok (Instr.aload_n 3, 1) := vyd_45 (vyb_cX6_whereNow_5 (i := 8) rfl)
theorem dX6_whereNow_59 : decode cX6_whereNow 59 = Except.ok (Instr.getfield 190, 3) := vyd_180 (vyb_cX6_whereNow_5 (i := 9) rfl) (vyb_cX6_whereNow_6 (i := 0) rfl) (vyb_cX6_whereNow_6 (i := 1) rfl) rfl
theorem dX6_whereNow_62 : decode cX6_whereNow 62 = Except.ok (Instr.ifCond .le 7, 3) := vyd_158 (vyb_cX6_whereNow_6 (i := 2) rfl) (vyb_cX6_whereNow_6 (i := 3) rfl) (vyb_cX6_whereNow_6 (i := 4) rfl) (by decide +kernel)
theorem dX6_whereNow_65 : decode cX6_whereNow 65 = Except.ok (Instr.iconst 1, 1) := vyd_4 (vyb_cX6_whereNow_6 (i := 5) rfl)
theorem dX6_whereNow_66 : decode cX6_whereNow 66 = Except.ok (Instr.goto 4, 3) := vyd_167 (vyb_cX6_whereNow_6 (i := 6) rfl) (vyb_cX6_whereNow_6 (i := 7) rfl) (vyb_cX6_whereNow_6 (i := 8) rfl) (by decide +kernel)
theorem dX6_whereNow_69 : decode cX6_whereNow 69 = Except.ok (Instr.iconst 0, 1) := vyd_3 (vyb_cX6_whereNow_6 (i := 9) rfl)
theorem dX6_whereNow_70 : decode cX6_whereNow 70 = Except.ok (Instr.invokestatic 87, 3) := vyd_184 (vyb_cX6_whereNow_7 (i := 0) rfl) (vyb_cX6_whereNow_7 (i := 1) rfl) (vyb_cX6_whereNow_7 (i := 2) rfl) rfl
theorem dX6_whereNow_73 : decode cX6_whereNow 73 = Except.ok (Instr.iastore, 1) := vyd_79 (vyb_cX6_whereNow_7 (i := 3) rfl)
theorem dX6_whereNow_74 : decode cX6_whereNow 74 = Except.ok (Instr.astore 4, 2) := vyd_58 (vyb_cX6_whereNow_7 (i := 4) rfl) (vyb_cX6_whereNow_7 (i := 5) rfl) rfl
theorem dX6_whereNow_76 : decode cX6_whereNow 76 = Except.ok (Instr.aload 4, 2) := vyd_25 (vyb_cX6_whereNow_7 (i := 6) rfl) (vyb_cX6_whereNow_7 (i := 7) rfl) rfl
theorem dX6_whereNow_78 : decode cX6_whereNow 78 = Except.ok (Instr.iload_n 2, 1) := vyd_28 (vyb_cX6_whereNow_7 (i := 8) rfl)
theorem dX6_whereNow_79 : decode cX6_whereNow 79 = Except.ok (Instr.iaload, 1) := vyd_46 (vyb_cX6_whereNow_7 (i := 9) rfl)
theorem dX6_whereNow_80 : decode cX6_whereNow 80 = Except.ok (Instr.ireturn, 1) := vyd_172 (vyb_cX6_whereNow_8 (i := 0) rfl)
theorem vyb_cX6_where_0 {i : Nat} {b : UInt8} (h : ([0x2a, 0x1b, 0xb8, 0x00, 0xbb, 0x04, 0xb6, 0x00, 0x6e, 0x9a] : List UInt8)[i]? = some b) : vy_8 cX6_where (0 + i) b := vy_in (n := 10) (by decide +kernel) h
theorem vyb_cX6_where_1 {i : Nat} {b : UInt8} (h : ([0x00, 0x37, 0x2a, 0x1c, 0x03, 0x07, 0xb8, 0x00, 0x2c, 0x9a] : List UInt8)[i]? = some b) : vy_8 cX6_where (10 + i) b := vy_in (n := 10) (by decide +kernel) h
theorem vyb_cX6_where_2 {i : Nat} {b : UInt8} (h : ([0x00, 0x07, 0x04, 0xa7, 0x00, 0x04, 0x03, 0x05, 0xb6, 0x00] : List UInt8)[i]? = some b) : vy_8 cX6_where (20 + i) b := vy_in (n := 10) (by decide +kernel) h
theorem vyb_cX6_where_3 {i : Nat} {b : UInt8} (h : ([0x28, 0x9a, 0x00, 0x21, 0x2a, 0x1c, 0x9e, 0x00, 0x14, 0x2a] : List UInt8)[i]? = some b) : vy_8 cX6_where (30 + i) b := vy_in (n := 10) (by decide +kernel) h
theorem vyb_cX6_where_4 {i : Nat} {b : UInt8} (h : ([0xb4, 0x00, 0x19, 0x1b, 0x32, 0xb4, 0x00, 0x43, 0x04, 0x9f] : List UInt8)[i]? = some b) : vy_8 cX6_where (40 + i) b := vy_in (n := 10) (by decide +kernel) h
theorem vyb_cX6_where_5 {i : Nat} {b : UInt8} (h : ([0x00, 0x07, 0x04, 0xa7, 0x00, 0x04, 0x03, 0x06, 0xb6, 0x00] : List UInt8)[i]? = some b) : vy_8 cX6_where (50 + i) b := vy_in (n := 10) (by decide +kernel) h
theorem vyb_cX6_where_6 {i : Nat} {b : UInt8} (h : ([0x28, 0x99, 0x00, 0x07, 0x03, 0xa7, 0x00, 0x09, 0x2a, 0x1b] : List UInt8)[i]? = some b) : vy_8 cX6_where (60 + i) b := vy_in (n := 10) (by decide +kernel) h
theorem vyb_cX6_where_7 {i : Nat} {b : UInt8} (h : ([0x1c, 0xb6, 0x00, 0xc5, 0xac] : List UInt8)[i]? = some b) : vy_8 cX6_where (70 + i) b := vy_in (n := 5) (by decide +kernel) h
theorem dX6_where_0 : decode cX6_where 0 = Except.ok (Instr.aload_n 0, 1) := vyd_42 (vyb_cX6_where_0 (i := 0) rfl)
theorem dX6_where_1 : decode cX6_where 1 = Except.ok (Instr.iload_n 1, 1) := vyd_27 (vyb_cX6_where_0 (i := 1) rfl)
theorem dX6_where_2 : decode cX6_where 2 = Except.ok (Instr.invokestatic 187, 3) := vyd_184 (vyb_cX6_where_0 (i := 2) rfl) (vyb_cX6_where_0 (i := 3) rfl) (vyb_cX6_where_0 (i := 4) rfl) rfl
theorem dX6_where_5 : decode cX6_where 5 = Except.ok (Instr.iconst 1, 1) := vyd_4 (vyb_cX6_where_0 (i := 5) rfl)
theorem dX6_where_6 : decode cX6_where 6 = Except.ok (Instr.invokevirtual 110, 3) := vyd_182 (vyb_cX6_where_0 (i := 6) rfl) (vyb_cX6_where_0 (i := 7) rfl) (vyb_cX6_where_0 (i := 8) rfl) rfl
theorem dX6_where_9 : decode cX6_where 9 = Except.ok (Instr.ifCond .ne 55, 3) := vyd_154 (vyb_cX6_where_0 (i := 9) rfl) (vyb_cX6_where_1 (i := 0) rfl) (vyb_cX6_where_1 (i := 1) rfl) (by decide +kernel)
theorem dX6_where_12 : decode cX6_where 12 = Except.ok (Instr.aload_n 0, 1) := vyd_42 (vyb_cX6_where_1 (i := 2) rfl)
theorem dX6_where_13 : decode cX6_where 13 = Except.ok (Instr.iload_n 2, 1) := vyd_28 (vyb_cX6_where_1 (i := 3) rfl)
theorem dX6_where_14 : decode cX6_where 14 = Except.ok (Instr.iconst 0, 1) := vyd_3 (vyb_cX6_where_1 (i := 4) rfl)
theorem dX6_where_15 : decode cX6_where 15 = Except.ok (Instr.iconst 4, 1) := vyd_7 (vyb_cX6_where_1 (i := 5) rfl)
theorem dX6_where_16 : decode cX6_where 16 = Except.ok (Instr.invokestatic 44, 3) := vyd_184 (vyb_cX6_where_1 (i := 6) rfl) (vyb_cX6_where_1 (i := 7) rfl) (vyb_cX6_where_1 (i := 8) rfl) rfl
theorem dX6_where_19 : decode cX6_where 19 = Except.ok (Instr.ifCond .ne 7, 3) := vyd_154 (vyb_cX6_where_1 (i := 9) rfl) (vyb_cX6_where_2 (i := 0) rfl) (vyb_cX6_where_2 (i := 1) rfl) (by decide +kernel)
theorem dX6_where_22 : decode cX6_where 22 = Except.ok (Instr.iconst 1, 1) := vyd_4 (vyb_cX6_where_2 (i := 2) rfl)
theorem dX6_where_23 : decode cX6_where 23 = Except.ok (Instr.goto 4, 3) := vyd_167 (vyb_cX6_where_2 (i := 3) rfl) (vyb_cX6_where_2 (i := 4) rfl) (vyb_cX6_where_2 (i := 5) rfl) (by decide +kernel)
theorem dX6_where_26 : decode cX6_where 26 = Except.ok (Instr.iconst 0, 1) := vyd_3 (vyb_cX6_where_2 (i := 6) rfl)
theorem dX6_where_27 : decode cX6_where 27 = Except.ok (Instr.iconst 2, 1) := vyd_5 (vyb_cX6_where_2 (i := 7) rfl)
theorem dX6_where_28 : decode cX6_where 28 = Except.ok (Instr.invokevirtual 40, 3) := vyd_182 (vyb_cX6_where_2 (i := 8) rfl) (vyb_cX6_where_2 (i := 9) rfl) (vyb_cX6_where_3 (i := 0) rfl) rfl
theorem dX6_where_31 : decode cX6_where 31 = Except.ok (Instr.ifCond .ne 33, 3) := vyd_154 (vyb_cX6_where_3 (i := 1) rfl) (vyb_cX6_where_3 (i := 2) rfl) (vyb_cX6_where_3 (i := 3) rfl) (by decide +kernel)
theorem dX6_where_34 : decode cX6_where 34 = Except.ok (Instr.aload_n 0, 1) := vyd_42 (vyb_cX6_where_3 (i := 4) rfl)
theorem dX6_where_35 : decode cX6_where 35 = Except.ok (Instr.iload_n 2, 1) := vyd_28 (vyb_cX6_where_3 (i := 5) rfl)
theorem dX6_where_36 : decode cX6_where 36 = Except.ok (Instr.ifCond .le 20, 3) := vyd_158 (vyb_cX6_where_3 (i := 6) rfl) (vyb_cX6_where_3 (i := 7) rfl) (vyb_cX6_where_3 (i := 8) rfl) (by decide +kernel)
theorem dX6_where_39 : decode cX6_where 39 = Except.ok (Instr.aload_n 0, 1) := vyd_42 (vyb_cX6_where_3 (i := 9) rfl)
theorem dX6_where_40 : decode cX6_where 40 = Except.ok (Instr.getfield 25, 3) := vyd_180 (vyb_cX6_where_4 (i := 0) rfl) (vyb_cX6_where_4 (i := 1) rfl) (vyb_cX6_where_4 (i := 2) rfl) rfl
theorem dX6_where_43 : decode cX6_where 43 = Except.ok (Instr.iload_n 1, 1) := vyd_27 (vyb_cX6_where_4 (i := 3) rfl)
theorem dX6_where_44 : decode cX6_where 44 = Except.ok (Instr.aaload, 1) := vyd_50 (vyb_cX6_where_4 (i := 4) rfl)
theorem dX6_where_45 : decode cX6_where 45 = Except.ok (Instr.getfield 67, 3) := vyd_180 (vyb_cX6_where_4 (i := 5) rfl) (vyb_cX6_where_4 (i := 6) rfl) (vyb_cX6_where_4 (i := 7) rfl) rfl
theorem dX6_where_48 : decode cX6_where 48 = Except.ok (Instr.iconst 1, 1) := vyd_4 (vyb_cX6_where_4 (i := 8) rfl)
theorem dX6_where_49 : decode cX6_where 49 = Except.ok (Instr.if_icmp .eq 7, 3) := vyd_159 (vyb_cX6_where_4 (i := 9) rfl) (vyb_cX6_where_5 (i := 0) rfl) (vyb_cX6_where_5 (i := 1) rfl) (by decide +kernel)
theorem dX6_where_52 : decode cX6_where 52 = Except.ok (Instr.iconst 1, 1) := vyd_4 (vyb_cX6_where_5 (i := 2) rfl)
theorem dX6_where_53 : decode cX6_where 53 = Except.ok (Instr.goto 4, 3) := vyd_167 (vyb_cX6_where_5 (i := 3) rfl) (vyb_cX6_where_5 (i := 4) rfl) (vyb_cX6_where_5 (i := 5) rfl) (by decide +kernel)
theorem dX6_where_56 : decode cX6_where 56 = Except.ok (Instr.iconst 0, 1) := vyd_3 (vyb_cX6_where_5 (i := 6) rfl)
theorem dX6_where_57 : decode cX6_where 57 = Except.ok (Instr.iconst 3, 1) := vyd_6 (vyb_cX6_where_5 (i := 7) rfl)
theorem dX6_where_58 : decode cX6_where 58 = Except.ok (Instr.invokevirtual 40, 3) := vyd_182 (vyb_cX6_where_5 (i := 8) rfl) (vyb_cX6_where_5 (i := 9) rfl) (vyb_cX6_where_6 (i := 0) rfl) rfl
theorem dX6_where_61 : decode cX6_where 61 = Except.ok (Instr.ifCond .eq 7, 3) := vyd_153 (vyb_cX6_where_6 (i := 1) rfl) (vyb_cX6_where_6 (i := 2) rfl) (vyb_cX6_where_6 (i := 3) rfl) (by decide +kernel)
theorem dX6_where_64 : decode cX6_where 64 = Except.ok (Instr.iconst 0, 1) := vyd_3 (vyb_cX6_where_6 (i := 4) rfl)
theorem dX6_where_65 : decode cX6_where 65 = Except.ok (Instr.goto 9, 3) := vyd_167 (vyb_cX6_where_6 (i := 5) rfl) (vyb_cX6_where_6 (i := 6) rfl) (vyb_cX6_where_6 (i := 7) rfl) (by decide +kernel)
theorem dX6_where_68 : decode cX6_where 68 = Except.ok (Instr.aload_n 0, 1) := vyd_42 (vyb_cX6_where_6 (i := 8) rfl)
theorem dX6_where_69 : decode cX6_where 69 = Except.ok (Instr.iload_n 1, 1) := vyd_27 (vyb_cX6_where_6 (i := 9) rfl)
theorem dX6_where_70 : decode cX6_where 70 = Except.ok (Instr.iload_n 2, 1) := vyd_28 (vyb_cX6_where_7 (i := 0) rfl)
theorem dX6_where_71 : decode cX6_where 71 = Except.ok (Instr.invokevirtual 197, 3) := vyd_182 (vyb_cX6_where_7 (i := 1) rfl) (vyb_cX6_where_7 (i := 2) rfl) (vyb_cX6_where_7 (i := 3) rfl) rfl
theorem dX6_where_74 : decode cX6_where 74 = Except.ok (Instr.ireturn, 1) := vyd_172 (vyb_cX6_where_7 (i := 4) rfl)
theorem vyb_cX6_order_0 {i : Nat} {b : UInt8} (h : ([0x2a, 0x1b, 0x03, 0x10, 0x07, 0xb8, 0x00, 0x2c, 0x9a, 0x00] : List UInt8)[i]? = some b) : vy_8 cX6_order (0 + i) b := vy_in (n := 10) (by decide +kernel) h
theorem vyb_cX6_order_1 {i : Nat} {b : UInt8} (h : ([0x07, 0x04, 0xa7, 0x00, 0x04, 0x03, 0x04, 0xb6, 0x00, 0x6e] : List UInt8)[i]? = some b) : vy_8 cX6_order (10 + i) b := vy_in (n := 10) (by decide +kernel) h
theorem vyb_cX6_order_2 {i : Nat} {b : UInt8} (h : ([0x9a, 0x00, 0x1c, 0x2a, 0x2a, 0xb4, 0x00, 0x13, 0xb6, 0x00] : List UInt8)[i]? = some b) : vy_8 cX6_order (20 + i) b := vy_in (n := 10) (by decide +kernel) h
theorem vyb_cX6_order_3 {i : Nat} {b : UInt8} (h : ([0x34, 0x10, 0x0a, 0xa0, 0x00, 0x07, 0x04, 0xa7, 0x00, 0x04] : List UInt8)[i]? = some b) : vy_8 cX6_order (30 + i) b := vy_in (n := 10) (by decide +kernel) h
theorem vyb_cX6_order_4 {i : Nat} {b : UInt8} (h : ([0x03, 0x05, 0xb6, 0x00, 0x28, 0x99, 0x00, 0x05, 0x03, 0xac] : List UInt8)[i]? = some b) : vy_8 cX6_order (40 + i) b := vy_in (n := 10) (by decide +kernel) h
theorem vyb_cX6_order_5 {i : Nat} {b : UInt8} (h : ([0x2a, 0xb4, 0x00, 0x13, 0x1b, 0xb8, 0x00, 0x46, 0xb6, 0x00] : List UInt8)[i]? = some b) : vy_8 cX6_order (50 + i) b := vy_in (n := 10) (by decide +kernel) h
theorem vyb_cX6_order_6 {i : Nat} {b : UInt8} (h : ([0x21, 0x57, 0x2a, 0xb4, 0x00, 0x13, 0xb6, 0x00, 0x34, 0xac] : List UInt8)[i]? = some b) : vy_8 cX6_order (60 + i) b := vy_in (n := 10) (by decide +kernel) h
theorem dX6_order_0 : decode cX6_order 0 = Except.ok (Instr.aload_n 0, 1) := vyd_42 (vyb_cX6_order_0 (i := 0) rfl)
theorem dX6_order_1 : decode cX6_order 1 = Except.ok (Instr.iload_n 1, 1) := vyd_27 (vyb_cX6_order_0 (i := 1) rfl)
theorem dX6_order_2 : decode cX6_order 2 = Except.ok (Instr.iconst 0, 1) := vyd_3 (vyb_cX6_order_0 (i := 2) rfl)
theorem dX6_order_3 : decode cX6_order 3 = Except.ok (Instr.bipush 7, 2) := vyd_16 (vyb_cX6_order_0 (i := 3) rfl) (vyb_cX6_order_0 (i := 4) rfl) (by decide +kernel)
theorem dX6_order_5 : decode cX6_order 5 = Except.ok (Instr.invokestatic 44, 3) := vyd_184 (vyb_cX6_order_0 (i := 5) rfl) (vyb_cX6_order_0 (i := 6) rfl) (vyb_cX6_order_0 (i := 7) rfl) rfl
theorem dX6_order_8 : decode cX6_order 8 = Except.ok (Instr.ifCond .ne 7, 3) := vyd_154 (vyb_cX6_order_0 (i := 8) rfl) (vyb_cX6_order_0 (i := 9) rfl) (vyb_cX6_order_1 (i := 0) rfl) (by decide +kernel)
theorem dX6_order_11 : decode cX6_order 11 = Except.ok (Instr.iconst 1, 1) := vyd_4 (vyb_cX6_order_1 (i := 1) rfl)
theorem dX6_order_12 : decode cX6_order 12 = Except.ok (Instr.goto 4, 3) := vyd_167 (vyb_cX6_order_1 (i := 2) rfl) (vyb_cX6_order_1 (i := 3) rfl) (vyb_cX6_order_1 (i := 4) rfl) (by decide +kernel)
theorem dX6_order_15 : decode cX6_order 15 = Except.ok (Instr.iconst 0, 1) := vyd_3 (vyb_cX6_order_1 (i := 5) rfl)
theorem dX6_order_16 : decode cX6_order 16 = Except.ok (Instr.iconst 1, 1) := vyd_4 (vyb_cX6_order_1 (i := 6) rfl)
theorem dX6_order_17 : decode cX6_order 17 = Except.ok (Instr.invokevirtual 110, 3) := vyd_182 (vyb_cX6_order_1 (i := 7) rfl) (vyb_cX6_order_1 (i := 8) rfl) (vyb_cX6_order_1 (i := 9) rfl) rfl
theorem dX6_order_20 : decode cX6_order 20 = Except.ok (Instr.ifCond .ne 28, 3) := vyd_154 (vyb_cX6_order_2 (i := 0) rfl) (vyb_cX6_order_2 (i := 1) rfl) (vyb_cX6_order_2 (i := 2) rfl) (by decide +kernel)
theorem dX6_order_23 : decode cX6_order 23 = Except.ok (Instr.aload_n 0, 1) := vyd_42 (vyb_cX6_order_2 (i := 3) rfl)
theorem dX6_order_24 : decode cX6_order 24 = Except.ok (Instr.aload_n 0, 1) := vyd_42 (vyb_cX6_order_2 (i := 4) rfl)
theorem dX6_order_25 : decode cX6_order 25 = Except.ok (Instr.getfield 19, 3) := vyd_180 (vyb_cX6_order_2 (i := 5) rfl) (vyb_cX6_order_2 (i := 6) rfl) (vyb_cX6_order_2 (i := 7) rfl) rfl
theorem dX6_order_28 : decode cX6_order 28 = Except.ok (Instr.invokevirtual 52, 3) := vyd_182 (vyb_cX6_order_2 (i := 8) rfl) (vyb_cX6_order_2 (i := 9) rfl) (vyb_cX6_order_3 (i := 0) rfl) rfl
theorem dX6_order_31 : decode cX6_order 31 = Except.ok (Instr.bipush 10, 2) := vyd_16 (vyb_cX6_order_3 (i := 1) rfl) (vyb_cX6_order_3 (i := 2) rfl) (by decide +kernel)
theorem dX6_order_33 : decode cX6_order 33 = Except.ok (Instr.if_icmp .ne 7, 3) := vyd_160 (vyb_cX6_order_3 (i := 3) rfl) (vyb_cX6_order_3 (i := 4) rfl) (vyb_cX6_order_3 (i := 5) rfl) (by decide +kernel)
theorem dX6_order_36 : decode cX6_order 36 = Except.ok (Instr.iconst 1, 1) := vyd_4 (vyb_cX6_order_3 (i := 6) rfl)
theorem dX6_order_37 : decode cX6_order 37 = Except.ok (Instr.goto 4, 3) := vyd_167 (vyb_cX6_order_3 (i := 7) rfl) (vyb_cX6_order_3 (i := 8) rfl) (vyb_cX6_order_3 (i := 9) rfl) (by decide +kernel)
theorem dX6_order_40 : decode cX6_order 40 = Except.ok (Instr.iconst 0, 1) := vyd_3 (vyb_cX6_order_4 (i := 0) rfl)
theorem dX6_order_41 : decode cX6_order 41 = Except.ok (Instr.iconst 2, 1) := vyd_5 (vyb_cX6_order_4 (i := 1) rfl)
theorem dX6_order_42 : decode cX6_order 42 = Except.ok (Instr.invokevirtual 40, 3) := vyd_182 (vyb_cX6_order_4 (i := 2) rfl) (vyb_cX6_order_4 (i := 3) rfl) (vyb_cX6_order_4 (i := 4) rfl) rfl
theorem dX6_order_45 : decode cX6_order 45 = Except.ok (Instr.ifCond .eq 5, 3) := vyd_153 (vyb_cX6_order_4 (i := 5) rfl) (vyb_cX6_order_4 (i := 6) rfl) (vyb_cX6_order_4 (i := 7) rfl) (by decide +kernel)
theorem dX6_order_48 : decode cX6_order 48 = Except.ok (Instr.iconst 0, 1) := vyd_3 (vyb_cX6_order_4 (i := 8) rfl)
theorem dX6_order_49 : decode cX6_order 49 = Except.ok (Instr.ireturn, 1) := vyd_172 (vyb_cX6_order_4 (i := 9) rfl)
theorem dX6_order_50 : decode cX6_order 50 = Except.ok (Instr.aload_n 0, 1) := vyd_42 (vyb_cX6_order_5 (i := 0) rfl)
theorem dX6_order_51 : decode cX6_order 51 = Except.ok (Instr.getfield 19, 3) := vyd_180 (vyb_cX6_order_5 (i := 1) rfl) (vyb_cX6_order_5 (i := 2) rfl) (vyb_cX6_order_5 (i := 3) rfl) rfl
theorem dX6_order_54 : decode cX6_order 54 = Except.ok (Instr.iload_n 1, 1) := vyd_27 (vyb_cX6_order_5 (i := 4) rfl)
theorem dX6_order_55 : decode cX6_order 55 = Except.ok (Instr.invokestatic 70, 3) := vyd_184 (vyb_cX6_order_5 (i := 5) rfl) (vyb_cX6_order_5 (i := 6) rfl) (vyb_cX6_order_5 (i := 7) rfl) rfl
theorem dX6_order_58 : decode cX6_order 58 = Except.ok (Instr.invokevirtual 33, 3) := vyd_182 (vyb_cX6_order_5 (i := 8) rfl) (vyb_cX6_order_5 (i := 9) rfl) (vyb_cX6_order_6 (i := 0) rfl) rfl
theorem dX6_order_61 : decode cX6_order 61 = Except.ok (Instr.pop, 1) := vyd_87 (vyb_cX6_order_6 (i := 1) rfl)
theorem dX6_order_62 : decode cX6_order 62 = Except.ok (Instr.aload_n 0, 1) := vyd_42 (vyb_cX6_order_6 (i := 2) rfl)
theorem dX6_order_63 : decode cX6_order 63 = Except.ok (Instr.getfield 19, 3) := vyd_180 (vyb_cX6_order_6 (i := 3) rfl) (vyb_cX6_order_6 (i := 4) rfl) (vyb_cX6_order_6 (i := 5) rfl) rfl
theorem dX6_order_66 : decode cX6_order 66 = Except.ok (Instr.invokevirtual 52, 3) := vyd_182 (vyb_cX6_order_6 (i := 6) rfl) (vyb_cX6_order_6 (i := 7) rfl) (vyb_cX6_order_6 (i := 8) rfl) rfl
theorem dX6_order_69 : decode cX6_order 69 = Except.ok (Instr.ireturn, 1) := vyd_172 (vyb_cX6_order_6 (i := 9) rfl)
theorem vyb_cX6_move_0 {i : Nat} {b : UInt8} (h : ([0x1b, 0x07, 0x6c, 0x3d, 0x1b, 0x05, 0x6c, 0x05, 0x70, 0x04] : List UInt8)[i]? = some b) : vy_8 cX6_move (0 + i) b := vy_in (n := 10) (by decide +kernel) h
theorem vyb_cX6_move_1 {i : Nat} {b : UInt8} (h : ([0xa0, 0x00, 0x07, 0x04, 0xa7, 0x00, 0x04, 0x03, 0x3e, 0x2a] : List UInt8)[i]? = some b) : vy_8 cX6_move (10 + i) b := vy_in (n := 10) (by decide +kernel) h
theorem vyb_cX6_move_2 {i : Nat} {b : UInt8} (h : ([0x1c, 0xb6, 0x00, 0x5b, 0x99, 0x00, 0x2c, 0x2a, 0x04, 0x1c] : List UInt8)[i]? = some b) : vy_8 cX6_move (20 + i) b := vy_in (n := 10) (by decide +kernel) h
theorem vyb_cX6_move_3 {i : Nat} {b : UInt8} (h : ([0x64, 0xb6, 0x00, 0x5b, 0x10, 0x14, 0x9f, 0x00, 0x20, 0x04] : List UInt8)[i]? = some b) : vy_8 cX6_move (30 + i) b := vy_in (n := 10) (by decide +kernel) h
theorem vyb_cX6_move_4 {i : Nat} {b : UInt8} (h : ([0x1c, 0x64, 0x2a, 0x1c, 0x1d, 0x99, 0x00, 0x0d, 0x2a, 0x1c] : List UInt8)[i]? = some b) : vy_8 cX6_move (40 + i) b := vy_in (n := 10) (by decide +kernel) h
theorem vyb_cX6_move_5 {i : Nat} {b : UInt8} (h : ([0xb6, 0x00, 0x5b, 0x04, 0x64, 0xa7, 0x00, 0x04, 0x03, 0xb6] : List UInt8)[i]? = some b) : vy_8 cX6_move (50 + i) b := vy_in (n := 10) (by decide +kernel) h
theorem vyb_cX6_move_6 {i : Nat} {b : UInt8} (h : ([0x00, 0x83, 0xb8, 0x00, 0x7c, 0x99, 0x00, 0x05, 0x03, 0xac] : List UInt8)[i]? = some b) : vy_8 cX6_move (60 + i) b := vy_in (n := 10) (by decide +kernel) h
theorem vyb_cX6_move_7 {i : Nat} {b : UInt8} (h : ([0x2a, 0x04, 0x1c, 0x64, 0x1b, 0x05, 0x70, 0x04, 0xa0, 0x00] : List UInt8)[i]? = some b) : vy_8 cX6_move (70 + i) b := vy_in (n := 10) (by decide +kernel) h
theorem vyb_cX6_move_8 {i : Nat} {b : UInt8} (h : ([0x07, 0x04, 0xa7, 0x00, 0x04, 0x03, 0x2a, 0x1c, 0x1d, 0xb6] : List UInt8)[i]? = some b) : vy_8 cX6_move (80 + i) b := vy_in (n := 10) (by decide +kernel) h
theorem vyb_cX6_move_9 {i : Nat} {b : UInt8} (h : ([0x00, 0x89, 0xb6, 0x00, 0x7f, 0x04, 0xac] : List UInt8)[i]? = some b) : vy_8 cX6_move (90 + i) b := vy_in (n := 7) (by decide +kernel) h
theorem dX6_move_0 : decode cX6_move 0 = Except.ok (Instr.iload_n 1, 1) := vyd_27 (vyb_cX6_move_0 (i := 0) rfl)
theorem dX6_move_1 : decode cX6_move 1 = Except.ok (Instr.iconst 4, 1) := vyd_7 (vyb_cX6_move_0 (i := 1) rfl)
theorem dX6_move_2 : decode cX6_move 2 = Except.ok (Instr.idiv, 1) := vyd_108 (vyb_cX6_move_0 (i := 2) rfl)
theorem dX6_move_3 : decode cX6_move 3 = Except.ok (Instr.istore_n 2, 1) := vyd_61 (vyb_cX6_move_0 (i := 3) rfl)
theorem dX6_move_4 : decode cX6_move 4 = Except.ok (Instr.iload_n 1, 1) := vyd_27 (vyb_cX6_move_0 (i := 4) rfl)
theorem dX6_move_5 : decode cX6_move 5 = Except.ok (Instr.iconst 2, 1) := vyd_5 (vyb_cX6_move_0 (i := 5) rfl)
theorem dX6_move_6 : decode cX6_move 6 = Except.ok (Instr.idiv, 1) := vyd_108 (vyb_cX6_move_0 (i := 6) rfl)
theorem dX6_move_7 : decode cX6_move 7 = Except.ok (Instr.iconst 2, 1) := vyd_5 (vyb_cX6_move_0 (i := 7) rfl)
theorem dX6_move_8 : decode cX6_move 8 = Except.ok (Instr.irem, 1) := vyd_112 (vyb_cX6_move_0 (i := 8) rfl)
theorem dX6_move_9 : decode cX6_move 9 = Except.ok (Instr.iconst 1, 1) := vyd_4 (vyb_cX6_move_0 (i := 9) rfl)
theorem dX6_move_10 : decode cX6_move 10 = Except.ok (Instr.if_icmp .ne 7, 3) := vyd_160 (vyb_cX6_move_1 (i := 0) rfl) (vyb_cX6_move_1 (i := 1) rfl) (vyb_cX6_move_1 (i := 2) rfl) (by decide +kernel)
theorem dX6_move_13 : decode cX6_move 13 = Except.ok (Instr.iconst 1, 1) := vyd_4 (vyb_cX6_move_1 (i := 3) rfl)
theorem dX6_move_14 : decode cX6_move 14 = Except.ok (Instr.goto 4, 3) := vyd_167 (vyb_cX6_move_1 (i := 4) rfl) (vyb_cX6_move_1 (i := 5) rfl) (vyb_cX6_move_1 (i := 6) rfl) (by decide +kernel)
theorem dX6_move_17 : decode cX6_move 17 = Except.ok (Instr.iconst 0, 1) := vyd_3 (vyb_cX6_move_1 (i := 7) rfl)
theorem dX6_move_18 : decode cX6_move 18 = Except.ok (Instr.istore_n 3, 1) := vyd_62 (vyb_cX6_move_1 (i := 8) rfl)
theorem dX6_move_19 : decode cX6_move 19 = Except.ok (Instr.aload_n 0, 1) := vyd_42 (vyb_cX6_move_1 (i := 9) rfl)
theorem dX6_move_20 : decode cX6_move 20 = Except.ok (Instr.iload_n 2, 1) := vyd_28 (vyb_cX6_move_2 (i := 0) rfl)
theorem dX6_move_21 : decode cX6_move 21 = Except.ok (Instr.invokevirtual 91, 3) := vyd_182 (vyb_cX6_move_2 (i := 1) rfl) (vyb_cX6_move_2 (i := 2) rfl) (vyb_cX6_move_2 (i := 3) rfl) rfl
theorem dX6_move_24 : decode cX6_move 24 = Except.ok (Instr.ifCond .eq 44, 3) := vyd_153 (vyb_cX6_move_2 (i := 4) rfl) (vyb_cX6_move_2 (i := 5) rfl) (vyb_cX6_move_2 (i := 6) rfl) (by decide +kernel)
theorem dX6_move_27 : decode cX6_move 27 = Except.ok (Instr.aload_n 0, 1) := vyd_42 (vyb_cX6_move_2 (i := 7) rfl)
theorem dX6_move_28 : decode cX6_move 28 = Except.ok (Instr.iconst 1, 1) := vyd_4 (vyb_cX6_move_2 (i := 8) rfl)
theorem dX6_move_29 : decode cX6_move 29 = Except.ok (Instr.iload_n 2, 1) := vyd_28 (vyb_cX6_move_2 (i := 9) rfl)
theorem dX6_move_30 : decode cX6_move 30 = Except.ok (Instr.isub, 1) := vyd_100 (vyb_cX6_move_3 (i := 0) rfl)
theorem dX6_move_31 : decode cX6_move 31 = Except.ok (Instr.invokevirtual 91, 3) := vyd_182 (vyb_cX6_move_3 (i := 1) rfl) (vyb_cX6_move_3 (i := 2) rfl) (vyb_cX6_move_3 (i := 3) rfl) rfl
theorem dX6_move_34 : decode cX6_move 34 = Except.ok (Instr.bipush 20, 2) := vyd_16 (vyb_cX6_move_3 (i := 4) rfl) (vyb_cX6_move_3 (i := 5) rfl) (by decide +kernel)
theorem dX6_move_36 : decode cX6_move 36 = Except.ok (Instr.if_icmp .eq 32, 3) := vyd_159 (vyb_cX6_move_3 (i := 6) rfl) (vyb_cX6_move_3 (i := 7) rfl) (vyb_cX6_move_3 (i := 8) rfl) (by decide +kernel)
theorem dX6_move_39 : decode cX6_move 39 = Except.ok (Instr.iconst 1, 1) := vyd_4 (vyb_cX6_move_3 (i := 9) rfl)
theorem dX6_move_40 : decode cX6_move 40 = Except.ok (Instr.iload_n 2, 1) := vyd_28 (vyb_cX6_move_4 (i := 0) rfl)
theorem dX6_move_41 : decode cX6_move 41 = Except.ok (Instr.isub, 1) := vyd_100 (vyb_cX6_move_4 (i := 1) rfl)
theorem dX6_move_42 : decode cX6_move 42 = Except.ok (Instr.aload_n 0, 1) := vyd_42 (vyb_cX6_move_4 (i := 2) rfl)
theorem dX6_move_43 : decode cX6_move 43 = Except.ok (Instr.iload_n 2, 1) := vyd_28 (vyb_cX6_move_4 (i := 3) rfl)
theorem dX6_move_44 : decode cX6_move 44 = Except.ok (Instr.iload_n 3, 1) := vyd_29 (vyb_cX6_move_4 (i := 4) rfl)
theorem dX6_move_45 : decode cX6_move 45 = Except.ok (Instr.ifCond .eq 13, 3) := vyd_153 (vyb_cX6_move_4 (i := 5) rfl) (vyb_cX6_move_4 (i := 6) rfl) (vyb_cX6_move_4 (i := 7) rfl) (by decide +kernel)
theorem dX6_move_48 : decode cX6_move 48 = Except.ok (Instr.aload_n 0, 1) := vyd_42 (vyb_cX6_move_4 (i := 8) rfl)
theorem dX6_move_49 : decode cX6_move 49 = Except.ok (Instr.iload_n 2, 1) := vyd_28 (vyb_cX6_move_4 (i := 9) rfl)
theorem dX6_move_50 : decode cX6_move 50 = Except.ok (Instr.invokevirtual 91, 3) := vyd_182 (vyb_cX6_move_5 (i := 0) rfl) (vyb_cX6_move_5 (i := 1) rfl) (vyb_cX6_move_5 (i := 2) rfl) rfl
theorem dX6_move_53 : decode cX6_move 53 = Except.ok (Instr.iconst 1, 1) := vyd_4 (vyb_cX6_move_5 (i := 3) rfl)
theorem dX6_move_54 : decode cX6_move 54 = Except.ok (Instr.isub, 1) := vyd_100 (vyb_cX6_move_5 (i := 4) rfl)
theorem dX6_move_55 : decode cX6_move 55 = Except.ok (Instr.goto 4, 3) := vyd_167 (vyb_cX6_move_5 (i := 5) rfl) (vyb_cX6_move_5 (i := 6) rfl) (vyb_cX6_move_5 (i := 7) rfl) (by decide +kernel)
theorem dX6_move_58 : decode cX6_move 58 = Except.ok (Instr.iconst 0, 1) := vyd_3 (vyb_cX6_move_5 (i := 8) rfl)
theorem dX6_move_59 : decode cX6_move 59 = Except.ok (Instr.invokevirtual 131, 3) := vyd_182 (vyb_cX6_move_5 (i := 9) rfl) (vyb_cX6_move_6 (i := 0) rfl) (vyb_cX6_move_6 (i := 1) rfl) rfl
theorem dX6_move_62 : decode cX6_move 62 = Except.ok (Instr.invokestatic 124, 3) := vyd_184 (vyb_cX6_move_6 (i := 2) rfl) (vyb_cX6_move_6 (i := 3) rfl) (vyb_cX6_move_6 (i := 4) rfl) rfl
theorem dX6_move_65 : decode cX6_move 65 = Except.ok (Instr.ifCond .eq 5, 3) := vyd_153 (vyb_cX6_move_6 (i := 5) rfl) (vyb_cX6_move_6 (i := 6) rfl) (vyb_cX6_move_6 (i := 7) rfl) (by decide +kernel)
theorem dX6_move_68 : decode cX6_move 68 = Except.ok (Instr.iconst 0, 1) := vyd_3 (vyb_cX6_move_6 (i := 8) rfl)
theorem dX6_move_69 : decode cX6_move 69 = Except.ok (Instr.ireturn, 1) := vyd_172 (vyb_cX6_move_6 (i := 9) rfl)
theorem dX6_move_70 : decode cX6_move 70 = Except.ok (Instr.aload_n 0, 1) := vyd_42 (vyb_cX6_move_7 (i := 0) rfl)
theorem dX6_move_71 : decode cX6_move 71 = Except.ok (Instr.iconst 1, 1) := vyd_4 (vyb_cX6_move_7 (i := 1) rfl)
theorem dX6_move_72 : decode cX6_move 72 = Except.ok (Instr.iload_n 2, 1) := vyd_28 (vyb_cX6_move_7 (i := 2) rfl)
theorem dX6_move_73 : decode cX6_move 73 = Except.ok (Instr.isub, 1) := vyd_100 (vyb_cX6_move_7 (i := 3) rfl)
theorem dX6_move_74 : decode cX6_move 74 = Except.ok (Instr.iload_n 1, 1) := vyd_27 (vyb_cX6_move_7 (i := 4) rfl)
theorem dX6_move_75 : decode cX6_move 75 = Except.ok (Instr.iconst 2, 1) := vyd_5 (vyb_cX6_move_7 (i := 5) rfl)
theorem dX6_move_76 : decode cX6_move 76 = Except.ok (Instr.irem, 1) := vyd_112 (vyb_cX6_move_7 (i := 6) rfl)
theorem dX6_move_77 : decode cX6_move 77 = Except.ok (Instr.iconst 1, 1) := vyd_4 (vyb_cX6_move_7 (i := 7) rfl)
theorem dX6_move_78 : decode cX6_move 78 = Except.ok (Instr.if_icmp .ne 7, 3) := vyd_160 (vyb_cX6_move_7 (i := 8) rfl) (vyb_cX6_move_7 (i := 9) rfl) (vyb_cX6_move_8 (i := 0) rfl) (by decide +kernel)
theorem dX6_move_81 : decode cX6_move 81 = Except.ok (Instr.iconst 1, 1) := vyd_4 (vyb_cX6_move_8 (i := 1) rfl)
theorem dX6_move_82 : decode cX6_move 82 = Except.ok (Instr.goto 4, 3) := vyd_167 (vyb_cX6_move_8 (i := 2) rfl) (vyb_cX6_move_8 (i := 3) rfl) (vyb_cX6_move_8 (i := 4) rfl) (by decide +kernel)
theorem dX6_move_85 : decode cX6_move 85 = Except.ok (Instr.iconst 0, 1) := vyd_3 (vyb_cX6_move_8 (i := 5) rfl)
theorem dX6_move_86 : decode cX6_move 86 = Except.ok (Instr.aload_n 0, 1) := vyd_42 (vyb_cX6_move_8 (i := 6) rfl)
theorem dX6_move_87 : decode cX6_move 87 = Except.ok (Instr.iload_n 2, 1) := vyd_28 (vyb_cX6_move_8 (i := 7) rfl)
theorem dX6_move_88 : decode cX6_move 88 = Except.ok (Instr.iload_n 3, 1) := vyd_29 (vyb_cX6_move_8 (i := 8) rfl)
theorem dX6_move_89 : decode cX6_move 89 = Except.ok (Instr.invokevirtual 137, 3) := vyd_182 (vyb_cX6_move_8 (i := 9) rfl) (vyb_cX6_move_9 (i := 0) rfl) (vyb_cX6_move_9 (i := 1) rfl) rfl
theorem dX6_move_92 : decode cX6_move 92 = Except.ok (Instr.invokevirtual 127, 3) := vyd_182 (vyb_cX6_move_9 (i := 2) rfl) (vyb_cX6_move_9 (i := 3) rfl) (vyb_cX6_move_9 (i := 4) rfl) rfl
theorem dX6_move_95 : decode cX6_move 95 = Except.ok (Instr.iconst 1, 1) := vyd_4 (vyb_cX6_move_9 (i := 5) rfl)
theorem dX6_move_96 : decode cX6_move 96 = Except.ok (Instr.ireturn, 1) := vyd_172 (vyb_cX6_move_9 (i := 6) rfl)
theorem vyb_cX6_work_0 {i : Nat} {b : UInt8} (h : ([0x2a, 0x1b, 0x04, 0x10, 0x0a, 0xb8, 0x00, 0x2c, 0x9a, 0x00] : List UInt8)[i]? = some b) : vy_8 cX6_work (0 + i) b := vy_in (n := 10) (by decide +kernel) h
theorem vyb_cX6_work_1 {i : Nat} {b : UInt8} (h : ([0x07, 0x04, 0xa7, 0x00, 0x04, 0x03, 0x04, 0xb6, 0x00, 0x6e] : List UInt8)[i]? = some b) : vy_8 cX6_work (10 + i) b := vy_in (n := 10) (by decide +kernel) h
theorem vyb_cX6_work_2 {i : Nat} {b : UInt8} (h : ([0x99, 0x00, 0x05, 0x03, 0xac, 0x03, 0x3d, 0x03, 0x3e, 0x1d] : List UInt8)[i]? = some b) : vy_8 cX6_work (20 + i) b := vy_in (n := 10) (by decide +kernel) h
theorem vyb_cX6_work_3 {i : Nat} {b : UInt8} (h : ([0x1b, 0xa2, 0x00, 0x3f, 0x2a, 0xb4, 0x00, 0x13, 0xb6, 0x00] : List UInt8)[i]? = some b) : vy_8 cX6_work (30 + i) b := vy_in (n := 10) (by decide +kernel) h
theorem vyb_cX6_work_4 {i : Nat} {b : UInt8} (h : ([0x96, 0x9a, 0x00, 0x35, 0x2a, 0xb4, 0x00, 0x13, 0x03, 0xb6] : List UInt8)[i]? = some b) : vy_8 cX6_work (40 + i) b := vy_in (n := 10) (by decide +kernel) h
theorem vyb_cX6_work_5 {i : Nat} {b : UInt8} (h : ([0x00, 0x51, 0xc0, 0x00, 0x38, 0xb6, 0x00, 0x3a, 0x36, 0x04] : List UInt8)[i]? = some b) : vy_8 cX6_work (50 + i) b := vy_in (n := 10) (by decide +kernel) h
theorem vyb_cX6_work_6 {i : Nat} {b : UInt8} (h : ([0x2a, 0x15, 0x04, 0xb6, 0x00, 0xc8, 0x99, 0x00, 0x09, 0x84] : List UInt8)[i]? = some b) : vy_8 cX6_work (60 + i) b := vy_in (n := 10) (by decide +kernel) h
theorem vyb_cX6_work_7 {i : Nat} {b : UInt8} (h : ([0x02, 0x01, 0xa7, 0x00, 0x10, 0x2a, 0xb4, 0x00, 0x13, 0x15] : List UInt8)[i]? = some b) : vy_8 cX6_work (70 + i) b := vy_in (n := 10) (by decide +kernel) h
theorem vyb_cX6_work_8 {i : Nat} {b : UInt8} (h : ([0x04, 0xb8, 0x00, 0x46, 0xb6, 0x00, 0x21, 0x57, 0x84, 0x03] : List UInt8)[i]? = some b) : vy_8 cX6_work (80 + i) b := vy_in (n := 10) (by decide +kernel) h
theorem vyb_cX6_work_9 {i : Nat} {b : UInt8} (h : ([0x01, 0xa7, 0xff, 0xc2, 0x1c, 0xac] : List UInt8)[i]? = some b) : vy_8 cX6_work (90 + i) b := vy_in (n := 6) (by decide +kernel) h
theorem dX6_work_0 : decode cX6_work 0 = Except.ok (Instr.aload_n 0, 1) := vyd_42 (vyb_cX6_work_0 (i := 0) rfl)
theorem dX6_work_1 : decode cX6_work 1 = Except.ok (Instr.iload_n 1, 1) := vyd_27 (vyb_cX6_work_0 (i := 1) rfl)
theorem dX6_work_2 : decode cX6_work 2 = Except.ok (Instr.iconst 1, 1) := vyd_4 (vyb_cX6_work_0 (i := 2) rfl)
theorem dX6_work_3 : decode cX6_work 3 = Except.ok (Instr.bipush 10, 2) := vyd_16 (vyb_cX6_work_0 (i := 3) rfl) (vyb_cX6_work_0 (i := 4) rfl) (by decide +kernel)
theorem dX6_work_5 : decode cX6_work 5 = Except.ok (Instr.invokestatic 44, 3) := vyd_184 (vyb_cX6_work_0 (i := 5) rfl) (vyb_cX6_work_0 (i := 6) rfl) (vyb_cX6_work_0 (i := 7) rfl) rfl
theorem dX6_work_8 : decode cX6_work 8 = Except.ok (Instr.ifCond .ne 7, 3) := vyd_154 (vyb_cX6_work_0 (i := 8) rfl) (vyb_cX6_work_0 (i := 9) rfl) (vyb_cX6_work_1 (i := 0) rfl) (by decide +kernel)
theorem dX6_work_11 : decode cX6_work 11 = Except.ok (Instr.iconst 1, 1) := vyd_4 (vyb_cX6_work_1 (i := 1) rfl)
theorem dX6_work_12 : decode cX6_work 12 = Except.ok (Instr.goto 4, 3) := vyd_167 (vyb_cX6_work_1 (i := 2) rfl) (vyb_cX6_work_1 (i := 3) rfl) (vyb_cX6_work_1 (i := 4) rfl) (by decide +kernel)
theorem dX6_work_15 : decode cX6_work 15 = Except.ok (Instr.iconst 0, 1) := vyd_3 (vyb_cX6_work_1 (i := 5) rfl)
theorem dX6_work_16 : decode cX6_work 16 = Except.ok (Instr.iconst 1, 1) := vyd_4 (vyb_cX6_work_1 (i := 6) rfl)
theorem dX6_work_17 : decode cX6_work 17 = Except.ok (Instr.invokevirtual 110, 3) := vyd_182 (vyb_cX6_work_1 (i := 7) rfl) (vyb_cX6_work_1 (i := 8) rfl) (vyb_cX6_work_1 (i := 9) rfl) rfl
theorem dX6_work_20 : decode cX6_work 20 = Except.ok (Instr.ifCond .eq 5, 3) := vyd_153 (vyb_cX6_work_2 (i := 0) rfl) (vyb_cX6_work_2 (i := 1) rfl) (vyb_cX6_work_2 (i := 2) rfl) (by decide +kernel)
theorem dX6_work_23 : decode cX6_work 23 = Except.ok (Instr.iconst 0, 1) := vyd_3 (vyb_cX6_work_2 (i := 3) rfl)
theorem dX6_work_24 : decode cX6_work 24 = Except.ok (Instr.ireturn, 1) := vyd_172 (vyb_cX6_work_2 (i := 4) rfl)
theorem dX6_work_25 : decode cX6_work 25 = Except.ok (Instr.iconst 0, 1) := vyd_3 (vyb_cX6_work_2 (i := 5) rfl)
theorem dX6_work_26 : decode cX6_work 26 = Except.ok (Instr.istore_n 2, 1) := vyd_61 (vyb_cX6_work_2 (i := 6) rfl)
theorem dX6_work_27 : decode cX6_work 27 = Except.ok (Instr.iconst 0, 1) := vyd_3 (vyb_cX6_work_2 (i := 7) rfl)
theorem dX6_work_28 : decode cX6_work 28 = Except.ok (Instr.istore_n 3, 1) := vyd_62 (vyb_cX6_work_2 (i := 8) rfl)
theorem dX6_work_29 : decode cX6_work 29 = Except.ok (Instr.iload_n 3, 1) := vyd_29 (vyb_cX6_work_2 (i := 9) rfl)
theorem dX6_work_30 : decode cX6_work 30 = Except.ok (Instr.iload_n 1, 1) := vyd_27 (vyb_cX6_work_3 (i := 0) rfl)
theorem dX6_work_31 : decode cX6_work 31 = Except.ok (Instr.if_icmp .ge 63, 3) := vyd_162 (vyb_cX6_work_3 (i := 1) rfl) (vyb_cX6_work_3 (i := 2) rfl) (vyb_cX6_work_3 (i := 3) rfl) (by decide +kernel)
theorem dX6_work_34 : decode cX6_work 34 = Except.ok (Instr.aload_n 0, 1) := vyd_42 (vyb_cX6_work_3 (i := 4) rfl)
theorem dX6_work_35 : decode cX6_work 35 = Except.ok (Instr.getfield 19, 3) := vyd_180 (vyb_cX6_work_3 (i := 5) rfl) (vyb_cX6_work_3 (i := 6) rfl) (vyb_cX6_work_3 (i := 7) rfl) rfl
theorem dX6_work_38 : decode cX6_work 38 = Except.ok (Instr.invokevirtual 150, 3) := vyd_182 (vyb_cX6_work_3 (i := 8) rfl) (vyb_cX6_work_3 (i := 9) rfl) (vyb_cX6_work_4 (i := 0) rfl) rfl
theorem dX6_work_41 : decode cX6_work 41 = Except.ok (Instr.ifCond .ne 53, 3) := vyd_154 (vyb_cX6_work_4 (i := 1) rfl) (vyb_cX6_work_4 (i := 2) rfl) (vyb_cX6_work_4 (i := 3) rfl) (by decide +kernel)
theorem dX6_work_44 : decode cX6_work 44 = Except.ok (Instr.aload_n 0, 1) := vyd_42 (vyb_cX6_work_4 (i := 4) rfl)
theorem dX6_work_45 : decode cX6_work 45 = Except.ok (Instr.getfield 19, 3) := vyd_180 (vyb_cX6_work_4 (i := 5) rfl) (vyb_cX6_work_4 (i := 6) rfl) (vyb_cX6_work_4 (i := 7) rfl) rfl
theorem dX6_work_48 : decode cX6_work 48 = Except.ok (Instr.iconst 0, 1) := vyd_3 (vyb_cX6_work_4 (i := 8) rfl)
theorem dX6_work_49 : decode cX6_work 49 = Except.ok (Instr.invokevirtual 81, 3) := vyd_182 (vyb_cX6_work_4 (i := 9) rfl) (vyb_cX6_work_5 (i := 0) rfl) (vyb_cX6_work_5 (i := 1) rfl) rfl
theorem dX6_work_52 : decode cX6_work 52 = Except.ok (Instr.checkcast 56, 3) := vyd_192 (vyb_cX6_work_5 (i := 2) rfl) (vyb_cX6_work_5 (i := 3) rfl) (vyb_cX6_work_5 (i := 4) rfl) rfl
theorem dX6_work_55 : decode cX6_work 55 = Except.ok (Instr.invokevirtual 58, 3) := vyd_182 (vyb_cX6_work_5 (i := 5) rfl) (vyb_cX6_work_5 (i := 6) rfl) (vyb_cX6_work_5 (i := 7) rfl) rfl
theorem dX6_work_58 : decode cX6_work 58 = Except.ok (Instr.istore 4, 2) := vyd_54 (vyb_cX6_work_5 (i := 8) rfl) (vyb_cX6_work_5 (i := 9) rfl) rfl
theorem dX6_work_60 : decode cX6_work 60 = Except.ok (Instr.aload_n 0, 1) := vyd_42 (vyb_cX6_work_6 (i := 0) rfl)
theorem dX6_work_61 : decode cX6_work 61 = Except.ok (Instr.iload 4, 2) := vyd_21 (vyb_cX6_work_6 (i := 1) rfl) (vyb_cX6_work_6 (i := 2) rfl) rfl
theorem dX6_work_63 : decode cX6_work 63 = Except.ok (Instr.invokevirtual 200, 3) := vyd_182 (vyb_cX6_work_6 (i := 3) rfl) (vyb_cX6_work_6 (i := 4) rfl) (vyb_cX6_work_6 (i := 5) rfl) rfl
theorem dX6_work_66 : decode cX6_work 66 = Except.ok (Instr.ifCond .eq 9, 3) := vyd_153 (vyb_cX6_work_6 (i := 6) rfl) (vyb_cX6_work_6 (i := 7) rfl) (vyb_cX6_work_6 (i := 8) rfl) (by decide +kernel)
theorem dX6_work_69 : decode cX6_work 69 = .ok (.iinc 2 1, 3) := by decide +kernel
theorem dX6_work_72 : decode cX6_work 72 = Except.ok (Instr.goto 16, 3) := vyd_167 (vyb_cX6_work_7 (i := 2) rfl) (vyb_cX6_work_7 (i := 3) rfl) (vyb_cX6_work_7 (i := 4) rfl) (by decide +kernel)
theorem dX6_work_75 : decode cX6_work 75 = Except.ok (Instr.aload_n 0, 1) := vyd_42 (vyb_cX6_work_7 (i := 5) rfl)
theorem dX6_work_76 : decode cX6_work 76 = Except.ok (Instr.getfield 19, 3) := vyd_180 (vyb_cX6_work_7 (i := 6) rfl) (vyb_cX6_work_7 (i := 7) rfl) (vyb_cX6_work_7 (i := 8) rfl) rfl
theorem dX6_work_79 : decode cX6_work 79 = Except.ok (Instr.iload 4, 2) := vyd_21 (vyb_cX6_work_7 (i := 9) rfl) (vyb_cX6_work_8 (i := 0) rfl) rfl
theorem dX6_work_81 : decode cX6_work 81 = Except.ok (Instr.invokestatic 70, 3) := vyd_184 (vyb_cX6_work_8 (i := 1) rfl) (vyb_cX6_work_8 (i := 2) rfl) (vyb_cX6_work_8 (i := 3) rfl) rfl
theorem dX6_work_84 : decode cX6_work 84 = Except.ok (Instr.invokevirtual 33, 3) := vyd_182 (vyb_cX6_work_8 (i := 4) rfl) (vyb_cX6_work_8 (i := 5) rfl) (vyb_cX6_work_8 (i := 6) rfl) rfl
theorem dX6_work_87 : decode cX6_work 87 = Except.ok (Instr.pop, 1) := vyd_87 (vyb_cX6_work_8 (i := 7) rfl)
theorem dX6_work_88 : decode cX6_work 88 = .ok (.iinc 3 1, 3) := by decide +kernel
theorem dX6_work_91 : decode cX6_work 91 = Except.ok (Instr.goto (-62), 3) := vyd_167 (vyb_cX6_work_9 (i := 1) rfl) (vyb_cX6_work_9 (i := 2) rfl) (vyb_cX6_work_9 (i := 3) rfl) (by decide +kernel)
theorem dX6_work_94 : decode cX6_work 94 = Except.ok (Instr.iload_n 2, 1) := vyd_28 (vyb_cX6_work_9 (i := 4) rfl)
theorem dX6_work_95 : decode cX6_work 95 = Except.ok (Instr.ireturn, 1) := vyd_172 (vyb_cX6_work_9 (i := 5) rfl)
theorem vyb_cX6_cancel_0 {i : Nat} {b : UInt8} (h : ([0x2a, 0x1b, 0x03, 0x10, 0x07, 0xb8, 0x00, 0x2c, 0x9a, 0x00] : List UInt8)[i]? = some b) : vy_8 cX6_cancel (0 + i) b := vy_in (n := 10) (by decide +kernel) h
theorem vyb_cX6_cancel_1 {i : Nat} {b : UInt8} (h : ([0x07, 0x04, 0xa7, 0x00, 0x04, 0x03, 0x04, 0xb6, 0x00, 0x6e] : List UInt8)[i]? = some b) : vy_8 cX6_cancel (10 + i) b := vy_in (n := 10) (by decide +kernel) h
theorem vyb_cX6_cancel_2 {i : Nat} {b : UInt8} (h : ([0x99, 0x00, 0x05, 0x03, 0xac, 0x02, 0x3e, 0x03, 0x36, 0x04] : List UInt8)[i]? = some b) : vy_8 cX6_cancel (20 + i) b := vy_in (n := 10) (by decide +kernel) h
theorem vyb_cX6_cancel_3 {i : Nat} {b : UInt8} (h : ([0x15, 0x04, 0x2a, 0xb4, 0x00, 0x13, 0xb6, 0x00, 0x34, 0xa2] : List UInt8)[i]? = some b) : vy_8 cX6_cancel (30 + i) b := vy_in (n := 10) (by decide +kernel) h
theorem vyb_cX6_cancel_4 {i : Nat} {b : UInt8} (h : ([0x00, 0x28, 0x2a, 0xb4, 0x00, 0x13, 0x15, 0x04, 0xb6, 0x00] : List UInt8)[i]? = some b) : vy_8 cX6_cancel (40 + i) b := vy_in (n := 10) (by decide +kernel) h
theorem vyb_cX6_cancel_5 {i : Nat} {b : UInt8} (h : ([0x30, 0xc0, 0x00, 0x38, 0xb6, 0x00, 0x3a, 0x1b, 0xa0, 0x00] : List UInt8)[i]? = some b) : vy_8 cX6_cancel (50 + i) b := vy_in (n := 10) (by decide +kernel) h
theorem vyb_cX6_cancel_6 {i : Nat} {b : UInt8} (h : ([0x0f, 0x1c, 0x9a, 0x00, 0x08, 0x1d, 0x02, 0xa0, 0x00, 0x06] : List UInt8)[i]? = some b) : vy_8 cX6_cancel (60 + i) b := vy_in (n := 10) (by decide +kernel) h
theorem vyb_cX6_cancel_7 {i : Nat} {b : UInt8} (h : ([0x15, 0x04, 0x3e, 0x84, 0x04, 0x01, 0xa7, 0xff, 0xd2, 0x1d] : List UInt8)[i]? = some b) : vy_8 cX6_cancel (70 + i) b := vy_in (n := 10) (by decide +kernel) h
theorem vyb_cX6_cancel_8 {i : Nat} {b : UInt8} (h : ([0x02, 0xa0, 0x00, 0x05, 0x03, 0xac, 0x2a, 0xb4, 0x00, 0x13] : List UInt8)[i]? = some b) : vy_8 cX6_cancel (80 + i) b := vy_in (n := 10) (by decide +kernel) h
theorem vyb_cX6_cancel_9 {i : Nat} {b : UInt8} (h : ([0x1d, 0xb6, 0x00, 0x51, 0x57, 0x04, 0xac] : List UInt8)[i]? = some b) : vy_8 cX6_cancel (90 + i) b := vy_in (n := 7) (by decide +kernel) h
theorem dX6_cancel_0 : decode cX6_cancel 0 = Except.ok (Instr.aload_n 0, 1) := vyd_42 (vyb_cX6_cancel_0 (i := 0) rfl)
theorem dX6_cancel_1 : decode cX6_cancel 1 = Except.ok (Instr.iload_n 1, 1) := vyd_27 (vyb_cX6_cancel_0 (i := 1) rfl)
theorem dX6_cancel_2 : decode cX6_cancel 2 = Except.ok (Instr.iconst 0, 1) := vyd_3 (vyb_cX6_cancel_0 (i := 2) rfl)
theorem dX6_cancel_3 : decode cX6_cancel 3 = Except.ok (Instr.bipush 7, 2) := vyd_16 (vyb_cX6_cancel_0 (i := 3) rfl) (vyb_cX6_cancel_0 (i := 4) rfl) (by decide +kernel)
theorem dX6_cancel_5 : decode cX6_cancel 5 = Except.ok (Instr.invokestatic 44, 3) := vyd_184 (vyb_cX6_cancel_0 (i := 5) rfl) (vyb_cX6_cancel_0 (i := 6) rfl) (vyb_cX6_cancel_0 (i := 7) rfl) rfl
theorem dX6_cancel_8 : decode cX6_cancel 8 = Except.ok (Instr.ifCond .ne 7, 3) := vyd_154 (vyb_cX6_cancel_0 (i := 8) rfl) (vyb_cX6_cancel_0 (i := 9) rfl) (vyb_cX6_cancel_1 (i := 0) rfl) (by decide +kernel)
theorem dX6_cancel_11 : decode cX6_cancel 11 = Except.ok (Instr.iconst 1, 1) := vyd_4 (vyb_cX6_cancel_1 (i := 1) rfl)
theorem dX6_cancel_12 : decode cX6_cancel 12 = Except.ok (Instr.goto 4, 3) := vyd_167 (vyb_cX6_cancel_1 (i := 2) rfl) (vyb_cX6_cancel_1 (i := 3) rfl) (vyb_cX6_cancel_1 (i := 4) rfl) (by decide +kernel)
theorem dX6_cancel_15 : decode cX6_cancel 15 = Except.ok (Instr.iconst 0, 1) := vyd_3 (vyb_cX6_cancel_1 (i := 5) rfl)
theorem dX6_cancel_16 : decode cX6_cancel 16 = Except.ok (Instr.iconst 1, 1) := vyd_4 (vyb_cX6_cancel_1 (i := 6) rfl)
theorem dX6_cancel_17 : decode cX6_cancel 17 = Except.ok (Instr.invokevirtual 110, 3) := vyd_182 (vyb_cX6_cancel_1 (i := 7) rfl) (vyb_cX6_cancel_1 (i := 8) rfl) (vyb_cX6_cancel_1 (i := 9) rfl) rfl
theorem dX6_cancel_20 : decode cX6_cancel 20 = Except.ok (Instr.ifCond .eq 5, 3) := vyd_153 (vyb_cX6_cancel_2 (i := 0) rfl) (vyb_cX6_cancel_2 (i := 1) rfl) (vyb_cX6_cancel_2 (i := 2) rfl) (by decide +kernel)
theorem dX6_cancel_23 : decode cX6_cancel 23 = Except.ok (Instr.iconst 0, 1) := vyd_3 (vyb_cX6_cancel_2 (i := 3) rfl)
theorem dX6_cancel_24 : decode cX6_cancel 24 = Except.ok (Instr.ireturn, 1) := vyd_172 (vyb_cX6_cancel_2 (i := 4) rfl)
theorem dX6_cancel_25 : decode cX6_cancel 25 = Except.ok (Instr.iconst (-1), 1) := vyd_2 (vyb_cX6_cancel_2 (i := 5) rfl)
theorem dX6_cancel_26 : decode cX6_cancel 26 = Except.ok (Instr.istore_n 3, 1) := vyd_62 (vyb_cX6_cancel_2 (i := 6) rfl)
theorem dX6_cancel_27 : decode cX6_cancel 27 = Except.ok (Instr.iconst 0, 1) := vyd_3 (vyb_cX6_cancel_2 (i := 7) rfl)
theorem dX6_cancel_28 : decode cX6_cancel 28 = Except.ok (Instr.istore 4, 2) := vyd_54 (vyb_cX6_cancel_2 (i := 8) rfl) (vyb_cX6_cancel_2 (i := 9) rfl) rfl
theorem dX6_cancel_30 : decode cX6_cancel 30 = Except.ok (Instr.iload 4, 2) := vyd_21 (vyb_cX6_cancel_3 (i := 0) rfl) (vyb_cX6_cancel_3 (i := 1) rfl) rfl
theorem dX6_cancel_32 : decode cX6_cancel 32 = Except.ok (Instr.aload_n 0, 1) := vyd_42 (vyb_cX6_cancel_3 (i := 2) rfl)
theorem dX6_cancel_33 : decode cX6_cancel 33 = Except.ok (Instr.getfield 19, 3) := vyd_180 (vyb_cX6_cancel_3 (i := 3) rfl) (vyb_cX6_cancel_3 (i := 4) rfl) (vyb_cX6_cancel_3 (i := 5) rfl) rfl
theorem dX6_cancel_36 : decode cX6_cancel 36 = Except.ok (Instr.invokevirtual 52, 3) := vyd_182 (vyb_cX6_cancel_3 (i := 6) rfl) (vyb_cX6_cancel_3 (i := 7) rfl) (vyb_cX6_cancel_3 (i := 8) rfl) rfl
theorem dX6_cancel_39 : decode cX6_cancel 39 = Except.ok (Instr.if_icmp .ge 40, 3) := vyd_162 (vyb_cX6_cancel_3 (i := 9) rfl) (vyb_cX6_cancel_4 (i := 0) rfl) (vyb_cX6_cancel_4 (i := 1) rfl) (by decide +kernel)
theorem dX6_cancel_42 : decode cX6_cancel 42 = Except.ok (Instr.aload_n 0, 1) := vyd_42 (vyb_cX6_cancel_4 (i := 2) rfl)
theorem dX6_cancel_43 : decode cX6_cancel 43 = Except.ok (Instr.getfield 19, 3) := vyd_180 (vyb_cX6_cancel_4 (i := 3) rfl) (vyb_cX6_cancel_4 (i := 4) rfl) (vyb_cX6_cancel_4 (i := 5) rfl) rfl
theorem dX6_cancel_46 : decode cX6_cancel 46 = Except.ok (Instr.iload 4, 2) := vyd_21 (vyb_cX6_cancel_4 (i := 6) rfl) (vyb_cX6_cancel_4 (i := 7) rfl) rfl
theorem dX6_cancel_48 : decode cX6_cancel 48 = Except.ok (Instr.invokevirtual 48, 3) := vyd_182 (vyb_cX6_cancel_4 (i := 8) rfl) (vyb_cX6_cancel_4 (i := 9) rfl) (vyb_cX6_cancel_5 (i := 0) rfl) rfl
theorem dX6_cancel_51 : decode cX6_cancel 51 = Except.ok (Instr.checkcast 56, 3) := vyd_192 (vyb_cX6_cancel_5 (i := 1) rfl) (vyb_cX6_cancel_5 (i := 2) rfl) (vyb_cX6_cancel_5 (i := 3) rfl) rfl
theorem dX6_cancel_54 : decode cX6_cancel 54 = Except.ok (Instr.invokevirtual 58, 3) := vyd_182 (vyb_cX6_cancel_5 (i := 4) rfl) (vyb_cX6_cancel_5 (i := 5) rfl) (vyb_cX6_cancel_5 (i := 6) rfl) rfl
theorem dX6_cancel_57 : decode cX6_cancel 57 = Except.ok (Instr.iload_n 1, 1) := vyd_27 (vyb_cX6_cancel_5 (i := 7) rfl)
theorem dX6_cancel_58 : decode cX6_cancel 58 = Except.ok (Instr.if_icmp .ne 15, 3) := vyd_160 (vyb_cX6_cancel_5 (i := 8) rfl) (vyb_cX6_cancel_5 (i := 9) rfl) (vyb_cX6_cancel_6 (i := 0) rfl) (by decide +kernel)
theorem dX6_cancel_61 : decode cX6_cancel 61 = Except.ok (Instr.iload_n 2, 1) := vyd_28 (vyb_cX6_cancel_6 (i := 1) rfl)
theorem dX6_cancel_62 : decode cX6_cancel 62 = Except.ok (Instr.ifCond .ne 8, 3) := vyd_154 (vyb_cX6_cancel_6 (i := 2) rfl) (vyb_cX6_cancel_6 (i := 3) rfl) (vyb_cX6_cancel_6 (i := 4) rfl) (by decide +kernel)
theorem dX6_cancel_65 : decode cX6_cancel 65 = Except.ok (Instr.iload_n 3, 1) := vyd_29 (vyb_cX6_cancel_6 (i := 5) rfl)
theorem dX6_cancel_66 : decode cX6_cancel 66 = Except.ok (Instr.iconst (-1), 1) := vyd_2 (vyb_cX6_cancel_6 (i := 6) rfl)
theorem dX6_cancel_67 : decode cX6_cancel 67 = Except.ok (Instr.if_icmp .ne 6, 3) := vyd_160 (vyb_cX6_cancel_6 (i := 7) rfl) (vyb_cX6_cancel_6 (i := 8) rfl) (vyb_cX6_cancel_6 (i := 9) rfl) (by decide +kernel)
theorem dX6_cancel_70 : decode cX6_cancel 70 = Except.ok (Instr.iload 4, 2) := vyd_21 (vyb_cX6_cancel_7 (i := 0) rfl) (vyb_cX6_cancel_7 (i := 1) rfl) rfl
theorem dX6_cancel_72 : decode cX6_cancel 72 = Except.ok (Instr.istore_n 3, 1) := vyd_62 (vyb_cX6_cancel_7 (i := 2) rfl)
theorem dX6_cancel_73 : decode cX6_cancel 73 = .ok (.iinc 4 1, 3) := by decide +kernel
theorem dX6_cancel_76 : decode cX6_cancel 76 = Except.ok (Instr.goto (-46), 3) := vyd_167 (vyb_cX6_cancel_7 (i := 6) rfl) (vyb_cX6_cancel_7 (i := 7) rfl) (vyb_cX6_cancel_7 (i := 8) rfl) (by decide +kernel)
theorem dX6_cancel_79 : decode cX6_cancel 79 = Except.ok (Instr.iload_n 3, 1) := vyd_29 (vyb_cX6_cancel_7 (i := 9) rfl)
theorem dX6_cancel_80 : decode cX6_cancel 80 = Except.ok (Instr.iconst (-1), 1) := vyd_2 (vyb_cX6_cancel_8 (i := 0) rfl)
theorem dX6_cancel_81 : decode cX6_cancel 81 = Except.ok (Instr.if_icmp .ne 5, 3) := vyd_160 (vyb_cX6_cancel_8 (i := 1) rfl) (vyb_cX6_cancel_8 (i := 2) rfl) (vyb_cX6_cancel_8 (i := 3) rfl) (by decide +kernel)
theorem dX6_cancel_84 : decode cX6_cancel 84 = Except.ok (Instr.iconst 0, 1) := vyd_3 (vyb_cX6_cancel_8 (i := 4) rfl)
theorem dX6_cancel_85 : decode cX6_cancel 85 = Except.ok (Instr.ireturn, 1) := vyd_172 (vyb_cX6_cancel_8 (i := 5) rfl)
theorem dX6_cancel_86 : decode cX6_cancel 86 = Except.ok (Instr.aload_n 0, 1) := vyd_42 (vyb_cX6_cancel_8 (i := 6) rfl)
theorem dX6_cancel_87 : decode cX6_cancel 87 = Except.ok (Instr.getfield 19, 3) := vyd_180 (vyb_cX6_cancel_8 (i := 7) rfl) (vyb_cX6_cancel_8 (i := 8) rfl) (vyb_cX6_cancel_8 (i := 9) rfl) rfl
theorem dX6_cancel_90 : decode cX6_cancel 90 = Except.ok (Instr.iload_n 3, 1) := vyd_29 (vyb_cX6_cancel_9 (i := 0) rfl)
theorem dX6_cancel_91 : decode cX6_cancel 91 = Except.ok (Instr.invokevirtual 81, 3) := vyd_182 (vyb_cX6_cancel_9 (i := 1) rfl) (vyb_cX6_cancel_9 (i := 2) rfl) (vyb_cX6_cancel_9 (i := 3) rfl) rfl
theorem dX6_cancel_94 : decode cX6_cancel 94 = Except.ok (Instr.pop, 1) := vyd_87 (vyb_cX6_cancel_9 (i := 4) rfl)
theorem dX6_cancel_95 : decode cX6_cancel 95 = Except.ok (Instr.iconst 1, 1) := vyd_4 (vyb_cX6_cancel_9 (i := 5) rfl)
theorem dX6_cancel_96 : decode cX6_cancel 96 = Except.ok (Instr.ireturn, 1) := vyd_172 (vyb_cX6_cancel_9 (i := 6) rfl)
theorem vyb_cX6_asked_0 {i : Nat} {b : UInt8} (h : ([0x1c, 0x04, 0x9f, 0x00, 0x08, 0x1c, 0x06, 0xa0, 0x00, 0x07] : List UInt8)[i]? = some b) : vy_8 cX6_asked (0 + i) b := vy_in (n := 10) (by decide +kernel) h
theorem vyb_cX6_asked_1 {i : Nat} {b : UInt8} (h : ([0x04, 0xa7, 0x00, 0x04, 0x03, 0x3e, 0x2a, 0x1b, 0xb6, 0x00] : List UInt8)[i]? = some b) : vy_8 cX6_asked (10 + i) b := vy_in (n := 10) (by decide +kernel) h
theorem vyb_cX6_asked_2 {i : Nat} {b : UInt8} (h : ([0x5b, 0x9a, 0x00, 0x14, 0x1c, 0x05, 0xa1, 0x00, 0x08, 0x1c] : List UInt8)[i]? = some b) : vy_8 cX6_asked (20 + i) b := vy_in (n := 10) (by decide +kernel) h
theorem vyb_cX6_asked_3 {i : Nat} {b : UInt8} (h : ([0x07, 0xa0, 0x00, 0x08, 0x10, 0xf7, 0xa7, 0x00, 0x04, 0x03] : List UInt8)[i]? = some b) : vy_8 cX6_asked (30 + i) b := vy_in (n := 10) (by decide +kernel) h
theorem vyb_cX6_asked_4 {i : Nat} {b : UInt8} (h : ([0xac, 0x2a, 0x1b, 0x1d, 0x99, 0x00, 0x0d, 0x2a, 0x1b, 0xb6] : List UInt8)[i]? = some b) : vy_8 cX6_asked (40 + i) b := vy_in (n := 10) (by decide +kernel) h
theorem vyb_cX6_asked_5 {i : Nat} {b : UInt8} (h : ([0x00, 0x5b, 0x04, 0x64, 0xa7, 0x00, 0x04, 0x03, 0xb6, 0x00] : List UInt8)[i]? = some b) : vy_8 cX6_asked (50 + i) b := vy_in (n := 10) (by decide +kernel) h
theorem vyb_cX6_asked_6 {i : Nat} {b : UInt8} (h : ([0x83, 0xac] : List UInt8)[i]? = some b) : vy_8 cX6_asked (60 + i) b := vy_in (n := 2) (by decide +kernel) h
theorem dX6_asked_0 : decode cX6_asked 0 = Except.ok (Instr.iload_n 2, 1) := vyd_28 (vyb_cX6_asked_0 (i := 0) rfl)
theorem dX6_asked_1 : decode cX6_asked 1 = Except.ok (Instr.iconst 1, 1) := vyd_4 (vyb_cX6_asked_0 (i := 1) rfl)
theorem dX6_asked_2 : decode cX6_asked 2 = Except.ok (Instr.if_icmp .eq 8, 3) := vyd_159 (vyb_cX6_asked_0 (i := 2) rfl) (vyb_cX6_asked_0 (i := 3) rfl) (vyb_cX6_asked_0 (i := 4) rfl) (by decide +kernel)
theorem dX6_asked_5 : decode cX6_asked 5 = Except.ok (Instr.iload_n 2, 1) := vyd_28 (vyb_cX6_asked_0 (i := 5) rfl)
theorem dX6_asked_6 : decode cX6_asked 6 = Except.ok (Instr.iconst 3, 1) := vyd_6 (vyb_cX6_asked_0 (i := 6) rfl)
theorem dX6_asked_7 : decode cX6_asked 7 = Except.ok (Instr.if_icmp .ne 7, 3) := vyd_160 (vyb_cX6_asked_0 (i := 7) rfl) (vyb_cX6_asked_0 (i := 8) rfl) (vyb_cX6_asked_0 (i := 9) rfl) (by decide +kernel)
theorem dX6_asked_10 : decode cX6_asked 10 = Except.ok (Instr.iconst 1, 1) := vyd_4 (vyb_cX6_asked_1 (i := 0) rfl)
theorem dX6_asked_11 : decode cX6_asked 11 = Except.ok (Instr.goto 4, 3) := vyd_167 (vyb_cX6_asked_1 (i := 1) rfl) (vyb_cX6_asked_1 (i := 2) rfl) (vyb_cX6_asked_1 (i := 3) rfl) (by decide +kernel)
theorem dX6_asked_14 : decode cX6_asked 14 = Except.ok (Instr.iconst 0, 1) := vyd_3 (vyb_cX6_asked_1 (i := 4) rfl)
theorem dX6_asked_15 : decode cX6_asked 15 = Except.ok (Instr.istore_n 3, 1) := vyd_62 (vyb_cX6_asked_1 (i := 5) rfl)
theorem dX6_asked_16 : decode cX6_asked 16 = Except.ok (Instr.aload_n 0, 1) := vyd_42 (vyb_cX6_asked_1 (i := 6) rfl)
theorem dX6_asked_17 : decode cX6_asked 17 = Except.ok (Instr.iload_n 1, 1) := vyd_27 (vyb_cX6_asked_1 (i := 7) rfl)
theorem dX6_asked_18 : decode cX6_asked 18 = Except.ok (Instr.invokevirtual 91, 3) := vyd_182 (vyb_cX6_asked_1 (i := 8) rfl) (vyb_cX6_asked_1 (i := 9) rfl) (vyb_cX6_asked_2 (i := 0) rfl) rfl
theorem dX6_asked_21 : decode cX6_asked 21 = Except.ok (Instr.ifCond .ne 20, 3) := vyd_154 (vyb_cX6_asked_2 (i := 1) rfl) (vyb_cX6_asked_2 (i := 2) rfl) (vyb_cX6_asked_2 (i := 3) rfl) (by decide +kernel)
theorem dX6_asked_24 : decode cX6_asked 24 = Except.ok (Instr.iload_n 2, 1) := vyd_28 (vyb_cX6_asked_2 (i := 4) rfl)
theorem dX6_asked_25 : decode cX6_asked 25 = Except.ok (Instr.iconst 2, 1) := vyd_5 (vyb_cX6_asked_2 (i := 5) rfl)
theorem dX6_asked_26 : decode cX6_asked 26 = Except.ok (Instr.if_icmp .lt 8, 3) := vyd_161 (vyb_cX6_asked_2 (i := 6) rfl) (vyb_cX6_asked_2 (i := 7) rfl) (vyb_cX6_asked_2 (i := 8) rfl) (by decide +kernel)
theorem dX6_asked_29 : decode cX6_asked 29 = Except.ok (Instr.iload_n 2, 1) := vyd_28 (vyb_cX6_asked_2 (i := 9) rfl)
theorem dX6_asked_30 : decode cX6_asked 30 = Except.ok (Instr.iconst 4, 1) := vyd_7 (vyb_cX6_asked_3 (i := 0) rfl)
theorem dX6_asked_31 : decode cX6_asked 31 = Except.ok (Instr.if_icmp .ne 8, 3) := vyd_160 (vyb_cX6_asked_3 (i := 1) rfl) (vyb_cX6_asked_3 (i := 2) rfl) (vyb_cX6_asked_3 (i := 3) rfl) (by decide +kernel)
theorem dX6_asked_34 : decode cX6_asked 34 = Except.ok (Instr.bipush (-9), 2) := vyd_16 (vyb_cX6_asked_3 (i := 4) rfl) (vyb_cX6_asked_3 (i := 5) rfl) (by decide +kernel)
theorem dX6_asked_36 : decode cX6_asked 36 = Except.ok (Instr.goto 4, 3) := vyd_167 (vyb_cX6_asked_3 (i := 6) rfl) (vyb_cX6_asked_3 (i := 7) rfl) (vyb_cX6_asked_3 (i := 8) rfl) (by decide +kernel)
theorem dX6_asked_39 : decode cX6_asked 39 = Except.ok (Instr.iconst 0, 1) := vyd_3 (vyb_cX6_asked_3 (i := 9) rfl)
theorem dX6_asked_40 : decode cX6_asked 40 = Except.ok (Instr.ireturn, 1) := vyd_172 (vyb_cX6_asked_4 (i := 0) rfl)
theorem dX6_asked_41 : decode cX6_asked 41 = Except.ok (Instr.aload_n 0, 1) := vyd_42 (vyb_cX6_asked_4 (i := 1) rfl)
theorem dX6_asked_42 : decode cX6_asked 42 = Except.ok (Instr.iload_n 1, 1) := vyd_27 (vyb_cX6_asked_4 (i := 2) rfl)
theorem dX6_asked_43 : decode cX6_asked 43 = Except.ok (Instr.iload_n 3, 1) := vyd_29 (vyb_cX6_asked_4 (i := 3) rfl)
theorem dX6_asked_44 : decode cX6_asked 44 = Except.ok (Instr.ifCond .eq 13, 3) := vyd_153 (vyb_cX6_asked_4 (i := 4) rfl) (vyb_cX6_asked_4 (i := 5) rfl) (vyb_cX6_asked_4 (i := 6) rfl) (by decide +kernel)
theorem dX6_asked_47 : decode cX6_asked 47 = Except.ok (Instr.aload_n 0, 1) := vyd_42 (vyb_cX6_asked_4 (i := 7) rfl)
theorem dX6_asked_48 : decode cX6_asked 48 = Except.ok (Instr.iload_n 1, 1) := vyd_27 (vyb_cX6_asked_4 (i := 8) rfl)
theorem dX6_asked_49 : decode cX6_asked 49 = Except.ok (Instr.invokevirtual 91, 3) := vyd_182 (vyb_cX6_asked_4 (i := 9) rfl) (vyb_cX6_asked_5 (i := 0) rfl) (vyb_cX6_asked_5 (i := 1) rfl) rfl
theorem dX6_asked_52 : decode cX6_asked 52 = Except.ok (Instr.iconst 1, 1) := vyd_4 (vyb_cX6_asked_5 (i := 2) rfl)
theorem dX6_asked_53 : decode cX6_asked 53 = Except.ok (Instr.isub, 1) := vyd_100 (vyb_cX6_asked_5 (i := 3) rfl)
theorem dX6_asked_54 : decode cX6_asked 54 = Except.ok (Instr.goto 4, 3) := vyd_167 (vyb_cX6_asked_5 (i := 4) rfl) (vyb_cX6_asked_5 (i := 5) rfl) (vyb_cX6_asked_5 (i := 6) rfl) (by decide +kernel)
theorem dX6_asked_57 : decode cX6_asked 57 = Except.ok (Instr.iconst 0, 1) := vyd_3 (vyb_cX6_asked_5 (i := 7) rfl)
theorem dX6_asked_58 : decode cX6_asked 58 = Except.ok (Instr.invokevirtual 131, 3) := vyd_182 (vyb_cX6_asked_5 (i := 8) rfl) (vyb_cX6_asked_5 (i := 9) rfl) (vyb_cX6_asked_6 (i := 0) rfl) rfl
theorem dX6_asked_61 : decode cX6_asked 61 = Except.ok (Instr.ireturn, 1) := vyd_172 (vyb_cX6_asked_6 (i := 1) rfl)
theorem vyb_cX6_ask_0 {i : Nat} {b : UInt8} (h : ([0x2a, 0x1b, 0xb8, 0x00, 0x6a, 0x04, 0xb6, 0x00, 0x6e, 0x9a] : List UInt8)[i]? = some b) : vy_8 cX6_ask (0 + i) b := vy_in (n := 10) (by decide +kernel) h
theorem vyb_cX6_ask_1 {i : Nat} {b : UInt8} (h : ([0x00, 0x19, 0x2a, 0x1c, 0x03, 0x08, 0xb8, 0x00, 0x2c, 0x9a] : List UInt8)[i]? = some b) : vy_8 cX6_ask (10 + i) b := vy_in (n := 10) (by decide +kernel) h
theorem vyb_cX6_ask_2 {i : Nat} {b : UInt8} (h : ([0x00, 0x07, 0x04, 0xa7, 0x00, 0x04, 0x03, 0x05, 0xb6, 0x00] : List UInt8)[i]? = some b) : vy_8 cX6_ask (20 + i) b := vy_in (n := 10) (by decide +kernel) h
theorem vyb_cX6_ask_3 {i : Nat} {b : UInt8} (h : ([0x28, 0x99, 0x00, 0x07, 0x03, 0xa7, 0x00, 0x09, 0x2a, 0x1b] : List UInt8)[i]? = some b) : vy_8 cX6_ask (30 + i) b := vy_in (n := 10) (by decide +kernel) h
theorem vyb_cX6_ask_4 {i : Nat} {b : UInt8} (h : ([0x1c, 0xb6, 0x00, 0xcb, 0xac] : List UInt8)[i]? = some b) : vy_8 cX6_ask (40 + i) b := vy_in (n := 5) (by decide +kernel) h
theorem dX6_ask_0 : decode cX6_ask 0 = Except.ok (Instr.aload_n 0, 1) := vyd_42 (vyb_cX6_ask_0 (i := 0) rfl)
theorem dX6_ask_1 : decode cX6_ask 1 = Except.ok (Instr.iload_n 1, 1) := vyd_27 (vyb_cX6_ask_0 (i := 1) rfl)
theorem dX6_ask_2 : decode cX6_ask 2 = Except.ok (Instr.invokestatic 106, 3) := vyd_184 (vyb_cX6_ask_0 (i := 2) rfl) (vyb_cX6_ask_0 (i := 3) rfl) (vyb_cX6_ask_0 (i := 4) rfl) rfl
theorem dX6_ask_5 : decode cX6_ask 5 = Except.ok (Instr.iconst 1, 1) := vyd_4 (vyb_cX6_ask_0 (i := 5) rfl)
theorem dX6_ask_6 : decode cX6_ask 6 = Except.ok (Instr.invokevirtual 110, 3) := vyd_182 (vyb_cX6_ask_0 (i := 6) rfl) (vyb_cX6_ask_0 (i := 7) rfl) (vyb_cX6_ask_0 (i := 8) rfl) rfl
theorem dX6_ask_9 : decode cX6_ask 9 = Except.ok (Instr.ifCond .ne 25, 3) := vyd_154 (vyb_cX6_ask_0 (i := 9) rfl) (vyb_cX6_ask_1 (i := 0) rfl) (vyb_cX6_ask_1 (i := 1) rfl) (by decide +kernel)
theorem dX6_ask_12 : decode cX6_ask 12 = Except.ok (Instr.aload_n 0, 1) := vyd_42 (vyb_cX6_ask_1 (i := 2) rfl)
theorem dX6_ask_13 : decode cX6_ask 13 = Except.ok (Instr.iload_n 2, 1) := vyd_28 (vyb_cX6_ask_1 (i := 3) rfl)
theorem dX6_ask_14 : decode cX6_ask 14 = Except.ok (Instr.iconst 0, 1) := vyd_3 (vyb_cX6_ask_1 (i := 4) rfl)
theorem dX6_ask_15 : decode cX6_ask 15 = Except.ok (Instr.iconst 5, 1) := vyd_8 (vyb_cX6_ask_1 (i := 5) rfl)
theorem dX6_ask_16 : decode cX6_ask 16 = Except.ok (Instr.invokestatic 44, 3) := vyd_184 (vyb_cX6_ask_1 (i := 6) rfl) (vyb_cX6_ask_1 (i := 7) rfl) (vyb_cX6_ask_1 (i := 8) rfl) rfl
theorem dX6_ask_19 : decode cX6_ask 19 = Except.ok (Instr.ifCond .ne 7, 3) := vyd_154 (vyb_cX6_ask_1 (i := 9) rfl) (vyb_cX6_ask_2 (i := 0) rfl) (vyb_cX6_ask_2 (i := 1) rfl) (by decide +kernel)
theorem dX6_ask_22 : decode cX6_ask 22 = Except.ok (Instr.iconst 1, 1) := vyd_4 (vyb_cX6_ask_2 (i := 2) rfl)
theorem dX6_ask_23 : decode cX6_ask 23 = Except.ok (Instr.goto 4, 3) := vyd_167 (vyb_cX6_ask_2 (i := 3) rfl) (vyb_cX6_ask_2 (i := 4) rfl) (vyb_cX6_ask_2 (i := 5) rfl) (by decide +kernel)
theorem dX6_ask_26 : decode cX6_ask 26 = Except.ok (Instr.iconst 0, 1) := vyd_3 (vyb_cX6_ask_2 (i := 6) rfl)
theorem dX6_ask_27 : decode cX6_ask 27 = Except.ok (Instr.iconst 2, 1) := vyd_5 (vyb_cX6_ask_2 (i := 7) rfl)
theorem dX6_ask_28 : decode cX6_ask 28 = Except.ok (Instr.invokevirtual 40, 3) := vyd_182 (vyb_cX6_ask_2 (i := 8) rfl) (vyb_cX6_ask_2 (i := 9) rfl) (vyb_cX6_ask_3 (i := 0) rfl) rfl
theorem dX6_ask_31 : decode cX6_ask 31 = Except.ok (Instr.ifCond .eq 7, 3) := vyd_153 (vyb_cX6_ask_3 (i := 1) rfl) (vyb_cX6_ask_3 (i := 2) rfl) (vyb_cX6_ask_3 (i := 3) rfl) (by decide +kernel)
theorem dX6_ask_34 : decode cX6_ask 34 = Except.ok (Instr.iconst 0, 1) := vyd_3 (vyb_cX6_ask_3 (i := 4) rfl)
theorem dX6_ask_35 : decode cX6_ask 35 = Except.ok (Instr.goto 9, 3) := vyd_167 (vyb_cX6_ask_3 (i := 5) rfl) (vyb_cX6_ask_3 (i := 6) rfl) (vyb_cX6_ask_3 (i := 7) rfl) (by decide +kernel)
theorem dX6_ask_38 : decode cX6_ask 38 = Except.ok (Instr.aload_n 0, 1) := vyd_42 (vyb_cX6_ask_3 (i := 8) rfl)
theorem dX6_ask_39 : decode cX6_ask 39 = Except.ok (Instr.iload_n 1, 1) := vyd_27 (vyb_cX6_ask_3 (i := 9) rfl)
theorem dX6_ask_40 : decode cX6_ask 40 = Except.ok (Instr.iload_n 2, 1) := vyd_28 (vyb_cX6_ask_4 (i := 0) rfl)
theorem dX6_ask_41 : decode cX6_ask 41 = Except.ok (Instr.invokevirtual 203, 3) := vyd_182 (vyb_cX6_ask_4 (i := 1) rfl) (vyb_cX6_ask_4 (i := 2) rfl) (vyb_cX6_ask_4 (i := 3) rfl) rfl
theorem dX6_ask_44 : decode cX6_ask 44 = Except.ok (Instr.ireturn, 1) := vyd_172 (vyb_cX6_ask_4 (i := 4) rfl)
theorem vyb_cX6_trackTold_0 {i : Nat} {b : UInt8} (h : ([0x03, 0x3e, 0x04, 0x36, 0x04, 0x03, 0x36, 0x05, 0x15, 0x05] : List UInt8)[i]? = some b) : vy_8 cX6_trackTold (0 + i) b := vy_in (n := 10) (by decide +kernel) h
theorem vyb_cX6_trackTold_1 {i : Nat} {b : UInt8} (h : ([0x2a, 0x1b, 0xb6, 0x00, 0x5b, 0xa2, 0x00, 0x28, 0x1d, 0x2a] : List UInt8)[i]? = some b) : vy_8 cX6_trackTold (10 + i) b := vy_in (n := 10) (by decide +kernel) h
theorem vyb_cX6_trackTold_2 {i : Nat} {b : UInt8} (h : ([0x1b, 0x15, 0x05, 0xb6, 0x00, 0x83, 0xb8, 0x00, 0xab, 0x60] : List UInt8)[i]? = some b) : vy_8 cX6_trackTold (20 + i) b := vy_in (n := 10) (by decide +kernel) h
theorem vyb_cX6_trackTold_3 {i : Nat} {b : UInt8} (h : ([0x3e, 0x10, 0x1f, 0x15, 0x04, 0x68, 0x2a, 0x1b, 0x15, 0x05] : List UInt8)[i]? = some b) : vy_8 cX6_trackTold (30 + i) b := vy_in (n := 10) (by decide +kernel) h
theorem vyb_cX6_trackTold_4 {i : Nat} {b : UInt8} (h : ([0xb6, 0x00, 0x83, 0xb8, 0x00, 0x9a, 0x60, 0x36, 0x04, 0x84] : List UInt8)[i]? = some b) : vy_8 cX6_trackTold (40 + i) b := vy_in (n := 10) (by decide +kernel) h
theorem vyb_cX6_trackTold_5 {i : Nat} {b : UInt8} (h : ([0x05, 0x01, 0xa7, 0xff, 0xd4, 0x07, 0xbc, 0x0a, 0x59, 0x03] : List UInt8)[i]? = some b) : vy_8 cX6_trackTold (50 + i) b := vy_in (n := 10) (by decide +kernel) h
theorem vyb_cX6_trackTold_6 {i : Nat} {b : UInt8} (h : ([0x2a, 0x1b, 0xb6, 0x00, 0x5b, 0x4f, 0x59, 0x04, 0x2a, 0x1b] : List UInt8)[i]? = some b) : vy_8 cX6_trackTold (60 + i) b := vy_in (n := 10) (by decide +kernel) h
theorem vyb_cX6_trackTold_7 {i : Nat} {b : UInt8} (h : ([0xb6, 0x00, 0x5b, 0x9a, 0x00, 0x07, 0x04, 0xa7, 0x00, 0x04] : List UInt8)[i]? = some b) : vy_8 cX6_trackTold (70 + i) b := vy_in (n := 10) (by decide +kernel) h
theorem vyb_cX6_trackTold_8 {i : Nat} {b : UInt8} (h : ([0x03, 0xb8, 0x00, 0x57, 0x4f, 0x59, 0x05, 0x1d, 0x4f, 0x59] : List UInt8)[i]? = some b) : vy_8 cX6_trackTold (80 + i) b := vy_in (n := 10) (by decide +kernel) h
theorem vyb_cX6_trackTold_9 {i : Nat} {b : UInt8} (h : ([0x06, 0x15, 0x04, 0x4f, 0x3a, 0x05, 0x19, 0x05, 0x1c, 0x2e] : List UInt8)[i]? = some b) : vy_8 cX6_trackTold (90 + i) b := vy_in (n := 10) (by decide +kernel) h
theorem vyb_cX6_trackTold_10 {i : Nat} {b : UInt8} (h : ([0xac] : List UInt8)[i]? = some b) : vy_8 cX6_trackTold (100 + i) b := vy_in (n := 1) (by decide +kernel) h
theorem dX6_trackTold_0 : decode cX6_trackTold 0 = Except.ok (Instr.iconst 0, 1) := vyd_3 (vyb_cX6_trackTold_0 (i := 0) rfl)
theorem dX6_trackTold_1 : decode cX6_trackTold 1 = Except.ok (Instr.istore_n 3, 1) := vyd_62 (vyb_cX6_trackTold_0 (i := 1) rfl)
theorem dX6_trackTold_2 : decode cX6_trackTold 2 = Except.ok (Instr.iconst 1, 1) := vyd_4 (vyb_cX6_trackTold_0 (i := 2) rfl)
theorem dX6_trackTold_3 : decode cX6_trackTold 3 = Except.ok (Instr.istore 4, 2) := vyd_54 (vyb_cX6_trackTold_0 (i := 3) rfl) (vyb_cX6_trackTold_0 (i := 4) rfl) rfl
theorem dX6_trackTold_5 : decode cX6_trackTold 5 = Except.ok (Instr.iconst 0, 1) := vyd_3 (vyb_cX6_trackTold_0 (i := 5) rfl)
theorem dX6_trackTold_6 : decode cX6_trackTold 6 = Except.ok (Instr.istore 5, 2) := vyd_54 (vyb_cX6_trackTold_0 (i := 6) rfl) (vyb_cX6_trackTold_0 (i := 7) rfl) rfl
theorem dX6_trackTold_8 : decode cX6_trackTold 8 = Except.ok (Instr.iload 5, 2) := vyd_21 (vyb_cX6_trackTold_0 (i := 8) rfl) (vyb_cX6_trackTold_0 (i := 9) rfl) rfl
theorem dX6_trackTold_10 : decode cX6_trackTold 10 = Except.ok (Instr.aload_n 0, 1) := vyd_42 (vyb_cX6_trackTold_1 (i := 0) rfl)
theorem dX6_trackTold_11 : decode cX6_trackTold 11 = Except.ok (Instr.iload_n 1, 1) := vyd_27 (vyb_cX6_trackTold_1 (i := 1) rfl)
theorem dX6_trackTold_12 : decode cX6_trackTold 12 = Except.ok (Instr.invokevirtual 91, 3) := vyd_182 (vyb_cX6_trackTold_1 (i := 2) rfl) (vyb_cX6_trackTold_1 (i := 3) rfl) (vyb_cX6_trackTold_1 (i := 4) rfl) rfl
theorem dX6_trackTold_15 : decode cX6_trackTold 15 = Except.ok (Instr.if_icmp .ge 40, 3) := vyd_162 (vyb_cX6_trackTold_1 (i := 5) rfl) (vyb_cX6_trackTold_1 (i := 6) rfl) (vyb_cX6_trackTold_1 (i := 7) rfl) (by decide +kernel)
theorem dX6_trackTold_18 : decode cX6_trackTold 18 = Except.ok (Instr.iload_n 3, 1) := vyd_29 (vyb_cX6_trackTold_1 (i := 8) rfl)
theorem dX6_trackTold_19 : decode cX6_trackTold 19 = Except.ok (Instr.aload_n 0, 1) := vyd_42 (vyb_cX6_trackTold_1 (i := 9) rfl)
theorem dX6_trackTold_20 : decode cX6_trackTold 20 = Except.ok (Instr.iload_n 1, 1) := vyd_27 (vyb_cX6_trackTold_2 (i := 0) rfl)
theorem dX6_trackTold_21 : decode cX6_trackTold 21 = Except.ok (Instr.iload 5, 2) := vyd_21 (vyb_cX6_trackTold_2 (i := 1) rfl) (vyb_cX6_trackTold_2 (i := 2) rfl) rfl
theorem dX6_trackTold_23 : decode cX6_trackTold 23 = Except.ok (Instr.invokevirtual 131, 3) := vyd_182 (vyb_cX6_trackTold_2 (i := 3) rfl) (vyb_cX6_trackTold_2 (i := 4) rfl) (vyb_cX6_trackTold_2 (i := 5) rfl) rfl
theorem dX6_trackTold_26 : decode cX6_trackTold 26 = Except.ok (Instr.invokestatic 171, 3) := vyd_184 (vyb_cX6_trackTold_2 (i := 6) rfl) (vyb_cX6_trackTold_2 (i := 7) rfl) (vyb_cX6_trackTold_2 (i := 8) rfl) rfl
theorem dX6_trackTold_29 : decode cX6_trackTold 29 = Except.ok (Instr.iadd, 1) := vyd_96 (vyb_cX6_trackTold_2 (i := 9) rfl)
theorem dX6_trackTold_30 : decode cX6_trackTold 30 = Except.ok (Instr.istore_n 3, 1) := vyd_62 (vyb_cX6_trackTold_3 (i := 0) rfl)
theorem dX6_trackTold_31 : decode cX6_trackTold 31 = Except.ok (Instr.bipush 31, 2) := vyd_16 (vyb_cX6_trackTold_3 (i := 1) rfl) (vyb_cX6_trackTold_3 (i := 2) rfl) (by decide +kernel)
theorem dX6_trackTold_33 : decode cX6_trackTold 33 = Except.ok (Instr.iload 4, 2) := vyd_21 (vyb_cX6_trackTold_3 (i := 3) rfl) (vyb_cX6_trackTold_3 (i := 4) rfl) rfl
theorem dX6_trackTold_35 : decode cX6_trackTold 35 = Except.ok (Instr.imul, 1) := vyd_104 (vyb_cX6_trackTold_3 (i := 5) rfl)
theorem dX6_trackTold_36 : decode cX6_trackTold 36 = Except.ok (Instr.aload_n 0, 1) := vyd_42 (vyb_cX6_trackTold_3 (i := 6) rfl)
theorem dX6_trackTold_37 : decode cX6_trackTold 37 = Except.ok (Instr.iload_n 1, 1) := vyd_27 (vyb_cX6_trackTold_3 (i := 7) rfl)
theorem dX6_trackTold_38 : decode cX6_trackTold 38 = Except.ok (Instr.iload 5, 2) := vyd_21 (vyb_cX6_trackTold_3 (i := 8) rfl) (vyb_cX6_trackTold_3 (i := 9) rfl) rfl
theorem dX6_trackTold_40 : decode cX6_trackTold 40 = Except.ok (Instr.invokevirtual 131, 3) := vyd_182 (vyb_cX6_trackTold_4 (i := 0) rfl) (vyb_cX6_trackTold_4 (i := 1) rfl) (vyb_cX6_trackTold_4 (i := 2) rfl) rfl
theorem dX6_trackTold_43 : decode cX6_trackTold 43 = Except.ok (Instr.invokestatic 154, 3) := vyd_184 (vyb_cX6_trackTold_4 (i := 3) rfl) (vyb_cX6_trackTold_4 (i := 4) rfl) (vyb_cX6_trackTold_4 (i := 5) rfl) rfl
theorem dX6_trackTold_46 : decode cX6_trackTold 46 = Except.ok (Instr.iadd, 1) := vyd_96 (vyb_cX6_trackTold_4 (i := 6) rfl)
theorem dX6_trackTold_47 : decode cX6_trackTold 47 = Except.ok (Instr.istore 4, 2) := vyd_54 (vyb_cX6_trackTold_4 (i := 7) rfl) (vyb_cX6_trackTold_4 (i := 8) rfl) rfl
theorem dX6_trackTold_49 : decode cX6_trackTold 49 = .ok (.iinc 5 1, 3) := by decide +kernel
theorem dX6_trackTold_52 : decode cX6_trackTold 52 = Except.ok (Instr.goto (-44), 3) := vyd_167 (vyb_cX6_trackTold_5 (i := 2) rfl) (vyb_cX6_trackTold_5 (i := 3) rfl) (vyb_cX6_trackTold_5 (i := 4) rfl) (by decide +kernel)
theorem dX6_trackTold_55 : decode cX6_trackTold 55 = Except.ok (Instr.iconst 4, 1) := vyd_7 (vyb_cX6_trackTold_5 (i := 5) rfl)
theorem dX6_trackTold_56 : decode cX6_trackTold 56 = .ok (.newarray .int, 2) := by decide +kernel
theorem dX6_trackTold_58 : decode cX6_trackTold 58 = Except.ok (Instr.dup, 1) := vyd_89 (vyb_cX6_trackTold_5 (i := 8) rfl)
theorem dX6_trackTold_59 : decode cX6_trackTold 59 = Except.ok (Instr.iconst 0, 1) := vyd_3 (vyb_cX6_trackTold_5 (i := 9) rfl)
theorem dX6_trackTold_60 : decode cX6_trackTold 60 = Except.ok (Instr.aload_n 0, 1) := vyd_42 (vyb_cX6_trackTold_6 (i := 0) rfl)
theorem dX6_trackTold_61 : decode cX6_trackTold 61 = Except.ok (Instr.iload_n 1, 1) := vyd_27 (vyb_cX6_trackTold_6 (i := 1) rfl)
theorem dX6_trackTold_62 : decode cX6_trackTold 62 = Except.ok (Instr.invokevirtual 91, 3) := vyd_182 (vyb_cX6_trackTold_6 (i := 2) rfl) (vyb_cX6_trackTold_6 (i := 3) rfl) (vyb_cX6_trackTold_6 (i := 4) rfl) rfl
theorem dX6_trackTold_65 : decode cX6_trackTold 65 = Except.ok (Instr.iastore, 1) := vyd_79 (vyb_cX6_trackTold_6 (i := 5) rfl)
theorem dX6_trackTold_66 : decode cX6_trackTold 66 = Except.ok (Instr.dup, 1) := vyd_89 (vyb_cX6_trackTold_6 (i := 6) rfl)
theorem dX6_trackTold_67 : decode cX6_trackTold 67 = Except.ok (Instr.iconst 1, 1) := vyd_4 (vyb_cX6_trackTold_6 (i := 7) rfl)
theorem dX6_trackTold_68 : decode cX6_trackTold 68 = Except.ok (Instr.aload_n 0, 1) := vyd_42 (vyb_cX6_trackTold_6 (i := 8) rfl)
theorem dX6_trackTold_69 : decode cX6_trackTold 69 = Except.ok (Instr.iload_n 1, 1) := vyd_27 (vyb_cX6_trackTold_6 (i := 9) rfl)
theorem dX6_trackTold_70 : decode cX6_trackTold 70 = Except.ok (Instr.invokevirtual 91, 3) := vyd_182 (vyb_cX6_trackTold_7 (i := 0) rfl) (vyb_cX6_trackTold_7 (i := 1) rfl) (vyb_cX6_trackTold_7 (i := 2) rfl) rfl
theorem dX6_trackTold_73 : decode cX6_trackTold 73 = Except.ok (Instr.ifCond .ne 7, 3) := vyd_154 (vyb_cX6_trackTold_7 (i := 3) rfl) (vyb_cX6_trackTold_7 (i := 4) rfl) (vyb_cX6_trackTold_7 (i := 5) rfl) (by decide +kernel)
theorem dX6_trackTold_76 : decode cX6_trackTold 76 = Except.ok (Instr.iconst 1, 1) := vyd_4 (vyb_cX6_trackTold_7 (i := 6) rfl)
theorem dX6_trackTold_77 : decode cX6_trackTold 77 = Except.ok (Instr.goto 4, 3) := vyd_167 (vyb_cX6_trackTold_7 (i := 7) rfl) (vyb_cX6_trackTold_7 (i := 8) rfl) (vyb_cX6_trackTold_7 (i := 9) rfl) (by decide +kernel)
theorem dX6_trackTold_80 : decode cX6_trackTold 80 = Except.ok (Instr.iconst 0, 1) := vyd_3 (vyb_cX6_trackTold_8 (i := 0) rfl)
theorem dX6_trackTold_81 : decode cX6_trackTold 81 = Except.ok (Instr.invokestatic 87, 3) := vyd_184 (vyb_cX6_trackTold_8 (i := 1) rfl) (vyb_cX6_trackTold_8 (i := 2) rfl) (vyb_cX6_trackTold_8 (i := 3) rfl) rfl
theorem dX6_trackTold_84 : decode cX6_trackTold 84 = Except.ok (Instr.iastore, 1) := vyd_79 (vyb_cX6_trackTold_8 (i := 4) rfl)
theorem dX6_trackTold_85 : decode cX6_trackTold 85 = Except.ok (Instr.dup, 1) := vyd_89 (vyb_cX6_trackTold_8 (i := 5) rfl)
theorem dX6_trackTold_86 : decode cX6_trackTold 86 = Except.ok (Instr.iconst 2, 1) := vyd_5 (vyb_cX6_trackTold_8 (i := 6) rfl)
theorem dX6_trackTold_87 : decode cX6_trackTold 87 = Except.ok (Instr.iload_n 3, 1) := vyd_29 (vyb_cX6_trackTold_8 (i := 7) rfl)
theorem dX6_trackTold_88 : decode cX6_trackTold 88 = Except.ok (Instr.iastore, 1) := vyd_79 (vyb_cX6_trackTold_8 (i := 8) rfl)
theorem dX6_trackTold_89 : decode cX6_trackTold 89 = Except.ok (Instr.dup, 1) := vyd_89 (vyb_cX6_trackTold_8 (i := 9) rfl)
theorem dX6_trackTold_90 : decode cX6_trackTold 90 = Except.ok (Instr.iconst 3, 1) := vyd_6 (vyb_cX6_trackTold_9 (i := 0) rfl)
theorem dX6_trackTold_91 : decode cX6_trackTold 91 = Except.ok (Instr.iload 4, 2) := vyd_21 (vyb_cX6_trackTold_9 (i := 1) rfl) (vyb_cX6_trackTold_9 (i := 2) rfl) rfl
theorem dX6_trackTold_93 : decode cX6_trackTold 93 = Except.ok (Instr.iastore, 1) := vyd_79 (vyb_cX6_trackTold_9 (i := 3) rfl)
theorem dX6_trackTold_94 : decode cX6_trackTold 94 = Except.ok (Instr.astore 5, 2) := vyd_58 (vyb_cX6_trackTold_9 (i := 4) rfl) (vyb_cX6_trackTold_9 (i := 5) rfl) rfl
theorem dX6_trackTold_96 : decode cX6_trackTold 96 = Except.ok (Instr.aload 5, 2) := vyd_25 (vyb_cX6_trackTold_9 (i := 6) rfl) (vyb_cX6_trackTold_9 (i := 7) rfl) rfl
theorem dX6_trackTold_98 : decode cX6_trackTold 98 = Except.ok (Instr.iload_n 2, 1) := vyd_28 (vyb_cX6_trackTold_9 (i := 8) rfl)
theorem dX6_trackTold_99 : decode cX6_trackTold 99 = Except.ok (Instr.iaload, 1) := vyd_46 (vyb_cX6_trackTold_9 (i := 9) rfl)
theorem dX6_trackTold_100 : decode cX6_trackTold 100 = Except.ok (Instr.ireturn, 1) := vyd_172 (vyb_cX6_trackTold_10 (i := 0) rfl)
theorem vyb_cX6_ofTrack_0 {i : Nat} {b : UInt8} (h : ([0x2a, 0x1b, 0xb8, 0x00, 0x6a, 0x04, 0xb6, 0x00, 0x6e, 0x9a] : List UInt8)[i]? = some b) : vy_8 cX6_ofTrack (0 + i) b := vy_in (n := 10) (by decide +kernel) h
theorem vyb_cX6_ofTrack_1 {i : Nat} {b : UInt8} (h : ([0x00, 0x19, 0x2a, 0x1c, 0x03, 0x06, 0xb8, 0x00, 0x2c, 0x9a] : List UInt8)[i]? = some b) : vy_8 cX6_ofTrack (10 + i) b := vy_in (n := 10) (by decide +kernel) h
theorem vyb_cX6_ofTrack_2 {i : Nat} {b : UInt8} (h : ([0x00, 0x07, 0x04, 0xa7, 0x00, 0x04, 0x03, 0x05, 0xb6, 0x00] : List UInt8)[i]? = some b) : vy_8 cX6_ofTrack (20 + i) b := vy_in (n := 10) (by decide +kernel) h
theorem vyb_cX6_ofTrack_3 {i : Nat} {b : UInt8} (h : ([0x28, 0x99, 0x00, 0x07, 0x03, 0xa7, 0x00, 0x09, 0x2a, 0x1b] : List UInt8)[i]? = some b) : vy_8 cX6_ofTrack (30 + i) b := vy_in (n := 10) (by decide +kernel) h
theorem vyb_cX6_ofTrack_4 {i : Nat} {b : UInt8} (h : ([0x1c, 0xb6, 0x00, 0xce, 0xac] : List UInt8)[i]? = some b) : vy_8 cX6_ofTrack (40 + i) b := vy_in (n := 5) (by decide +kernel) h
theorem dX6_ofTrack_0 : decode cX6_ofTrack 0 = Except.ok (Instr.aload_n 0, 1) := vyd_42 (vyb_cX6_ofTrack_0 (i := 0) rfl)
theorem dX6_ofTrack_1 : decode cX6_ofTrack 1 = Except.ok (Instr.iload_n 1, 1) := vyd_27 (vyb_cX6_ofTrack_0 (i := 1) rfl)
theorem dX6_ofTrack_2 : decode cX6_ofTrack 2 = Except.ok (Instr.invokestatic 106, 3) := vyd_184 (vyb_cX6_ofTrack_0 (i := 2) rfl) (vyb_cX6_ofTrack_0 (i := 3) rfl) (vyb_cX6_ofTrack_0 (i := 4) rfl) rfl
theorem dX6_ofTrack_5 : decode cX6_ofTrack 5 = Except.ok (Instr.iconst 1, 1) := vyd_4 (vyb_cX6_ofTrack_0 (i := 5) rfl)
theorem dX6_ofTrack_6 : decode cX6_ofTrack 6 = Except.ok (Instr.invokevirtual 110, 3) := vyd_182 (vyb_cX6_ofTrack_0 (i := 6) rfl) (vyb_cX6_ofTrack_0 (i := 7) rfl) (vyb_cX6_ofTrack_0 (i := 8) rfl) rfl
theorem dX6_ofTrack_9 : decode cX6_ofTrack 9 = Except.ok (Instr.ifCond .ne 25, 3) := vyd_154 (vyb_cX6_ofTrack_0 (i := 9) rfl) (vyb_cX6_ofTrack_1 (i := 0) rfl) (vyb_cX6_ofTrack_1 (i := 1) rfl) (by decide +kernel)
theorem dX6_ofTrack_12 : decode cX6_ofTrack 12 = Except.ok (Instr.aload_n 0, 1) := vyd_42 (vyb_cX6_ofTrack_1 (i := 2) rfl)
theorem dX6_ofTrack_13 : decode cX6_ofTrack 13 = Except.ok (Instr.iload_n 2, 1) := vyd_28 (vyb_cX6_ofTrack_1 (i := 3) rfl)
theorem dX6_ofTrack_14 : decode cX6_ofTrack 14 = Except.ok (Instr.iconst 0, 1) := vyd_3 (vyb_cX6_ofTrack_1 (i := 4) rfl)
theorem dX6_ofTrack_15 : decode cX6_ofTrack 15 = Except.ok (Instr.iconst 3, 1) := vyd_6 (vyb_cX6_ofTrack_1 (i := 5) rfl)
theorem dX6_ofTrack_16 : decode cX6_ofTrack 16 = Except.ok (Instr.invokestatic 44, 3) := vyd_184 (vyb_cX6_ofTrack_1 (i := 6) rfl) (vyb_cX6_ofTrack_1 (i := 7) rfl) (vyb_cX6_ofTrack_1 (i := 8) rfl) rfl
theorem dX6_ofTrack_19 : decode cX6_ofTrack 19 = Except.ok (Instr.ifCond .ne 7, 3) := vyd_154 (vyb_cX6_ofTrack_1 (i := 9) rfl) (vyb_cX6_ofTrack_2 (i := 0) rfl) (vyb_cX6_ofTrack_2 (i := 1) rfl) (by decide +kernel)
theorem dX6_ofTrack_22 : decode cX6_ofTrack 22 = Except.ok (Instr.iconst 1, 1) := vyd_4 (vyb_cX6_ofTrack_2 (i := 2) rfl)
theorem dX6_ofTrack_23 : decode cX6_ofTrack 23 = Except.ok (Instr.goto 4, 3) := vyd_167 (vyb_cX6_ofTrack_2 (i := 3) rfl) (vyb_cX6_ofTrack_2 (i := 4) rfl) (vyb_cX6_ofTrack_2 (i := 5) rfl) (by decide +kernel)
theorem dX6_ofTrack_26 : decode cX6_ofTrack 26 = Except.ok (Instr.iconst 0, 1) := vyd_3 (vyb_cX6_ofTrack_2 (i := 6) rfl)
theorem dX6_ofTrack_27 : decode cX6_ofTrack 27 = Except.ok (Instr.iconst 2, 1) := vyd_5 (vyb_cX6_ofTrack_2 (i := 7) rfl)
theorem dX6_ofTrack_28 : decode cX6_ofTrack 28 = Except.ok (Instr.invokevirtual 40, 3) := vyd_182 (vyb_cX6_ofTrack_2 (i := 8) rfl) (vyb_cX6_ofTrack_2 (i := 9) rfl) (vyb_cX6_ofTrack_3 (i := 0) rfl) rfl
theorem dX6_ofTrack_31 : decode cX6_ofTrack 31 = Except.ok (Instr.ifCond .eq 7, 3) := vyd_153 (vyb_cX6_ofTrack_3 (i := 1) rfl) (vyb_cX6_ofTrack_3 (i := 2) rfl) (vyb_cX6_ofTrack_3 (i := 3) rfl) (by decide +kernel)
theorem dX6_ofTrack_34 : decode cX6_ofTrack 34 = Except.ok (Instr.iconst 0, 1) := vyd_3 (vyb_cX6_ofTrack_3 (i := 4) rfl)
theorem dX6_ofTrack_35 : decode cX6_ofTrack 35 = Except.ok (Instr.goto 9, 3) := vyd_167 (vyb_cX6_ofTrack_3 (i := 5) rfl) (vyb_cX6_ofTrack_3 (i := 6) rfl) (vyb_cX6_ofTrack_3 (i := 7) rfl) (by decide +kernel)
theorem dX6_ofTrack_38 : decode cX6_ofTrack 38 = Except.ok (Instr.aload_n 0, 1) := vyd_42 (vyb_cX6_ofTrack_3 (i := 8) rfl)
theorem dX6_ofTrack_39 : decode cX6_ofTrack 39 = Except.ok (Instr.iload_n 1, 1) := vyd_27 (vyb_cX6_ofTrack_3 (i := 9) rfl)
theorem dX6_ofTrack_40 : decode cX6_ofTrack 40 = Except.ok (Instr.iload_n 2, 1) := vyd_28 (vyb_cX6_ofTrack_4 (i := 0) rfl)
theorem dX6_ofTrack_41 : decode cX6_ofTrack 41 = Except.ok (Instr.invokevirtual 206, 3) := vyd_182 (vyb_cX6_ofTrack_4 (i := 1) rfl) (vyb_cX6_ofTrack_4 (i := 2) rfl) (vyb_cX6_ofTrack_4 (i := 3) rfl) rfl
theorem dX6_ofTrack_44 : decode cX6_ofTrack 44 = Except.ok (Instr.ireturn, 1) := vyd_172 (vyb_cX6_ofTrack_4 (i := 4) rfl)
theorem vyb_cX6_has_0 {i : Nat} {b : UInt8} (h : ([0x2a, 0x1b, 0x1c, 0xb6, 0x00, 0x9d, 0x9a, 0x00, 0x12, 0x2a] : List UInt8)[i]? = some b) : vy_8 cX6_has (0 + i) b := vy_in (n := 10) (by decide +kernel) h
theorem vyb_cX6_has_1 {i : Nat} {b : UInt8} (h : ([0x1b, 0x1c, 0x03, 0xb6, 0x00, 0xa0, 0x02, 0x9f, 0x00, 0x07] : List UInt8)[i]? = some b) : vy_8 cX6_has (10 + i) b := vy_in (n := 10) (by decide +kernel) h
theorem vyb_cX6_has_2 {i : Nat} {b : UInt8} (h : ([0x04, 0xa7, 0x00, 0x04, 0x03, 0xac] : List UInt8)[i]? = some b) : vy_8 cX6_has (20 + i) b := vy_in (n := 6) (by decide +kernel) h
theorem dX6_has_0 : decode cX6_has 0 = Except.ok (Instr.aload_n 0, 1) := vyd_42 (vyb_cX6_has_0 (i := 0) rfl)
theorem dX6_has_1 : decode cX6_has 1 = Except.ok (Instr.iload_n 1, 1) := vyd_27 (vyb_cX6_has_0 (i := 1) rfl)
theorem dX6_has_2 : decode cX6_has 2 = Except.ok (Instr.iload_n 2, 1) := vyd_28 (vyb_cX6_has_0 (i := 2) rfl)
theorem dX6_has_3 : decode cX6_has 3 = Except.ok (Instr.invokevirtual 157, 3) := vyd_182 (vyb_cX6_has_0 (i := 3) rfl) (vyb_cX6_has_0 (i := 4) rfl) (vyb_cX6_has_0 (i := 5) rfl) rfl
theorem dX6_has_6 : decode cX6_has 6 = Except.ok (Instr.ifCond .ne 18, 3) := vyd_154 (vyb_cX6_has_0 (i := 6) rfl) (vyb_cX6_has_0 (i := 7) rfl) (vyb_cX6_has_0 (i := 8) rfl) (by decide +kernel)
theorem dX6_has_9 : decode cX6_has 9 = Except.ok (Instr.aload_n 0, 1) := vyd_42 (vyb_cX6_has_0 (i := 9) rfl)
theorem dX6_has_10 : decode cX6_has 10 = Except.ok (Instr.iload_n 1, 1) := vyd_27 (vyb_cX6_has_1 (i := 0) rfl)
theorem dX6_has_11 : decode cX6_has 11 = Except.ok (Instr.iload_n 2, 1) := vyd_28 (vyb_cX6_has_1 (i := 1) rfl)
theorem dX6_has_12 : decode cX6_has 12 = Except.ok (Instr.iconst 0, 1) := vyd_3 (vyb_cX6_has_1 (i := 2) rfl)
theorem dX6_has_13 : decode cX6_has 13 = Except.ok (Instr.invokevirtual 160, 3) := vyd_182 (vyb_cX6_has_1 (i := 3) rfl) (vyb_cX6_has_1 (i := 4) rfl) (vyb_cX6_has_1 (i := 5) rfl) rfl
theorem dX6_has_16 : decode cX6_has 16 = Except.ok (Instr.iconst (-1), 1) := vyd_2 (vyb_cX6_has_1 (i := 6) rfl)
theorem dX6_has_17 : decode cX6_has 17 = Except.ok (Instr.if_icmp .eq 7, 3) := vyd_159 (vyb_cX6_has_1 (i := 7) rfl) (vyb_cX6_has_1 (i := 8) rfl) (vyb_cX6_has_1 (i := 9) rfl) (by decide +kernel)
theorem dX6_has_20 : decode cX6_has 20 = Except.ok (Instr.iconst 1, 1) := vyd_4 (vyb_cX6_has_2 (i := 0) rfl)
theorem dX6_has_21 : decode cX6_has 21 = Except.ok (Instr.goto 4, 3) := vyd_167 (vyb_cX6_has_2 (i := 1) rfl) (vyb_cX6_has_2 (i := 2) rfl) (vyb_cX6_has_2 (i := 3) rfl) (by decide +kernel)
theorem dX6_has_24 : decode cX6_has 24 = Except.ok (Instr.iconst 0, 1) := vyd_3 (vyb_cX6_has_2 (i := 4) rfl)
theorem dX6_has_25 : decode cX6_has 25 = Except.ok (Instr.ireturn, 1) := vyd_172 (vyb_cX6_has_2 (i := 5) rfl)
theorem vyb_cX6_compared_0 {i : Nat} {b : UInt8} (h : ([0x1b, 0x99, 0x00, 0x12, 0x2a, 0x03, 0xb6, 0x00, 0x5b, 0x2a] : List UInt8)[i]? = some b) : vy_8 cX6_compared (0 + i) b := vy_in (n := 10) (by decide +kernel) h
theorem vyb_cX6_compared_1 {i : Nat} {b : UInt8} (h : ([0x04, 0xb6, 0x00, 0x5b, 0x9f, 0x00, 0x05, 0x03, 0xac, 0x03] : List UInt8)[i]? = some b) : vy_8 cX6_compared (10 + i) b := vy_in (n := 10) (by decide +kernel) h
theorem vyb_cX6_compared_2 {i : Nat} {b : UInt8} (h : ([0x3d, 0x1c, 0x2a, 0x03, 0xb6, 0x00, 0x5b, 0xa2, 0x00, 0x34] : List UInt8)[i]? = some b) : vy_8 cX6_compared (20 + i) b := vy_in (n := 10) (by decide +kernel) h
theorem vyb_cX6_compared_3 {i : Nat} {b : UInt8} (h : ([0x2a, 0x03, 0x1c, 0xb6, 0x00, 0x83, 0xb8, 0x00, 0x9a, 0x3e] : List UInt8)[i]? = some b) : vy_8 cX6_compared (30 + i) b := vy_in (n := 10) (by decide +kernel) h
theorem vyb_cX6_compared_4 {i : Nat} {b : UInt8} (h : ([0x1b, 0x99, 0x00, 0x13, 0x2a, 0x04, 0x1c, 0xb6, 0x00, 0x83] : List UInt8)[i]? = some b) : vy_8 cX6_compared (40 + i) b := vy_in (n := 10) (by decide +kernel) h
theorem vyb_cX6_compared_5 {i : Nat} {b : UInt8} (h : ([0xb8, 0x00, 0x9a, 0x1d, 0x9f, 0x00, 0x13, 0xa7, 0x00, 0x0e] : List UInt8)[i]? = some b) : vy_8 cX6_compared (50 + i) b := vy_in (n := 10) (by decide +kernel) h
theorem vyb_cX6_compared_6 {i : Nat} {b : UInt8} (h : ([0x2a, 0x04, 0x1d, 0x03, 0xb6, 0x00, 0xa0, 0x02, 0xa0, 0x00] : List UInt8)[i]? = some b) : vy_8 cX6_compared (60 + i) b := vy_in (n := 10) (by decide +kernel) h
theorem vyb_cX6_compared_7 {i : Nat} {b : UInt8} (h : ([0x05, 0x03, 0xac, 0x84, 0x02, 0x01, 0xa7, 0xff, 0xc9, 0x04] : List UInt8)[i]? = some b) : vy_8 cX6_compared (70 + i) b := vy_in (n := 10) (by decide +kernel) h
theorem vyb_cX6_compared_8 {i : Nat} {b : UInt8} (h : ([0xac] : List UInt8)[i]? = some b) : vy_8 cX6_compared (80 + i) b := vy_in (n := 1) (by decide +kernel) h
theorem dX6_compared_0 : decode cX6_compared 0 = Except.ok (Instr.iload_n 1, 1) := vyd_27 (vyb_cX6_compared_0 (i := 0) rfl)
theorem dX6_compared_1 : decode cX6_compared 1 = Except.ok (Instr.ifCond .eq 18, 3) := vyd_153 (vyb_cX6_compared_0 (i := 1) rfl) (vyb_cX6_compared_0 (i := 2) rfl) (vyb_cX6_compared_0 (i := 3) rfl) (by decide +kernel)
theorem dX6_compared_4 : decode cX6_compared 4 = Except.ok (Instr.aload_n 0, 1) := vyd_42 (vyb_cX6_compared_0 (i := 4) rfl)
theorem dX6_compared_5 : decode cX6_compared 5 = Except.ok (Instr.iconst 0, 1) := vyd_3 (vyb_cX6_compared_0 (i := 5) rfl)
theorem dX6_compared_6 : decode cX6_compared 6 = Except.ok (Instr.invokevirtual 91, 3) := vyd_182 (vyb_cX6_compared_0 (i := 6) rfl) (vyb_cX6_compared_0 (i := 7) rfl) (vyb_cX6_compared_0 (i := 8) rfl) rfl
theorem dX6_compared_9 : decode cX6_compared 9 = Except.ok (Instr.aload_n 0, 1) := vyd_42 (vyb_cX6_compared_0 (i := 9) rfl)
theorem dX6_compared_10 : decode cX6_compared 10 = Except.ok (Instr.iconst 1, 1) := vyd_4 (vyb_cX6_compared_1 (i := 0) rfl)
theorem dX6_compared_11 : decode cX6_compared 11 = Except.ok (Instr.invokevirtual 91, 3) := vyd_182 (vyb_cX6_compared_1 (i := 1) rfl) (vyb_cX6_compared_1 (i := 2) rfl) (vyb_cX6_compared_1 (i := 3) rfl) rfl
theorem dX6_compared_14 : decode cX6_compared 14 = Except.ok (Instr.if_icmp .eq 5, 3) := vyd_159 (vyb_cX6_compared_1 (i := 4) rfl) (vyb_cX6_compared_1 (i := 5) rfl) (vyb_cX6_compared_1 (i := 6) rfl) (by decide +kernel)
theorem dX6_compared_17 : decode cX6_compared 17 = Except.ok (Instr.iconst 0, 1) := vyd_3 (vyb_cX6_compared_1 (i := 7) rfl)
theorem dX6_compared_18 : decode cX6_compared 18 = Except.ok (Instr.ireturn, 1) := vyd_172 (vyb_cX6_compared_1 (i := 8) rfl)
theorem dX6_compared_19 : decode cX6_compared 19 = Except.ok (Instr.iconst 0, 1) := vyd_3 (vyb_cX6_compared_1 (i := 9) rfl)
theorem dX6_compared_20 : decode cX6_compared 20 = Except.ok (Instr.istore_n 2, 1) := vyd_61 (vyb_cX6_compared_2 (i := 0) rfl)
theorem dX6_compared_21 : decode cX6_compared 21 = Except.ok (Instr.iload_n 2, 1) := vyd_28 (vyb_cX6_compared_2 (i := 1) rfl)
theorem dX6_compared_22 : decode cX6_compared 22 = Except.ok (Instr.aload_n 0, 1) := vyd_42 (vyb_cX6_compared_2 (i := 2) rfl)
theorem dX6_compared_23 : decode cX6_compared 23 = Except.ok (Instr.iconst 0, 1) := vyd_3 (vyb_cX6_compared_2 (i := 3) rfl)
theorem dX6_compared_24 : decode cX6_compared 24 = Except.ok (Instr.invokevirtual 91, 3) := vyd_182 (vyb_cX6_compared_2 (i := 4) rfl) (vyb_cX6_compared_2 (i := 5) rfl) (vyb_cX6_compared_2 (i := 6) rfl) rfl
theorem dX6_compared_27 : decode cX6_compared 27 = Except.ok (Instr.if_icmp .ge 52, 3) := vyd_162 (vyb_cX6_compared_2 (i := 7) rfl) (vyb_cX6_compared_2 (i := 8) rfl) (vyb_cX6_compared_2 (i := 9) rfl) (by decide +kernel)
theorem dX6_compared_30 : decode cX6_compared 30 = Except.ok (Instr.aload_n 0, 1) := vyd_42 (vyb_cX6_compared_3 (i := 0) rfl)
theorem dX6_compared_31 : decode cX6_compared 31 = Except.ok (Instr.iconst 0, 1) := vyd_3 (vyb_cX6_compared_3 (i := 1) rfl)
theorem dX6_compared_32 : decode cX6_compared 32 = Except.ok (Instr.iload_n 2, 1) := vyd_28 (vyb_cX6_compared_3 (i := 2) rfl)
theorem dX6_compared_33 : decode cX6_compared 33 = Except.ok (Instr.invokevirtual 131, 3) := vyd_182 (vyb_cX6_compared_3 (i := 3) rfl) (vyb_cX6_compared_3 (i := 4) rfl) (vyb_cX6_compared_3 (i := 5) rfl) rfl
theorem dX6_compared_36 : decode cX6_compared 36 = Except.ok (Instr.invokestatic 154, 3) := vyd_184 (vyb_cX6_compared_3 (i := 6) rfl) (vyb_cX6_compared_3 (i := 7) rfl) (vyb_cX6_compared_3 (i := 8) rfl) rfl
theorem dX6_compared_39 : decode cX6_compared 39 = Except.ok (Instr.istore_n 3, 1) := vyd_62 (vyb_cX6_compared_3 (i := 9) rfl)
theorem dX6_compared_40 : decode cX6_compared 40 = Except.ok (Instr.iload_n 1, 1) := vyd_27 (vyb_cX6_compared_4 (i := 0) rfl)
theorem dX6_compared_41 : decode cX6_compared 41 = Except.ok (Instr.ifCond .eq 19, 3) := vyd_153 (vyb_cX6_compared_4 (i := 1) rfl) (vyb_cX6_compared_4 (i := 2) rfl) (vyb_cX6_compared_4 (i := 3) rfl) (by decide +kernel)
theorem dX6_compared_44 : decode cX6_compared 44 = Except.ok (Instr.aload_n 0, 1) := vyd_42 (vyb_cX6_compared_4 (i := 4) rfl)
theorem dX6_compared_45 : decode cX6_compared 45 = Except.ok (Instr.iconst 1, 1) := vyd_4 (vyb_cX6_compared_4 (i := 5) rfl)
theorem dX6_compared_46 : decode cX6_compared 46 = Except.ok (Instr.iload_n 2, 1) := vyd_28 (vyb_cX6_compared_4 (i := 6) rfl)
theorem dX6_compared_47 : decode cX6_compared 47 = Except.ok (Instr.invokevirtual 131, 3) := vyd_182 (vyb_cX6_compared_4 (i := 7) rfl) (vyb_cX6_compared_4 (i := 8) rfl) (vyb_cX6_compared_4 (i := 9) rfl) rfl
theorem dX6_compared_50 : decode cX6_compared 50 = Except.ok (Instr.invokestatic 154, 3) := vyd_184 (vyb_cX6_compared_5 (i := 0) rfl) (vyb_cX6_compared_5 (i := 1) rfl) (vyb_cX6_compared_5 (i := 2) rfl) rfl
theorem dX6_compared_53 : decode cX6_compared 53 = Except.ok (Instr.iload_n 3, 1) := vyd_29 (vyb_cX6_compared_5 (i := 3) rfl)
theorem dX6_compared_54 : decode cX6_compared 54 = Except.ok (Instr.if_icmp .eq 19, 3) := vyd_159 (vyb_cX6_compared_5 (i := 4) rfl) (vyb_cX6_compared_5 (i := 5) rfl) (vyb_cX6_compared_5 (i := 6) rfl) (by decide +kernel)
theorem dX6_compared_57 : decode cX6_compared 57 = Except.ok (Instr.goto 14, 3) := vyd_167 (vyb_cX6_compared_5 (i := 7) rfl) (vyb_cX6_compared_5 (i := 8) rfl) (vyb_cX6_compared_5 (i := 9) rfl) (by decide +kernel)
theorem dX6_compared_60 : decode cX6_compared 60 = Except.ok (Instr.aload_n 0, 1) := vyd_42 (vyb_cX6_compared_6 (i := 0) rfl)
theorem dX6_compared_61 : decode cX6_compared 61 = Except.ok (Instr.iconst 1, 1) := vyd_4 (vyb_cX6_compared_6 (i := 1) rfl)
theorem dX6_compared_62 : decode cX6_compared 62 = Except.ok (Instr.iload_n 3, 1) := vyd_29 (vyb_cX6_compared_6 (i := 2) rfl)
theorem dX6_compared_63 : decode cX6_compared 63 = Except.ok (Instr.iconst 0, 1) := vyd_3 (vyb_cX6_compared_6 (i := 3) rfl)
theorem dX6_compared_64 : decode cX6_compared 64 = Except.ok (Instr.invokevirtual 160, 3) := vyd_182 (vyb_cX6_compared_6 (i := 4) rfl) (vyb_cX6_compared_6 (i := 5) rfl) (vyb_cX6_compared_6 (i := 6) rfl) rfl
theorem dX6_compared_67 : decode cX6_compared 67 = Except.ok (Instr.iconst (-1), 1) := vyd_2 (vyb_cX6_compared_6 (i := 7) rfl)
theorem dX6_compared_68 : decode cX6_compared 68 = Except.ok (Instr.if_icmp .ne 5, 3) := vyd_160 (vyb_cX6_compared_6 (i := 8) rfl) (vyb_cX6_compared_6 (i := 9) rfl) (vyb_cX6_compared_7 (i := 0) rfl) (by decide +kernel)
theorem dX6_compared_71 : decode cX6_compared 71 = Except.ok (Instr.iconst 0, 1) := vyd_3 (vyb_cX6_compared_7 (i := 1) rfl)
theorem dX6_compared_72 : decode cX6_compared 72 = Except.ok (Instr.ireturn, 1) := vyd_172 (vyb_cX6_compared_7 (i := 2) rfl)
theorem dX6_compared_73 : decode cX6_compared 73 = .ok (.iinc 2 1, 3) := by decide +kernel
theorem dX6_compared_76 : decode cX6_compared 76 = Except.ok (Instr.goto (-55), 3) := vyd_167 (vyb_cX6_compared_7 (i := 6) rfl) (vyb_cX6_compared_7 (i := 7) rfl) (vyb_cX6_compared_7 (i := 8) rfl) (by decide +kernel)
theorem dX6_compared_79 : decode cX6_compared 79 = Except.ok (Instr.iconst 1, 1) := vyd_4 (vyb_cX6_compared_7 (i := 9) rfl)
theorem dX6_compared_80 : decode cX6_compared 80 = Except.ok (Instr.ireturn, 1) := vyd_172 (vyb_cX6_compared_8 (i := 0) rfl)
theorem vyb_cX6_compare_0 {i : Nat} {b : UInt8} (h : ([0x2a, 0x03, 0xb5, 0x00, 0x25, 0x2a, 0x1b, 0xb6, 0x00, 0xd1] : List UInt8)[i]? = some b) : vy_8 cX6_compare (0 + i) b := vy_in (n := 10) (by decide +kernel) h
theorem vyb_cX6_compare_1 {i : Nat} {b : UInt8} (h : ([0xac] : List UInt8)[i]? = some b) : vy_8 cX6_compare (10 + i) b := vy_in (n := 1) (by decide +kernel) h
theorem dX6_compare_0 : decode cX6_compare 0 = Except.ok (Instr.aload_n 0, 1) := vyd_42 (vyb_cX6_compare_0 (i := 0) rfl)
theorem dX6_compare_1 : decode cX6_compare 1 = Except.ok (Instr.iconst 0, 1) := vyd_3 (vyb_cX6_compare_0 (i := 1) rfl)
theorem dX6_compare_2 : decode cX6_compare 2 = Except.ok (Instr.putfield 37, 3) := vyd_181 (vyb_cX6_compare_0 (i := 2) rfl) (vyb_cX6_compare_0 (i := 3) rfl) (vyb_cX6_compare_0 (i := 4) rfl) rfl
theorem dX6_compare_5 : decode cX6_compare 5 = Except.ok (Instr.aload_n 0, 1) := vyd_42 (vyb_cX6_compare_0 (i := 5) rfl)
theorem dX6_compare_6 : decode cX6_compare 6 = Except.ok (Instr.iload_n 1, 1) := vyd_27 (vyb_cX6_compare_0 (i := 6) rfl)
theorem dX6_compare_7 : decode cX6_compare 7 = Except.ok (Instr.invokevirtual 209, 3) := vyd_182 (vyb_cX6_compare_0 (i := 7) rfl) (vyb_cX6_compare_0 (i := 8) rfl) (vyb_cX6_compare_0 (i := 9) rfl) rfl
theorem dX6_compare_10 : decode cX6_compare 10 = Except.ok (Instr.ireturn, 1) := vyd_172 (vyb_cX6_compare_1 (i := 0) rfl)
theorem vyb_cX6_textOf_0 {i : Nat} {b : UInt8} (h : ([0xbb, 0x00, 0xd5, 0x59, 0xb7, 0x00, 0xd7, 0x4e, 0x03, 0x36] : List UInt8)[i]? = some b) : vy_8 cX6_textOf (0 + i) b := vy_in (n := 10) (by decide +kernel) h
theorem vyb_cX6_textOf_1 {i : Nat} {b : UInt8} (h : ([0x04, 0x15, 0x04, 0x2a, 0x1b, 0xb6, 0x00, 0x5b, 0xa2, 0x00] : List UInt8)[i]? = some b) : vy_8 cX6_textOf (10 + i) b := vy_in (n := 10) (by decide +kernel) h
theorem vyb_cX6_textOf_2 {i : Nat} {b : UInt8} (h : ([0x35, 0x2d, 0x15, 0x04, 0x9a, 0x00, 0x08, 0x12, 0xd8, 0xa7] : List UInt8)[i]? = some b) : vy_8 cX6_textOf (20 + i) b := vy_in (n := 10) (by decide +kernel) h
theorem vyb_cX6_textOf_3 {i : Nat} {b : UInt8} (h : ([0x00, 0x05, 0x12, 0xda, 0xb6, 0x00, 0xdc, 0x2a, 0x1b, 0x1c] : List UInt8)[i]? = some b) : vy_8 cX6_textOf (30 + i) b := vy_in (n := 10) (by decide +kernel) h
theorem vyb_cX6_textOf_4 {i : Nat} {b : UInt8} (h : ([0x99, 0x00, 0x10, 0x2a, 0x1b, 0xb6, 0x00, 0x5b, 0x04, 0x64] : List UInt8)[i]? = some b) : vy_8 cX6_textOf (40 + i) b := vy_in (n := 10) (by decide +kernel) h
theorem vyb_cX6_textOf_5 {i : Nat} {b : UInt8} (h : ([0x15, 0x04, 0x64, 0xa7, 0x00, 0x05, 0x15, 0x04, 0xb6, 0x00] : List UInt8)[i]? = some b) : vy_8 cX6_textOf (50 + i) b := vy_in (n := 10) (by decide +kernel) h
theorem vyb_cX6_textOf_6 {i : Nat} {b : UInt8} (h : ([0x83, 0xb6, 0x00, 0xe0, 0x57, 0x84, 0x04, 0x01, 0xa7, 0xff] : List UInt8)[i]? = some b) : vy_8 cX6_textOf (60 + i) b := vy_in (n := 10) (by decide +kernel) h
theorem vyb_cX6_textOf_7 {i : Nat} {b : UInt8} (h : ([0xc7, 0x2d, 0xb6, 0x00, 0xe3, 0xb0] : List UInt8)[i]? = some b) : vy_8 cX6_textOf (70 + i) b := vy_in (n := 6) (by decide +kernel) h
theorem dX6_textOf_0 : decode cX6_textOf 0 = Except.ok (Instr.new 213, 3) := vyd_187 (vyb_cX6_textOf_0 (i := 0) rfl) (vyb_cX6_textOf_0 (i := 1) rfl) (vyb_cX6_textOf_0 (i := 2) rfl) rfl
theorem dX6_textOf_3 : decode cX6_textOf 3 = Except.ok (Instr.dup, 1) := vyd_89 (vyb_cX6_textOf_0 (i := 3) rfl)
theorem dX6_textOf_4 : decode cX6_textOf 4 = Except.ok (Instr.invokespecial 215, 3) := vyd_183 (vyb_cX6_textOf_0 (i := 4) rfl) (vyb_cX6_textOf_0 (i := 5) rfl) (vyb_cX6_textOf_0 (i := 6) rfl) rfl
theorem dX6_textOf_7 : decode cX6_textOf 7 = Except.ok (Instr.astore_n 3, 1) := vyd_78 (vyb_cX6_textOf_0 (i := 7) rfl)
theorem dX6_textOf_8 : decode cX6_textOf 8 = Except.ok (Instr.iconst 0, 1) := vyd_3 (vyb_cX6_textOf_0 (i := 8) rfl)
theorem dX6_textOf_9 : decode cX6_textOf 9 = Except.ok (Instr.istore 4, 2) := vyd_54 (vyb_cX6_textOf_0 (i := 9) rfl) (vyb_cX6_textOf_1 (i := 0) rfl) rfl
theorem dX6_textOf_11 : decode cX6_textOf 11 = Except.ok (Instr.iload 4, 2) := vyd_21 (vyb_cX6_textOf_1 (i := 1) rfl) (vyb_cX6_textOf_1 (i := 2) rfl) rfl
theorem dX6_textOf_13 : decode cX6_textOf 13 = Except.ok (Instr.aload_n 0, 1) := vyd_42 (vyb_cX6_textOf_1 (i := 3) rfl)
theorem dX6_textOf_14 : decode cX6_textOf 14 = Except.ok (Instr.iload_n 1, 1) := vyd_27 (vyb_cX6_textOf_1 (i := 4) rfl)
theorem dX6_textOf_15 : decode cX6_textOf 15 = Except.ok (Instr.invokevirtual 91, 3) := vyd_182 (vyb_cX6_textOf_1 (i := 5) rfl) (vyb_cX6_textOf_1 (i := 6) rfl) (vyb_cX6_textOf_1 (i := 7) rfl) rfl
theorem dX6_textOf_18 : decode cX6_textOf 18 = Except.ok (Instr.if_icmp .ge 53, 3) := vyd_162 (vyb_cX6_textOf_1 (i := 8) rfl) (vyb_cX6_textOf_1 (i := 9) rfl) (vyb_cX6_textOf_2 (i := 0) rfl) (by decide +kernel)
theorem dX6_textOf_21 : decode cX6_textOf 21 = Except.ok (Instr.aload_n 3, 1) := vyd_45 (vyb_cX6_textOf_2 (i := 1) rfl)
theorem dX6_textOf_22 : decode cX6_textOf 22 = Except.ok (Instr.iload 4, 2) := vyd_21 (vyb_cX6_textOf_2 (i := 2) rfl) (vyb_cX6_textOf_2 (i := 3) rfl) rfl
theorem dX6_textOf_24 : decode cX6_textOf 24 = Except.ok (Instr.ifCond .ne 8, 3) := vyd_154 (vyb_cX6_textOf_2 (i := 4) rfl) (vyb_cX6_textOf_2 (i := 5) rfl) (vyb_cX6_textOf_2 (i := 6) rfl) (by decide +kernel)
theorem dX6_textOf_27 : decode cX6_textOf 27 = Except.ok (Instr.ldc 216, 2) := vyd_18 (vyb_cX6_textOf_2 (i := 7) rfl) (vyb_cX6_textOf_2 (i := 8) rfl) rfl
theorem dX6_textOf_29 : decode cX6_textOf 29 = Except.ok (Instr.goto 5, 3) := vyd_167 (vyb_cX6_textOf_2 (i := 9) rfl) (vyb_cX6_textOf_3 (i := 0) rfl) (vyb_cX6_textOf_3 (i := 1) rfl) (by decide +kernel)
theorem dX6_textOf_32 : decode cX6_textOf 32 = Except.ok (Instr.ldc 218, 2) := vyd_18 (vyb_cX6_textOf_3 (i := 2) rfl) (vyb_cX6_textOf_3 (i := 3) rfl) rfl
theorem dX6_textOf_34 : decode cX6_textOf 34 = Except.ok (Instr.invokevirtual 220, 3) := vyd_182 (vyb_cX6_textOf_3 (i := 4) rfl) (vyb_cX6_textOf_3 (i := 5) rfl) (vyb_cX6_textOf_3 (i := 6) rfl) rfl
theorem dX6_textOf_37 : decode cX6_textOf 37 = Except.ok (Instr.aload_n 0, 1) := vyd_42 (vyb_cX6_textOf_3 (i := 7) rfl)
theorem dX6_textOf_38 : decode cX6_textOf 38 = Except.ok (Instr.iload_n 1, 1) := vyd_27 (vyb_cX6_textOf_3 (i := 8) rfl)
theorem dX6_textOf_39 : decode cX6_textOf 39 = Except.ok (Instr.iload_n 2, 1) := vyd_28 (vyb_cX6_textOf_3 (i := 9) rfl)
theorem dX6_textOf_40 : decode cX6_textOf 40 = Except.ok (Instr.ifCond .eq 16, 3) := vyd_153 (vyb_cX6_textOf_4 (i := 0) rfl) (vyb_cX6_textOf_4 (i := 1) rfl) (vyb_cX6_textOf_4 (i := 2) rfl) (by decide +kernel)
theorem dX6_textOf_43 : decode cX6_textOf 43 = Except.ok (Instr.aload_n 0, 1) := vyd_42 (vyb_cX6_textOf_4 (i := 3) rfl)
theorem dX6_textOf_44 : decode cX6_textOf 44 = Except.ok (Instr.iload_n 1, 1) := vyd_27 (vyb_cX6_textOf_4 (i := 4) rfl)
theorem dX6_textOf_45 : decode cX6_textOf 45 = Except.ok (Instr.invokevirtual 91, 3) := vyd_182 (vyb_cX6_textOf_4 (i := 5) rfl) (vyb_cX6_textOf_4 (i := 6) rfl) (vyb_cX6_textOf_4 (i := 7) rfl) rfl
theorem dX6_textOf_48 : decode cX6_textOf 48 = Except.ok (Instr.iconst 1, 1) := vyd_4 (vyb_cX6_textOf_4 (i := 8) rfl)
theorem dX6_textOf_49 : decode cX6_textOf 49 = Except.ok (Instr.isub, 1) := vyd_100 (vyb_cX6_textOf_4 (i := 9) rfl)
theorem dX6_textOf_50 : decode cX6_textOf 50 = Except.ok (Instr.iload 4, 2) := vyd_21 (vyb_cX6_textOf_5 (i := 0) rfl) (vyb_cX6_textOf_5 (i := 1) rfl) rfl
theorem dX6_textOf_52 : decode cX6_textOf 52 = Except.ok (Instr.isub, 1) := vyd_100 (vyb_cX6_textOf_5 (i := 2) rfl)
theorem dX6_textOf_53 : decode cX6_textOf 53 = Except.ok (Instr.goto 5, 3) := vyd_167 (vyb_cX6_textOf_5 (i := 3) rfl) (vyb_cX6_textOf_5 (i := 4) rfl) (vyb_cX6_textOf_5 (i := 5) rfl) (by decide +kernel)
theorem dX6_textOf_56 : decode cX6_textOf 56 = Except.ok (Instr.iload 4, 2) := vyd_21 (vyb_cX6_textOf_5 (i := 6) rfl) (vyb_cX6_textOf_5 (i := 7) rfl) rfl
theorem dX6_textOf_58 : decode cX6_textOf 58 = Except.ok (Instr.invokevirtual 131, 3) := vyd_182 (vyb_cX6_textOf_5 (i := 8) rfl) (vyb_cX6_textOf_5 (i := 9) rfl) (vyb_cX6_textOf_6 (i := 0) rfl) rfl
theorem dX6_textOf_61 : decode cX6_textOf 61 = Except.ok (Instr.invokevirtual 224, 3) := vyd_182 (vyb_cX6_textOf_6 (i := 1) rfl) (vyb_cX6_textOf_6 (i := 2) rfl) (vyb_cX6_textOf_6 (i := 3) rfl) rfl
theorem dX6_textOf_64 : decode cX6_textOf 64 = Except.ok (Instr.pop, 1) := vyd_87 (vyb_cX6_textOf_6 (i := 4) rfl)
theorem dX6_textOf_65 : decode cX6_textOf 65 = .ok (.iinc 4 1, 3) := by decide +kernel
theorem dX6_textOf_68 : decode cX6_textOf 68 = Except.ok (Instr.goto (-57), 3) := vyd_167 (vyb_cX6_textOf_6 (i := 8) rfl) (vyb_cX6_textOf_6 (i := 9) rfl) (vyb_cX6_textOf_7 (i := 0) rfl) (by decide +kernel)
theorem dX6_textOf_71 : decode cX6_textOf 71 = Except.ok (Instr.aload_n 3, 1) := vyd_45 (vyb_cX6_textOf_7 (i := 1) rfl)
theorem dX6_textOf_72 : decode cX6_textOf 72 = Except.ok (Instr.invokevirtual 227, 3) := vyd_182 (vyb_cX6_textOf_7 (i := 2) rfl) (vyb_cX6_textOf_7 (i := 3) rfl) (vyb_cX6_textOf_7 (i := 4) rfl) rfl
theorem dX6_textOf_75 : decode cX6_textOf 75 = Except.ok (Instr.areturn, 1) := vyd_176 (vyb_cX6_textOf_7 (i := 5) rfl)
theorem vyb_cX6_text_0 {i : Nat} {b : UInt8} (h : ([0x2a, 0x1b, 0xb8, 0x00, 0x6a, 0x04, 0xb6, 0x00, 0x6e, 0x99] : List UInt8)[i]? = some b) : vy_8 cX6_text (0 + i) b := vy_in (n := 10) (by decide +kernel) h
theorem vyb_cX6_text_1 {i : Nat} {b : UInt8} (h : ([0x00, 0x08, 0x12, 0xd8, 0xa7, 0x00, 0x09, 0x2a, 0x1b, 0x1c] : List UInt8)[i]? = some b) : vy_8 cX6_text (10 + i) b := vy_in (n := 10) (by decide +kernel) h
theorem vyb_cX6_text_2 {i : Nat} {b : UInt8} (h : ([0xb6, 0x00, 0xe7, 0xb0] : List UInt8)[i]? = some b) : vy_8 cX6_text (20 + i) b := vy_in (n := 4) (by decide +kernel) h
theorem dX6_text_0 : decode cX6_text 0 = Except.ok (Instr.aload_n 0, 1) := vyd_42 (vyb_cX6_text_0 (i := 0) rfl)
theorem dX6_text_1 : decode cX6_text 1 = Except.ok (Instr.iload_n 1, 1) := vyd_27 (vyb_cX6_text_0 (i := 1) rfl)
theorem dX6_text_2 : decode cX6_text 2 = Except.ok (Instr.invokestatic 106, 3) := vyd_184 (vyb_cX6_text_0 (i := 2) rfl) (vyb_cX6_text_0 (i := 3) rfl) (vyb_cX6_text_0 (i := 4) rfl) rfl
theorem dX6_text_5 : decode cX6_text 5 = Except.ok (Instr.iconst 1, 1) := vyd_4 (vyb_cX6_text_0 (i := 5) rfl)
theorem dX6_text_6 : decode cX6_text 6 = Except.ok (Instr.invokevirtual 110, 3) := vyd_182 (vyb_cX6_text_0 (i := 6) rfl) (vyb_cX6_text_0 (i := 7) rfl) (vyb_cX6_text_0 (i := 8) rfl) rfl
theorem dX6_text_9 : decode cX6_text 9 = Except.ok (Instr.ifCond .eq 8, 3) := vyd_153 (vyb_cX6_text_0 (i := 9) rfl) (vyb_cX6_text_1 (i := 0) rfl) (vyb_cX6_text_1 (i := 1) rfl) (by decide +kernel)
theorem dX6_text_12 : decode cX6_text 12 = Except.ok (Instr.ldc 216, 2) := vyd_18 (vyb_cX6_text_1 (i := 2) rfl) (vyb_cX6_text_1 (i := 3) rfl) rfl
theorem dX6_text_14 : decode cX6_text 14 = Except.ok (Instr.goto 9, 3) := vyd_167 (vyb_cX6_text_1 (i := 4) rfl) (vyb_cX6_text_1 (i := 5) rfl) (vyb_cX6_text_1 (i := 6) rfl) (by decide +kernel)
theorem dX6_text_17 : decode cX6_text 17 = Except.ok (Instr.aload_n 0, 1) := vyd_42 (vyb_cX6_text_1 (i := 7) rfl)
theorem dX6_text_18 : decode cX6_text 18 = Except.ok (Instr.iload_n 1, 1) := vyd_27 (vyb_cX6_text_1 (i := 8) rfl)
theorem dX6_text_19 : decode cX6_text 19 = Except.ok (Instr.iload_n 2, 1) := vyd_28 (vyb_cX6_text_1 (i := 9) rfl)
theorem dX6_text_20 : decode cX6_text 20 = Except.ok (Instr.invokevirtual 231, 3) := vyd_182 (vyb_cX6_text_2 (i := 0) rfl) (vyb_cX6_text_2 (i := 1) rfl) (vyb_cX6_text_2 (i := 2) rfl) rfl
theorem dX6_text_23 : decode cX6_text 23 = Except.ok (Instr.areturn, 1) := vyd_176 (vyb_cX6_text_2 (i := 3) rfl)
theorem vyb_cX6_nestedNow_0 {i : Nat} {b : UInt8} (h : ([0x10, 0x15, 0xbc, 0x0a, 0x4d, 0x03, 0x3e, 0x03, 0x36, 0x04] : List UInt8)[i]? = some b) : vy_8 cX6_nestedNow (0 + i) b := vy_in (n := 10) (by decide +kernel) h
theorem vyb_cX6_nestedNow_1 {i : Nat} {b : UInt8} (h : ([0x03, 0x36, 0x05, 0x15, 0x05, 0x2a, 0x1b, 0xb6, 0x00, 0x5b] : List UInt8)[i]? = some b) : vy_8 cX6_nestedNow (10 + i) b := vy_in (n := 10) (by decide +kernel) h
theorem vyb_cX6_nestedNow_2 {i : Nat} {b : UInt8} (h : ([0xa2, 0x00, 0x54, 0x2a, 0x1b, 0x15, 0x05, 0xb6, 0x00, 0x83] : List UInt8)[i]? = some b) : vy_8 cX6_nestedNow (20 + i) b := vy_in (n := 10) (by decide +kernel) h
theorem vyb_cX6_nestedNow_3 {i : Nat} {b : UInt8} (h : ([0xb8, 0x00, 0x9a, 0x36, 0x06, 0x15, 0x06, 0x99, 0x00, 0x3d] : List UInt8)[i]? = some b) : vy_8 cX6_nestedNow (30 + i) b := vy_in (n := 10) (by decide +kernel) h
theorem vyb_cX6_nestedNow_4 {i : Nat} {b : UInt8} (h : ([0x15, 0x06, 0x10, 0x09, 0xa0, 0x00, 0x06, 0xa7, 0x00, 0x33] : List UInt8)[i]? = some b) : vy_8 cX6_nestedNow (40 + i) b := vy_in (n := 10) (by decide +kernel) h
theorem vyb_cX6_nestedNow_5 {i : Nat} {b : UInt8} (h : ([0x15, 0x06, 0x05, 0x70, 0x04, 0xa0, 0x00, 0x16, 0x2c, 0x1d] : List UInt8)[i]? = some b) : vy_8 cX6_nestedNow (50 + i) b := vy_in (n := 10) (by decide +kernel) h
theorem vyb_cX6_nestedNow_6 {i : Nat} {b : UInt8} (h : ([0x15, 0x06, 0x4f, 0x84, 0x03, 0x01, 0x15, 0x04, 0x1d, 0xb8] : List UInt8)[i]? = some b) : vy_8 cX6_nestedNow (60 + i) b := vy_in (n := 10) (by decide +kernel) h
theorem vyb_cX6_nestedNow_7 {i : Nat} {b : UInt8} (h : ([0x00, 0xeb, 0x36, 0x04, 0xa7, 0x00, 0x18, 0x1d, 0x99, 0x00] : List UInt8)[i]? = some b) : vy_8 cX6_nestedNow (70 + i) b := vy_in (n := 10) (by decide +kernel) h
theorem vyb_cX6_nestedNow_8 {i : Nat} {b : UInt8} (h : ([0x0f, 0x2c, 0x1d, 0x04, 0x64, 0x2e, 0x15, 0x06, 0x04, 0x64] : List UInt8)[i]? = some b) : vy_8 cX6_nestedNow (80 + i) b := vy_in (n := 10) (by decide +kernel) h
theorem vyb_cX6_nestedNow_9 {i : Nat} {b : UInt8} (h : ([0x9f, 0x00, 0x05, 0x02, 0xac, 0x84, 0x03, 0xff, 0x84, 0x05] : List UInt8)[i]? = some b) : vy_8 cX6_nestedNow (90 + i) b := vy_in (n := 10) (by decide +kernel) h
theorem vyb_cX6_nestedNow_10 {i : Nat} {b : UInt8} (h : ([0x01, 0xa7, 0xff, 0xa8, 0x1d, 0x9a, 0x00, 0x08, 0x15, 0x04] : List UInt8)[i]? = some b) : vy_8 cX6_nestedNow (100 + i) b := vy_in (n := 10) (by decide +kernel) h
theorem vyb_cX6_nestedNow_11 {i : Nat} {b : UInt8} (h : ([0xa7, 0x00, 0x04, 0x02, 0xac] : List UInt8)[i]? = some b) : vy_8 cX6_nestedNow (110 + i) b := vy_in (n := 5) (by decide +kernel) h
theorem dX6_nestedNow_0 : decode cX6_nestedNow 0 = Except.ok (Instr.bipush 21, 2) := vyd_16 (vyb_cX6_nestedNow_0 (i := 0) rfl) (vyb_cX6_nestedNow_0 (i := 1) rfl) (by decide +kernel)
theorem dX6_nestedNow_2 : decode cX6_nestedNow 2 = .ok (.newarray .int, 2) := by decide +kernel
theorem dX6_nestedNow_4 : decode cX6_nestedNow 4 = Except.ok (Instr.astore_n 2, 1) := vyd_77 (vyb_cX6_nestedNow_0 (i := 4) rfl)
theorem dX6_nestedNow_5 : decode cX6_nestedNow 5 = Except.ok (Instr.iconst 0, 1) := vyd_3 (vyb_cX6_nestedNow_0 (i := 5) rfl)
theorem dX6_nestedNow_6 : decode cX6_nestedNow 6 = Except.ok (Instr.istore_n 3, 1) := vyd_62 (vyb_cX6_nestedNow_0 (i := 6) rfl)
theorem dX6_nestedNow_7 : decode cX6_nestedNow 7 = Except.ok (Instr.iconst 0, 1) := vyd_3 (vyb_cX6_nestedNow_0 (i := 7) rfl)
theorem dX6_nestedNow_8 : decode cX6_nestedNow 8 = Except.ok (Instr.istore 4, 2) := vyd_54 (vyb_cX6_nestedNow_0 (i := 8) rfl) (vyb_cX6_nestedNow_0 (i := 9) rfl) rfl
theorem dX6_nestedNow_10 : decode cX6_nestedNow 10 = Except.ok (Instr.iconst 0, 1) := vyd_3 (vyb_cX6_nestedNow_1 (i := 0) rfl)
theorem dX6_nestedNow_11 : decode cX6_nestedNow 11 = Except.ok (Instr.istore 5, 2) := vyd_54 (vyb_cX6_nestedNow_1 (i := 1) rfl) (vyb_cX6_nestedNow_1 (i := 2) rfl) rfl
theorem dX6_nestedNow_13 : decode cX6_nestedNow 13 = Except.ok (Instr.iload 5, 2) := vyd_21 (vyb_cX6_nestedNow_1 (i := 3) rfl) (vyb_cX6_nestedNow_1 (i := 4) rfl) rfl
theorem dX6_nestedNow_15 : decode cX6_nestedNow 15 = Except.ok (Instr.aload_n 0, 1) := vyd_42 (vyb_cX6_nestedNow_1 (i := 5) rfl)
theorem dX6_nestedNow_16 : decode cX6_nestedNow 16 = Except.ok (Instr.iload_n 1, 1) := vyd_27 (vyb_cX6_nestedNow_1 (i := 6) rfl)
theorem dX6_nestedNow_17 : decode cX6_nestedNow 17 = Except.ok (Instr.invokevirtual 91, 3) := vyd_182 (vyb_cX6_nestedNow_1 (i := 7) rfl) (vyb_cX6_nestedNow_1 (i := 8) rfl) (vyb_cX6_nestedNow_1 (i := 9) rfl) rfl
theorem dX6_nestedNow_20 : decode cX6_nestedNow 20 = Except.ok (Instr.if_icmp .ge 84, 3) := vyd_162 (vyb_cX6_nestedNow_2 (i := 0) rfl) (vyb_cX6_nestedNow_2 (i := 1) rfl) (vyb_cX6_nestedNow_2 (i := 2) rfl) (by decide +kernel)
theorem dX6_nestedNow_23 : decode cX6_nestedNow 23 = Except.ok (Instr.aload_n 0, 1) := vyd_42 (vyb_cX6_nestedNow_2 (i := 3) rfl)
theorem dX6_nestedNow_24 : decode cX6_nestedNow 24 = Except.ok (Instr.iload_n 1, 1) := vyd_27 (vyb_cX6_nestedNow_2 (i := 4) rfl)
theorem dX6_nestedNow_25 : decode cX6_nestedNow 25 = Except.ok (Instr.iload 5, 2) := vyd_21 (vyb_cX6_nestedNow_2 (i := 5) rfl) (vyb_cX6_nestedNow_2 (i := 6) rfl) rfl
theorem dX6_nestedNow_27 : decode cX6_nestedNow 27 = Except.ok (Instr.invokevirtual 131, 3) := vyd_182 (vyb_cX6_nestedNow_2 (i := 7) rfl) (vyb_cX6_nestedNow_2 (i := 8) rfl) (vyb_cX6_nestedNow_2 (i := 9) rfl) rfl
theorem dX6_nestedNow_30 : decode cX6_nestedNow 30 = Except.ok (Instr.invokestatic 154, 3) := vyd_184 (vyb_cX6_nestedNow_3 (i := 0) rfl) (vyb_cX6_nestedNow_3 (i := 1) rfl) (vyb_cX6_nestedNow_3 (i := 2) rfl) rfl
theorem dX6_nestedNow_33 : decode cX6_nestedNow 33 = Except.ok (Instr.istore 6, 2) := vyd_54 (vyb_cX6_nestedNow_3 (i := 3) rfl) (vyb_cX6_nestedNow_3 (i := 4) rfl) rfl
theorem dX6_nestedNow_35 : decode cX6_nestedNow 35 = Except.ok (Instr.iload 6, 2) := vyd_21 (vyb_cX6_nestedNow_3 (i := 5) rfl) (vyb_cX6_nestedNow_3 (i := 6) rfl) rfl
theorem dX6_nestedNow_37 : decode cX6_nestedNow 37 = Except.ok (Instr.ifCond .eq 61, 3) := vyd_153 (vyb_cX6_nestedNow_3 (i := 7) rfl) (vyb_cX6_nestedNow_3 (i := 8) rfl) (vyb_cX6_nestedNow_3 (i := 9) rfl) (by decide +kernel)
theorem dX6_nestedNow_40 : decode cX6_nestedNow 40 = Except.ok (Instr.iload 6, 2) := vyd_21 (vyb_cX6_nestedNow_4 (i := 0) rfl) (vyb_cX6_nestedNow_4 (i := 1) rfl) rfl
theorem dX6_nestedNow_42 : decode cX6_nestedNow 42 = Except.ok (Instr.bipush 9, 2) := vyd_16 (vyb_cX6_nestedNow_4 (i := 2) rfl) (vyb_cX6_nestedNow_4 (i := 3) rfl) (by decide +kernel)
theorem dX6_nestedNow_44 : decode cX6_nestedNow 44 = Except.ok (Instr.if_icmp .ne 6, 3) := vyd_160 (vyb_cX6_nestedNow_4 (i := 4) rfl) (vyb_cX6_nestedNow_4 (i := 5) rfl) (vyb_cX6_nestedNow_4 (i := 6) rfl) (by decide +kernel)
theorem dX6_nestedNow_47 : decode cX6_nestedNow 47 = Except.ok (Instr.goto 51, 3) := vyd_167 (vyb_cX6_nestedNow_4 (i := 7) rfl) (vyb_cX6_nestedNow_4 (i := 8) rfl) (vyb_cX6_nestedNow_4 (i := 9) rfl) (by decide +kernel)
theorem dX6_nestedNow_50 : decode cX6_nestedNow 50 = Except.ok (Instr.iload 6, 2) := vyd_21 (vyb_cX6_nestedNow_5 (i := 0) rfl) (vyb_cX6_nestedNow_5 (i := 1) rfl) rfl
theorem dX6_nestedNow_52 : decode cX6_nestedNow 52 = Except.ok (Instr.iconst 2, 1) := vyd_5 (vyb_cX6_nestedNow_5 (i := 2) rfl)
theorem dX6_nestedNow_53 : decode cX6_nestedNow 53 = Except.ok (Instr.irem, 1) := vyd_112 (vyb_cX6_nestedNow_5 (i := 3) rfl)
theorem dX6_nestedNow_54 : decode cX6_nestedNow 54 = Except.ok (Instr.iconst 1, 1) := vyd_4 (vyb_cX6_nestedNow_5 (i := 4) rfl)
theorem dX6_nestedNow_55 : decode cX6_nestedNow 55 = Except.ok (Instr.if_icmp .ne 22, 3) := vyd_160 (vyb_cX6_nestedNow_5 (i := 5) rfl) (vyb_cX6_nestedNow_5 (i := 6) rfl) (vyb_cX6_nestedNow_5 (i := 7) rfl) (by decide +kernel)
theorem dX6_nestedNow_58 : decode cX6_nestedNow 58 = Except.ok (Instr.aload_n 2, 1) := vyd_44 (vyb_cX6_nestedNow_5 (i := 8) rfl)
theorem dX6_nestedNow_59 : decode cX6_nestedNow 59 = Except.ok (Instr.iload_n 3, 1) := vyd_29 (vyb_cX6_nestedNow_5 (i := 9) rfl)
theorem dX6_nestedNow_60 : decode cX6_nestedNow 60 = Except.ok (Instr.iload 6, 2) := vyd_21 (vyb_cX6_nestedNow_6 (i := 0) rfl) (vyb_cX6_nestedNow_6 (i := 1) rfl) rfl
theorem dX6_nestedNow_62 : decode cX6_nestedNow 62 = Except.ok (Instr.iastore, 1) := vyd_79 (vyb_cX6_nestedNow_6 (i := 2) rfl)
theorem dX6_nestedNow_63 : decode cX6_nestedNow 63 = .ok (.iinc 3 1, 3) := by decide +kernel
theorem dX6_nestedNow_66 : decode cX6_nestedNow 66 = Except.ok (Instr.iload 4, 2) := vyd_21 (vyb_cX6_nestedNow_6 (i := 6) rfl) (vyb_cX6_nestedNow_6 (i := 7) rfl) rfl
theorem dX6_nestedNow_68 : decode cX6_nestedNow 68 = Except.ok (Instr.iload_n 3, 1) := vyd_29 (vyb_cX6_nestedNow_6 (i := 8) rfl)
theorem dX6_nestedNow_69 : decode cX6_nestedNow 69 = Except.ok (Instr.invokestatic 235, 3) := vyd_184 (vyb_cX6_nestedNow_6 (i := 9) rfl) (vyb_cX6_nestedNow_7 (i := 0) rfl) (vyb_cX6_nestedNow_7 (i := 1) rfl) rfl
theorem dX6_nestedNow_72 : decode cX6_nestedNow 72 = Except.ok (Instr.istore 4, 2) := vyd_54 (vyb_cX6_nestedNow_7 (i := 2) rfl) (vyb_cX6_nestedNow_7 (i := 3) rfl) rfl
theorem dX6_nestedNow_74 : decode cX6_nestedNow 74 = Except.ok (Instr.goto 24, 3) := vyd_167 (vyb_cX6_nestedNow_7 (i := 4) rfl) (vyb_cX6_nestedNow_7 (i := 5) rfl) (vyb_cX6_nestedNow_7 (i := 6) rfl) (by decide +kernel)
theorem dX6_nestedNow_77 : decode cX6_nestedNow 77 = Except.ok (Instr.iload_n 3, 1) := vyd_29 (vyb_cX6_nestedNow_7 (i := 7) rfl)
theorem dX6_nestedNow_78 : decode cX6_nestedNow 78 = Except.ok (Instr.ifCond .eq 15, 3) := vyd_153 (vyb_cX6_nestedNow_7 (i := 8) rfl) (vyb_cX6_nestedNow_7 (i := 9) rfl) (vyb_cX6_nestedNow_8 (i := 0) rfl) (by decide +kernel)
theorem dX6_nestedNow_81 : decode cX6_nestedNow 81 = Except.ok (Instr.aload_n 2, 1) := vyd_44 (vyb_cX6_nestedNow_8 (i := 1) rfl)
theorem dX6_nestedNow_82 : decode cX6_nestedNow 82 = Except.ok (Instr.iload_n 3, 1) := vyd_29 (vyb_cX6_nestedNow_8 (i := 2) rfl)
theorem dX6_nestedNow_83 : decode cX6_nestedNow 83 = Except.ok (Instr.iconst 1, 1) := vyd_4 (vyb_cX6_nestedNow_8 (i := 3) rfl)
theorem dX6_nestedNow_84 : decode cX6_nestedNow 84 = Except.ok (Instr.isub, 1) := vyd_100 (vyb_cX6_nestedNow_8 (i := 4) rfl)
theorem dX6_nestedNow_85 : decode cX6_nestedNow 85 = Except.ok (Instr.iaload, 1) := vyd_46 (vyb_cX6_nestedNow_8 (i := 5) rfl)
theorem dX6_nestedNow_86 : decode cX6_nestedNow 86 = Except.ok (Instr.iload 6, 2) := vyd_21 (vyb_cX6_nestedNow_8 (i := 6) rfl) (vyb_cX6_nestedNow_8 (i := 7) rfl) rfl
theorem dX6_nestedNow_88 : decode cX6_nestedNow 88 = Except.ok (Instr.iconst 1, 1) := vyd_4 (vyb_cX6_nestedNow_8 (i := 8) rfl)
theorem dX6_nestedNow_89 : decode cX6_nestedNow 89 = Except.ok (Instr.isub, 1) := vyd_100 (vyb_cX6_nestedNow_8 (i := 9) rfl)
theorem dX6_nestedNow_90 : decode cX6_nestedNow 90 = Except.ok (Instr.if_icmp .eq 5, 3) := vyd_159 (vyb_cX6_nestedNow_9 (i := 0) rfl) (vyb_cX6_nestedNow_9 (i := 1) rfl) (vyb_cX6_nestedNow_9 (i := 2) rfl) (by decide +kernel)
theorem dX6_nestedNow_93 : decode cX6_nestedNow 93 = Except.ok (Instr.iconst (-1), 1) := vyd_2 (vyb_cX6_nestedNow_9 (i := 3) rfl)
theorem dX6_nestedNow_94 : decode cX6_nestedNow 94 = Except.ok (Instr.ireturn, 1) := vyd_172 (vyb_cX6_nestedNow_9 (i := 4) rfl)
theorem dX6_nestedNow_95 : decode cX6_nestedNow 95 = .ok (.iinc 3 (-1), 3) := by decide +kernel
theorem dX6_nestedNow_98 : decode cX6_nestedNow 98 = .ok (.iinc 5 1, 3) := by decide +kernel
theorem dX6_nestedNow_101 : decode cX6_nestedNow 101 = Except.ok (Instr.goto (-88), 3) := vyd_167 (vyb_cX6_nestedNow_10 (i := 1) rfl) (vyb_cX6_nestedNow_10 (i := 2) rfl) (vyb_cX6_nestedNow_10 (i := 3) rfl) (by decide +kernel)
theorem dX6_nestedNow_104 : decode cX6_nestedNow 104 = Except.ok (Instr.iload_n 3, 1) := vyd_29 (vyb_cX6_nestedNow_10 (i := 4) rfl)
theorem dX6_nestedNow_105 : decode cX6_nestedNow 105 = Except.ok (Instr.ifCond .ne 8, 3) := vyd_154 (vyb_cX6_nestedNow_10 (i := 5) rfl) (vyb_cX6_nestedNow_10 (i := 6) rfl) (vyb_cX6_nestedNow_10 (i := 7) rfl) (by decide +kernel)
theorem dX6_nestedNow_108 : decode cX6_nestedNow 108 = Except.ok (Instr.iload 4, 2) := vyd_21 (vyb_cX6_nestedNow_10 (i := 8) rfl) (vyb_cX6_nestedNow_10 (i := 9) rfl) rfl
theorem dX6_nestedNow_110 : decode cX6_nestedNow 110 = Except.ok (Instr.goto 4, 3) := vyd_167 (vyb_cX6_nestedNow_11 (i := 0) rfl) (vyb_cX6_nestedNow_11 (i := 1) rfl) (vyb_cX6_nestedNow_11 (i := 2) rfl) (by decide +kernel)
theorem dX6_nestedNow_113 : decode cX6_nestedNow 113 = Except.ok (Instr.iconst (-1), 1) := vyd_2 (vyb_cX6_nestedNow_11 (i := 3) rfl)
theorem dX6_nestedNow_114 : decode cX6_nestedNow 114 = Except.ok (Instr.ireturn, 1) := vyd_172 (vyb_cX6_nestedNow_11 (i := 4) rfl)
theorem vyb_cX6_nested_0 {i : Nat} {b : UInt8} (h : ([0x2a, 0x1b, 0xb8, 0x00, 0x6a, 0x04, 0xb6, 0x00, 0x6e, 0x99] : List UInt8)[i]? = some b) : vy_8 cX6_nested (0 + i) b := vy_in (n := 10) (by decide +kernel) h
theorem vyb_cX6_nested_1 {i : Nat} {b : UInt8} (h : ([0x00, 0x07, 0x03, 0xa7, 0x00, 0x08, 0x2a, 0x1b, 0xb6, 0x00] : List UInt8)[i]? = some b) : vy_8 cX6_nested (10 + i) b := vy_in (n := 10) (by decide +kernel) h
theorem vyb_cX6_nested_2 {i : Nat} {b : UInt8} (h : ([0xee, 0xac] : List UInt8)[i]? = some b) : vy_8 cX6_nested (20 + i) b := vy_in (n := 2) (by decide +kernel) h
theorem dX6_nested_0 : decode cX6_nested 0 = Except.ok (Instr.aload_n 0, 1) := vyd_42 (vyb_cX6_nested_0 (i := 0) rfl)
theorem dX6_nested_1 : decode cX6_nested 1 = Except.ok (Instr.iload_n 1, 1) := vyd_27 (vyb_cX6_nested_0 (i := 1) rfl)
theorem dX6_nested_2 : decode cX6_nested 2 = Except.ok (Instr.invokestatic 106, 3) := vyd_184 (vyb_cX6_nested_0 (i := 2) rfl) (vyb_cX6_nested_0 (i := 3) rfl) (vyb_cX6_nested_0 (i := 4) rfl) rfl
theorem dX6_nested_5 : decode cX6_nested 5 = Except.ok (Instr.iconst 1, 1) := vyd_4 (vyb_cX6_nested_0 (i := 5) rfl)
theorem dX6_nested_6 : decode cX6_nested 6 = Except.ok (Instr.invokevirtual 110, 3) := vyd_182 (vyb_cX6_nested_0 (i := 6) rfl) (vyb_cX6_nested_0 (i := 7) rfl) (vyb_cX6_nested_0 (i := 8) rfl) rfl
theorem dX6_nested_9 : decode cX6_nested 9 = Except.ok (Instr.ifCond .eq 7, 3) := vyd_153 (vyb_cX6_nested_0 (i := 9) rfl) (vyb_cX6_nested_1 (i := 0) rfl) (vyb_cX6_nested_1 (i := 1) rfl) (by decide +kernel)
theorem dX6_nested_12 : decode cX6_nested 12 = Except.ok (Instr.iconst 0, 1) := vyd_3 (vyb_cX6_nested_1 (i := 2) rfl)
theorem dX6_nested_13 : decode cX6_nested 13 = Except.ok (Instr.goto 8, 3) := vyd_167 (vyb_cX6_nested_1 (i := 3) rfl) (vyb_cX6_nested_1 (i := 4) rfl) (vyb_cX6_nested_1 (i := 5) rfl) (by decide +kernel)
theorem dX6_nested_16 : decode cX6_nested 16 = Except.ok (Instr.aload_n 0, 1) := vyd_42 (vyb_cX6_nested_1 (i := 6) rfl)
theorem dX6_nested_17 : decode cX6_nested 17 = Except.ok (Instr.iload_n 1, 1) := vyd_27 (vyb_cX6_nested_1 (i := 7) rfl)
theorem dX6_nested_18 : decode cX6_nested 18 = Except.ok (Instr.invokevirtual 238, 3) := vyd_182 (vyb_cX6_nested_1 (i := 8) rfl) (vyb_cX6_nested_1 (i := 9) rfl) (vyb_cX6_nested_2 (i := 0) rfl) rfl
theorem dX6_nested_21 : decode cX6_nested 21 = Except.ok (Instr.ireturn, 1) := vyd_172 (vyb_cX6_nested_2 (i := 1) rfl)
theorem vyb_cX6_heaviest_0 {i : Nat} {b : UInt8} (h : ([0x2a, 0x1b, 0xb8, 0x00, 0x6a, 0x9a, 0x00, 0x0b, 0x2a, 0x1d] : List UInt8)[i]? = some b) : vy_8 cX6_heaviest (0 + i) b := vy_in (n := 10) (by decide +kernel) h
theorem vyb_cX6_heaviest_1 {i : Nat} {b : UInt8} (h : ([0xb6, 0x00, 0xb1, 0x99, 0x00, 0x07, 0x04, 0xa7, 0x00, 0x04] : List UInt8)[i]? = some b) : vy_8 cX6_heaviest (10 + i) b := vy_in (n := 10) (by decide +kernel) h
theorem vyb_cX6_heaviest_2 {i : Nat} {b : UInt8} (h : ([0x03, 0x04, 0xb6, 0x00, 0x6e, 0x9a, 0x00, 0x1a, 0x2a, 0x1c] : List UInt8)[i]? = some b) : vy_8 cX6_heaviest (20 + i) b := vy_in (n := 10) (by decide +kernel) h
theorem vyb_cX6_heaviest_3 {i : Nat} {b : UInt8} (h : ([0x04, 0x10, 0x14, 0xb8, 0x00, 0x2c, 0x9a, 0x00, 0x07, 0x04] : List UInt8)[i]? = some b) : vy_8 cX6_heaviest (30 + i) b := vy_in (n := 10) (by decide +kernel) h
theorem vyb_cX6_heaviest_4 {i : Nat} {b : UInt8} (h : ([0xa7, 0x00, 0x04, 0x03, 0x05, 0xb6, 0x00, 0x28, 0x99, 0x00] : List UInt8)[i]? = some b) : vy_8 cX6_heaviest (40 + i) b := vy_in (n := 10) (by decide +kernel) h
theorem vyb_cX6_heaviest_5 {i : Nat} {b : UInt8} (h : ([0x05, 0x03, 0xac, 0x1d, 0x1c, 0x60, 0x2a, 0x1b, 0xb6, 0x00] : List UInt8)[i]? = some b) : vy_8 cX6_heaviest (50 + i) b := vy_in (n := 10) (by decide +kernel) h
theorem vyb_cX6_heaviest_6 {i : Nat} {b : UInt8} (h : ([0x5b, 0xa4, 0x00, 0x05, 0x02, 0xac, 0x03, 0x36, 0x04, 0x03] : List UInt8)[i]? = some b) : vy_8 cX6_heaviest (60 + i) b := vy_in (n := 10) (by decide +kernel) h
theorem vyb_cX6_heaviest_7 {i : Nat} {b : UInt8} (h : ([0x36, 0x05, 0x15, 0x05, 0x1c, 0xa2, 0x00, 0x1c, 0x15, 0x04] : List UInt8)[i]? = some b) : vy_8 cX6_heaviest (70 + i) b := vy_in (n := 10) (by decide +kernel) h
theorem vyb_cX6_heaviest_8 {i : Nat} {b : UInt8} (h : ([0x2a, 0x1b, 0x1d, 0x15, 0x05, 0x60, 0xb6, 0x00, 0x83, 0xb8] : List UInt8)[i]? = some b) : vy_8 cX6_heaviest (80 + i) b := vy_in (n := 10) (by decide +kernel) h
theorem vyb_cX6_heaviest_9 {i : Nat} {b : UInt8} (h : ([0x00, 0xab, 0xb8, 0x00, 0xeb, 0x36, 0x04, 0x84, 0x05, 0x01] : List UInt8)[i]? = some b) : vy_8 cX6_heaviest (90 + i) b := vy_in (n := 10) (by decide +kernel) h
theorem vyb_cX6_heaviest_10 {i : Nat} {b : UInt8} (h : ([0xa7, 0xff, 0xe4, 0x15, 0x04, 0xac] : List UInt8)[i]? = some b) : vy_8 cX6_heaviest (100 + i) b := vy_in (n := 6) (by decide +kernel) h
theorem dX6_heaviest_0 : decode cX6_heaviest 0 = Except.ok (Instr.aload_n 0, 1) := vyd_42 (vyb_cX6_heaviest_0 (i := 0) rfl)
theorem dX6_heaviest_1 : decode cX6_heaviest 1 = Except.ok (Instr.iload_n 1, 1) := vyd_27 (vyb_cX6_heaviest_0 (i := 1) rfl)
theorem dX6_heaviest_2 : decode cX6_heaviest 2 = Except.ok (Instr.invokestatic 106, 3) := vyd_184 (vyb_cX6_heaviest_0 (i := 2) rfl) (vyb_cX6_heaviest_0 (i := 3) rfl) (vyb_cX6_heaviest_0 (i := 4) rfl) rfl
theorem dX6_heaviest_5 : decode cX6_heaviest 5 = Except.ok (Instr.ifCond .ne 11, 3) := vyd_154 (vyb_cX6_heaviest_0 (i := 5) rfl) (vyb_cX6_heaviest_0 (i := 6) rfl) (vyb_cX6_heaviest_0 (i := 7) rfl) (by decide +kernel)
theorem dX6_heaviest_8 : decode cX6_heaviest 8 = Except.ok (Instr.aload_n 0, 1) := vyd_42 (vyb_cX6_heaviest_0 (i := 8) rfl)
theorem dX6_heaviest_9 : decode cX6_heaviest 9 = Except.ok (Instr.iload_n 3, 1) := vyd_29 (vyb_cX6_heaviest_0 (i := 9) rfl)
theorem dX6_heaviest_10 : decode cX6_heaviest 10 = Except.ok (Instr.invokevirtual 177, 3) := vyd_182 (vyb_cX6_heaviest_1 (i := 0) rfl) (vyb_cX6_heaviest_1 (i := 1) rfl) (vyb_cX6_heaviest_1 (i := 2) rfl) rfl
theorem dX6_heaviest_13 : decode cX6_heaviest 13 = Except.ok (Instr.ifCond .eq 7, 3) := vyd_153 (vyb_cX6_heaviest_1 (i := 3) rfl) (vyb_cX6_heaviest_1 (i := 4) rfl) (vyb_cX6_heaviest_1 (i := 5) rfl) (by decide +kernel)
theorem dX6_heaviest_16 : decode cX6_heaviest 16 = Except.ok (Instr.iconst 1, 1) := vyd_4 (vyb_cX6_heaviest_1 (i := 6) rfl)
theorem dX6_heaviest_17 : decode cX6_heaviest 17 = Except.ok (Instr.goto 4, 3) := vyd_167 (vyb_cX6_heaviest_1 (i := 7) rfl) (vyb_cX6_heaviest_1 (i := 8) rfl) (vyb_cX6_heaviest_1 (i := 9) rfl) (by decide +kernel)
theorem dX6_heaviest_20 : decode cX6_heaviest 20 = Except.ok (Instr.iconst 0, 1) := vyd_3 (vyb_cX6_heaviest_2 (i := 0) rfl)
theorem dX6_heaviest_21 : decode cX6_heaviest 21 = Except.ok (Instr.iconst 1, 1) := vyd_4 (vyb_cX6_heaviest_2 (i := 1) rfl)
theorem dX6_heaviest_22 : decode cX6_heaviest 22 = Except.ok (Instr.invokevirtual 110, 3) := vyd_182 (vyb_cX6_heaviest_2 (i := 2) rfl) (vyb_cX6_heaviest_2 (i := 3) rfl) (vyb_cX6_heaviest_2 (i := 4) rfl) rfl
theorem dX6_heaviest_25 : decode cX6_heaviest 25 = Except.ok (Instr.ifCond .ne 26, 3) := vyd_154 (vyb_cX6_heaviest_2 (i := 5) rfl) (vyb_cX6_heaviest_2 (i := 6) rfl) (vyb_cX6_heaviest_2 (i := 7) rfl) (by decide +kernel)
theorem dX6_heaviest_28 : decode cX6_heaviest 28 = Except.ok (Instr.aload_n 0, 1) := vyd_42 (vyb_cX6_heaviest_2 (i := 8) rfl)
theorem dX6_heaviest_29 : decode cX6_heaviest 29 = Except.ok (Instr.iload_n 2, 1) := vyd_28 (vyb_cX6_heaviest_2 (i := 9) rfl)
theorem dX6_heaviest_30 : decode cX6_heaviest 30 = Except.ok (Instr.iconst 1, 1) := vyd_4 (vyb_cX6_heaviest_3 (i := 0) rfl)
theorem dX6_heaviest_31 : decode cX6_heaviest 31 = Except.ok (Instr.bipush 20, 2) := vyd_16 (vyb_cX6_heaviest_3 (i := 1) rfl) (vyb_cX6_heaviest_3 (i := 2) rfl) (by decide +kernel)
theorem dX6_heaviest_33 : decode cX6_heaviest 33 = Except.ok (Instr.invokestatic 44, 3) := vyd_184 (vyb_cX6_heaviest_3 (i := 3) rfl) (vyb_cX6_heaviest_3 (i := 4) rfl) (vyb_cX6_heaviest_3 (i := 5) rfl) rfl
theorem dX6_heaviest_36 : decode cX6_heaviest 36 = Except.ok (Instr.ifCond .ne 7, 3) := vyd_154 (vyb_cX6_heaviest_3 (i := 6) rfl) (vyb_cX6_heaviest_3 (i := 7) rfl) (vyb_cX6_heaviest_3 (i := 8) rfl) (by decide +kernel)
theorem dX6_heaviest_39 : decode cX6_heaviest 39 = Except.ok (Instr.iconst 1, 1) := vyd_4 (vyb_cX6_heaviest_3 (i := 9) rfl)
theorem dX6_heaviest_40 : decode cX6_heaviest 40 = Except.ok (Instr.goto 4, 3) := vyd_167 (vyb_cX6_heaviest_4 (i := 0) rfl) (vyb_cX6_heaviest_4 (i := 1) rfl) (vyb_cX6_heaviest_4 (i := 2) rfl) (by decide +kernel)
theorem dX6_heaviest_43 : decode cX6_heaviest 43 = Except.ok (Instr.iconst 0, 1) := vyd_3 (vyb_cX6_heaviest_4 (i := 3) rfl)
theorem dX6_heaviest_44 : decode cX6_heaviest 44 = Except.ok (Instr.iconst 2, 1) := vyd_5 (vyb_cX6_heaviest_4 (i := 4) rfl)
theorem dX6_heaviest_45 : decode cX6_heaviest 45 = Except.ok (Instr.invokevirtual 40, 3) := vyd_182 (vyb_cX6_heaviest_4 (i := 5) rfl) (vyb_cX6_heaviest_4 (i := 6) rfl) (vyb_cX6_heaviest_4 (i := 7) rfl) rfl
theorem dX6_heaviest_48 : decode cX6_heaviest 48 = Except.ok (Instr.ifCond .eq 5, 3) := vyd_153 (vyb_cX6_heaviest_4 (i := 8) rfl) (vyb_cX6_heaviest_4 (i := 9) rfl) (vyb_cX6_heaviest_5 (i := 0) rfl) (by decide +kernel)
theorem dX6_heaviest_51 : decode cX6_heaviest 51 = Except.ok (Instr.iconst 0, 1) := vyd_3 (vyb_cX6_heaviest_5 (i := 1) rfl)
theorem dX6_heaviest_52 : decode cX6_heaviest 52 = Except.ok (Instr.ireturn, 1) := vyd_172 (vyb_cX6_heaviest_5 (i := 2) rfl)
theorem dX6_heaviest_53 : decode cX6_heaviest 53 = Except.ok (Instr.iload_n 3, 1) := vyd_29 (vyb_cX6_heaviest_5 (i := 3) rfl)
theorem dX6_heaviest_54 : decode cX6_heaviest 54 = Except.ok (Instr.iload_n 2, 1) := vyd_28 (vyb_cX6_heaviest_5 (i := 4) rfl)
theorem dX6_heaviest_55 : decode cX6_heaviest 55 = Except.ok (Instr.iadd, 1) := vyd_96 (vyb_cX6_heaviest_5 (i := 5) rfl)
theorem dX6_heaviest_56 : decode cX6_heaviest 56 = Except.ok (Instr.aload_n 0, 1) := vyd_42 (vyb_cX6_heaviest_5 (i := 6) rfl)
theorem dX6_heaviest_57 : decode cX6_heaviest 57 = Except.ok (Instr.iload_n 1, 1) := vyd_27 (vyb_cX6_heaviest_5 (i := 7) rfl)
theorem dX6_heaviest_58 : decode cX6_heaviest 58 = Except.ok (Instr.invokevirtual 91, 3) := vyd_182 (vyb_cX6_heaviest_5 (i := 8) rfl) (vyb_cX6_heaviest_5 (i := 9) rfl) (vyb_cX6_heaviest_6 (i := 0) rfl) rfl
theorem dX6_heaviest_61 : decode cX6_heaviest 61 = Except.ok (Instr.if_icmp .le 5, 3) := vyd_164 (vyb_cX6_heaviest_6 (i := 1) rfl) (vyb_cX6_heaviest_6 (i := 2) rfl) (vyb_cX6_heaviest_6 (i := 3) rfl) (by decide +kernel)
theorem dX6_heaviest_64 : decode cX6_heaviest 64 = Except.ok (Instr.iconst (-1), 1) := vyd_2 (vyb_cX6_heaviest_6 (i := 4) rfl)
theorem dX6_heaviest_65 : decode cX6_heaviest 65 = Except.ok (Instr.ireturn, 1) := vyd_172 (vyb_cX6_heaviest_6 (i := 5) rfl)
theorem dX6_heaviest_66 : decode cX6_heaviest 66 = Except.ok (Instr.iconst 0, 1) := vyd_3 (vyb_cX6_heaviest_6 (i := 6) rfl)
theorem dX6_heaviest_67 : decode cX6_heaviest 67 = Except.ok (Instr.istore 4, 2) := vyd_54 (vyb_cX6_heaviest_6 (i := 7) rfl) (vyb_cX6_heaviest_6 (i := 8) rfl) rfl
theorem dX6_heaviest_69 : decode cX6_heaviest 69 = Except.ok (Instr.iconst 0, 1) := vyd_3 (vyb_cX6_heaviest_6 (i := 9) rfl)
theorem dX6_heaviest_70 : decode cX6_heaviest 70 = Except.ok (Instr.istore 5, 2) := vyd_54 (vyb_cX6_heaviest_7 (i := 0) rfl) (vyb_cX6_heaviest_7 (i := 1) rfl) rfl
theorem dX6_heaviest_72 : decode cX6_heaviest 72 = Except.ok (Instr.iload 5, 2) := vyd_21 (vyb_cX6_heaviest_7 (i := 2) rfl) (vyb_cX6_heaviest_7 (i := 3) rfl) rfl
theorem dX6_heaviest_74 : decode cX6_heaviest 74 = Except.ok (Instr.iload_n 2, 1) := vyd_28 (vyb_cX6_heaviest_7 (i := 4) rfl)
theorem dX6_heaviest_75 : decode cX6_heaviest 75 = Except.ok (Instr.if_icmp .ge 28, 3) := vyd_162 (vyb_cX6_heaviest_7 (i := 5) rfl) (vyb_cX6_heaviest_7 (i := 6) rfl) (vyb_cX6_heaviest_7 (i := 7) rfl) (by decide +kernel)
theorem dX6_heaviest_78 : decode cX6_heaviest 78 = Except.ok (Instr.iload 4, 2) := vyd_21 (vyb_cX6_heaviest_7 (i := 8) rfl) (vyb_cX6_heaviest_7 (i := 9) rfl) rfl
theorem dX6_heaviest_80 : decode cX6_heaviest 80 = Except.ok (Instr.aload_n 0, 1) := vyd_42 (vyb_cX6_heaviest_8 (i := 0) rfl)
theorem dX6_heaviest_81 : decode cX6_heaviest 81 = Except.ok (Instr.iload_n 1, 1) := vyd_27 (vyb_cX6_heaviest_8 (i := 1) rfl)
theorem dX6_heaviest_82 : decode cX6_heaviest 82 = Except.ok (Instr.iload_n 3, 1) := vyd_29 (vyb_cX6_heaviest_8 (i := 2) rfl)
theorem dX6_heaviest_83 : decode cX6_heaviest 83 = Except.ok (Instr.iload 5, 2) := vyd_21 (vyb_cX6_heaviest_8 (i := 3) rfl) (vyb_cX6_heaviest_8 (i := 4) rfl) rfl
theorem dX6_heaviest_85 : decode cX6_heaviest 85 = Except.ok (Instr.iadd, 1) := vyd_96 (vyb_cX6_heaviest_8 (i := 5) rfl)
theorem dX6_heaviest_86 : decode cX6_heaviest 86 = Except.ok (Instr.invokevirtual 131, 3) := vyd_182 (vyb_cX6_heaviest_8 (i := 6) rfl) (vyb_cX6_heaviest_8 (i := 7) rfl) (vyb_cX6_heaviest_8 (i := 8) rfl) rfl
theorem dX6_heaviest_89 : decode cX6_heaviest 89 = Except.ok (Instr.invokestatic 171, 3) := vyd_184 (vyb_cX6_heaviest_8 (i := 9) rfl) (vyb_cX6_heaviest_9 (i := 0) rfl) (vyb_cX6_heaviest_9 (i := 1) rfl) rfl
theorem dX6_heaviest_92 : decode cX6_heaviest 92 = Except.ok (Instr.invokestatic 235, 3) := vyd_184 (vyb_cX6_heaviest_9 (i := 2) rfl) (vyb_cX6_heaviest_9 (i := 3) rfl) (vyb_cX6_heaviest_9 (i := 4) rfl) rfl
theorem dX6_heaviest_95 : decode cX6_heaviest 95 = Except.ok (Instr.istore 4, 2) := vyd_54 (vyb_cX6_heaviest_9 (i := 5) rfl) (vyb_cX6_heaviest_9 (i := 6) rfl) rfl
theorem dX6_heaviest_97 : decode cX6_heaviest 97 = .ok (.iinc 5 1, 3) := by decide +kernel
theorem dX6_heaviest_100 : decode cX6_heaviest 100 = Except.ok (Instr.goto (-28), 3) := vyd_167 (vyb_cX6_heaviest_10 (i := 0) rfl) (vyb_cX6_heaviest_10 (i := 1) rfl) (vyb_cX6_heaviest_10 (i := 2) rfl) (by decide +kernel)
theorem dX6_heaviest_103 : decode cX6_heaviest 103 = Except.ok (Instr.iload 4, 2) := vyd_21 (vyb_cX6_heaviest_10 (i := 3) rfl) (vyb_cX6_heaviest_10 (i := 4) rfl) rfl
theorem dX6_heaviest_105 : decode cX6_heaviest 105 = Except.ok (Instr.ireturn, 1) := vyd_172 (vyb_cX6_heaviest_10 (i := 5) rfl)
theorem vyb_cX6_ahead_0 {i : Nat} {b : UInt8} (h : ([0x2a, 0x1b, 0xb8, 0x00, 0x6a, 0x9a, 0x00, 0x0b, 0x2a, 0x1c] : List UInt8)[i]? = some b) : vy_8 cX6_ahead (0 + i) b := vy_in (n := 10) (by decide +kernel) h
theorem vyb_cX6_ahead_1 {i : Nat} {b : UInt8} (h : ([0xb6, 0x00, 0xb1, 0x99, 0x00, 0x07, 0x04, 0xa7, 0x00, 0x04] : List UInt8)[i]? = some b) : vy_8 cX6_ahead (10 + i) b := vy_in (n := 10) (by decide +kernel) h
theorem vyb_cX6_ahead_2 {i : Nat} {b : UInt8} (h : ([0x03, 0x04, 0xb6, 0x00, 0x6e, 0x99, 0x00, 0x05, 0x03, 0xac] : List UInt8)[i]? = some b) : vy_8 cX6_ahead (20 + i) b := vy_in (n := 10) (by decide +kernel) h
theorem vyb_cX6_ahead_3 {i : Nat} {b : UInt8} (h : ([0x1c, 0x2a, 0x1b, 0xb6, 0x00, 0x5b, 0xa1, 0x00, 0x06, 0x10] : List UInt8)[i]? = some b) : vy_8 cX6_ahead (30 + i) b := vy_in (n := 10) (by decide +kernel) h
theorem vyb_cX6_ahead_4 {i : Nat} {b : UInt8} (h : ([0xf7, 0xac, 0x02, 0x3e, 0x03, 0x36, 0x04, 0x15, 0x04, 0x1c] : List UInt8)[i]? = some b) : vy_8 cX6_ahead (40 + i) b := vy_in (n := 10) (by decide +kernel) h
theorem vyb_cX6_ahead_5 {i : Nat} {b : UInt8} (h : ([0xa2, 0x00, 0x22, 0x2a, 0x1b, 0x15, 0x04, 0xb6, 0x00, 0x83] : List UInt8)[i]? = some b) : vy_8 cX6_ahead (50 + i) b := vy_in (n := 10) (by decide +kernel) h
theorem vyb_cX6_ahead_6 {i : Nat} {b : UInt8} (h : ([0xb8, 0x00, 0xab, 0x2a, 0x1b, 0x1c, 0xb6, 0x00, 0x83, 0xb8] : List UInt8)[i]? = some b) : vy_8 cX6_ahead (60 + i) b := vy_in (n := 10) (by decide +kernel) h
theorem vyb_cX6_ahead_7 {i : Nat} {b : UInt8} (h : ([0x00, 0xab, 0xa4, 0x00, 0x06, 0x15, 0x04, 0x3e, 0x84, 0x04] : List UInt8)[i]? = some b) : vy_8 cX6_ahead (70 + i) b := vy_in (n := 10) (by decide +kernel) h
theorem vyb_cX6_ahead_8 {i : Nat} {b : UInt8} (h : ([0x01, 0xa7, 0xff, 0xde, 0x1d, 0xac] : List UInt8)[i]? = some b) : vy_8 cX6_ahead (80 + i) b := vy_in (n := 6) (by decide +kernel) h
theorem dX6_ahead_0 : decode cX6_ahead 0 = Except.ok (Instr.aload_n 0, 1) := vyd_42 (vyb_cX6_ahead_0 (i := 0) rfl)
theorem dX6_ahead_1 : decode cX6_ahead 1 = Except.ok (Instr.iload_n 1, 1) := vyd_27 (vyb_cX6_ahead_0 (i := 1) rfl)
theorem dX6_ahead_2 : decode cX6_ahead 2 = Except.ok (Instr.invokestatic 106, 3) := vyd_184 (vyb_cX6_ahead_0 (i := 2) rfl) (vyb_cX6_ahead_0 (i := 3) rfl) (vyb_cX6_ahead_0 (i := 4) rfl) rfl
theorem dX6_ahead_5 : decode cX6_ahead 5 = Except.ok (Instr.ifCond .ne 11, 3) := vyd_154 (vyb_cX6_ahead_0 (i := 5) rfl) (vyb_cX6_ahead_0 (i := 6) rfl) (vyb_cX6_ahead_0 (i := 7) rfl) (by decide +kernel)
theorem dX6_ahead_8 : decode cX6_ahead 8 = Except.ok (Instr.aload_n 0, 1) := vyd_42 (vyb_cX6_ahead_0 (i := 8) rfl)
theorem dX6_ahead_9 : decode cX6_ahead 9 = Except.ok (Instr.iload_n 2, 1) := vyd_28 (vyb_cX6_ahead_0 (i := 9) rfl)
theorem dX6_ahead_10 : decode cX6_ahead 10 = Except.ok (Instr.invokevirtual 177, 3) := vyd_182 (vyb_cX6_ahead_1 (i := 0) rfl) (vyb_cX6_ahead_1 (i := 1) rfl) (vyb_cX6_ahead_1 (i := 2) rfl) rfl
theorem dX6_ahead_13 : decode cX6_ahead 13 = Except.ok (Instr.ifCond .eq 7, 3) := vyd_153 (vyb_cX6_ahead_1 (i := 3) rfl) (vyb_cX6_ahead_1 (i := 4) rfl) (vyb_cX6_ahead_1 (i := 5) rfl) (by decide +kernel)
theorem dX6_ahead_16 : decode cX6_ahead 16 = Except.ok (Instr.iconst 1, 1) := vyd_4 (vyb_cX6_ahead_1 (i := 6) rfl)
theorem dX6_ahead_17 : decode cX6_ahead 17 = Except.ok (Instr.goto 4, 3) := vyd_167 (vyb_cX6_ahead_1 (i := 7) rfl) (vyb_cX6_ahead_1 (i := 8) rfl) (vyb_cX6_ahead_1 (i := 9) rfl) (by decide +kernel)
theorem dX6_ahead_20 : decode cX6_ahead 20 = Except.ok (Instr.iconst 0, 1) := vyd_3 (vyb_cX6_ahead_2 (i := 0) rfl)
theorem dX6_ahead_21 : decode cX6_ahead 21 = Except.ok (Instr.iconst 1, 1) := vyd_4 (vyb_cX6_ahead_2 (i := 1) rfl)
theorem dX6_ahead_22 : decode cX6_ahead 22 = Except.ok (Instr.invokevirtual 110, 3) := vyd_182 (vyb_cX6_ahead_2 (i := 2) rfl) (vyb_cX6_ahead_2 (i := 3) rfl) (vyb_cX6_ahead_2 (i := 4) rfl) rfl
theorem dX6_ahead_25 : decode cX6_ahead 25 = Except.ok (Instr.ifCond .eq 5, 3) := vyd_153 (vyb_cX6_ahead_2 (i := 5) rfl) (vyb_cX6_ahead_2 (i := 6) rfl) (vyb_cX6_ahead_2 (i := 7) rfl) (by decide +kernel)
theorem dX6_ahead_28 : decode cX6_ahead 28 = Except.ok (Instr.iconst 0, 1) := vyd_3 (vyb_cX6_ahead_2 (i := 8) rfl)
theorem dX6_ahead_29 : decode cX6_ahead 29 = Except.ok (Instr.ireturn, 1) := vyd_172 (vyb_cX6_ahead_2 (i := 9) rfl)
theorem dX6_ahead_30 : decode cX6_ahead 30 = Except.ok (Instr.iload_n 2, 1) := vyd_28 (vyb_cX6_ahead_3 (i := 0) rfl)
theorem dX6_ahead_31 : decode cX6_ahead 31 = Except.ok (Instr.aload_n 0, 1) := vyd_42 (vyb_cX6_ahead_3 (i := 1) rfl)
theorem dX6_ahead_32 : decode cX6_ahead 32 = Except.ok (Instr.iload_n 1, 1) := vyd_27 (vyb_cX6_ahead_3 (i := 2) rfl)
theorem dX6_ahead_33 : decode cX6_ahead 33 = Except.ok (Instr.invokevirtual 91, 3) := vyd_182 (vyb_cX6_ahead_3 (i := 3) rfl) (vyb_cX6_ahead_3 (i := 4) rfl) (vyb_cX6_ahead_3 (i := 5) rfl) rfl
theorem dX6_ahead_36 : decode cX6_ahead 36 = Except.ok (Instr.if_icmp .lt 6, 3) := vyd_161 (vyb_cX6_ahead_3 (i := 6) rfl) (vyb_cX6_ahead_3 (i := 7) rfl) (vyb_cX6_ahead_3 (i := 8) rfl) (by decide +kernel)
theorem dX6_ahead_39 : decode cX6_ahead 39 = Except.ok (Instr.bipush (-9), 2) := vyd_16 (vyb_cX6_ahead_3 (i := 9) rfl) (vyb_cX6_ahead_4 (i := 0) rfl) (by decide +kernel)
theorem dX6_ahead_41 : decode cX6_ahead 41 = Except.ok (Instr.ireturn, 1) := vyd_172 (vyb_cX6_ahead_4 (i := 1) rfl)
theorem dX6_ahead_42 : decode cX6_ahead 42 = Except.ok (Instr.iconst (-1), 1) := vyd_2 (vyb_cX6_ahead_4 (i := 2) rfl)
theorem dX6_ahead_43 : decode cX6_ahead 43 = Except.ok (Instr.istore_n 3, 1) := vyd_62 (vyb_cX6_ahead_4 (i := 3) rfl)
theorem dX6_ahead_44 : decode cX6_ahead 44 = Except.ok (Instr.iconst 0, 1) := vyd_3 (vyb_cX6_ahead_4 (i := 4) rfl)
theorem dX6_ahead_45 : decode cX6_ahead 45 = Except.ok (Instr.istore 4, 2) := vyd_54 (vyb_cX6_ahead_4 (i := 5) rfl) (vyb_cX6_ahead_4 (i := 6) rfl) rfl
theorem dX6_ahead_47 : decode cX6_ahead 47 = Except.ok (Instr.iload 4, 2) := vyd_21 (vyb_cX6_ahead_4 (i := 7) rfl) (vyb_cX6_ahead_4 (i := 8) rfl) rfl
theorem dX6_ahead_49 : decode cX6_ahead 49 = Except.ok (Instr.iload_n 2, 1) := vyd_28 (vyb_cX6_ahead_4 (i := 9) rfl)
theorem dX6_ahead_50 : decode cX6_ahead 50 = Except.ok (Instr.if_icmp .ge 34, 3) := vyd_162 (vyb_cX6_ahead_5 (i := 0) rfl) (vyb_cX6_ahead_5 (i := 1) rfl) (vyb_cX6_ahead_5 (i := 2) rfl) (by decide +kernel)
theorem dX6_ahead_53 : decode cX6_ahead 53 = Except.ok (Instr.aload_n 0, 1) := vyd_42 (vyb_cX6_ahead_5 (i := 3) rfl)
theorem dX6_ahead_54 : decode cX6_ahead 54 = Except.ok (Instr.iload_n 1, 1) := vyd_27 (vyb_cX6_ahead_5 (i := 4) rfl)
theorem dX6_ahead_55 : decode cX6_ahead 55 = Except.ok (Instr.iload 4, 2) := vyd_21 (vyb_cX6_ahead_5 (i := 5) rfl) (vyb_cX6_ahead_5 (i := 6) rfl) rfl
theorem dX6_ahead_57 : decode cX6_ahead 57 = Except.ok (Instr.invokevirtual 131, 3) := vyd_182 (vyb_cX6_ahead_5 (i := 7) rfl) (vyb_cX6_ahead_5 (i := 8) rfl) (vyb_cX6_ahead_5 (i := 9) rfl) rfl
theorem dX6_ahead_60 : decode cX6_ahead 60 = Except.ok (Instr.invokestatic 171, 3) := vyd_184 (vyb_cX6_ahead_6 (i := 0) rfl) (vyb_cX6_ahead_6 (i := 1) rfl) (vyb_cX6_ahead_6 (i := 2) rfl) rfl
theorem dX6_ahead_63 : decode cX6_ahead 63 = Except.ok (Instr.aload_n 0, 1) := vyd_42 (vyb_cX6_ahead_6 (i := 3) rfl)
theorem dX6_ahead_64 : decode cX6_ahead 64 = Except.ok (Instr.iload_n 1, 1) := vyd_27 (vyb_cX6_ahead_6 (i := 4) rfl)
theorem dX6_ahead_65 : decode cX6_ahead 65 = Except.ok (Instr.iload_n 2, 1) := vyd_28 (vyb_cX6_ahead_6 (i := 5) rfl)
theorem dX6_ahead_66 : decode cX6_ahead 66 = Except.ok (Instr.invokevirtual 131, 3) := vyd_182 (vyb_cX6_ahead_6 (i := 6) rfl) (vyb_cX6_ahead_6 (i := 7) rfl) (vyb_cX6_ahead_6 (i := 8) rfl) rfl
theorem dX6_ahead_69 : decode cX6_ahead 69 = Except.ok (Instr.invokestatic 171, 3) := vyd_184 (vyb_cX6_ahead_6 (i := 9) rfl) (vyb_cX6_ahead_7 (i := 0) rfl) (vyb_cX6_ahead_7 (i := 1) rfl) rfl
theorem dX6_ahead_72 : decode cX6_ahead 72 = Except.ok (Instr.if_icmp .le 6, 3) := vyd_164 (vyb_cX6_ahead_7 (i := 2) rfl) (vyb_cX6_ahead_7 (i := 3) rfl) (vyb_cX6_ahead_7 (i := 4) rfl) (by decide +kernel)
theorem dX6_ahead_75 : decode cX6_ahead 75 = Except.ok (Instr.iload 4, 2) := vyd_21 (vyb_cX6_ahead_7 (i := 5) rfl) (vyb_cX6_ahead_7 (i := 6) rfl) rfl
theorem dX6_ahead_77 : decode cX6_ahead 77 = Except.ok (Instr.istore_n 3, 1) := vyd_62 (vyb_cX6_ahead_7 (i := 7) rfl)
theorem dX6_ahead_78 : decode cX6_ahead 78 = .ok (.iinc 4 1, 3) := by decide +kernel
theorem dX6_ahead_81 : decode cX6_ahead 81 = Except.ok (Instr.goto (-34), 3) := vyd_167 (vyb_cX6_ahead_8 (i := 1) rfl) (vyb_cX6_ahead_8 (i := 2) rfl) (vyb_cX6_ahead_8 (i := 3) rfl) (by decide +kernel)
theorem dX6_ahead_84 : decode cX6_ahead 84 = Except.ok (Instr.iload_n 3, 1) := vyd_29 (vyb_cX6_ahead_8 (i := 4) rfl)
theorem dX6_ahead_85 : decode cX6_ahead 85 = Except.ok (Instr.ireturn, 1) := vyd_172 (vyb_cX6_ahead_8 (i := 5) rfl)
theorem vyb_cX6_yardTold_0 {i : Nat} {b : UInt8} (h : ([0x1b, 0xaa, 0x00, 0x00, 0x00, 0x00, 0x00, 0xaf, 0x00, 0x00] : List UInt8)[i]? = some b) : vy_8 cX6_yardTold (0 + i) b := vy_in (n := 10) (by decide +kernel) h
theorem vyb_cX6_yardTold_1 {i : Nat} {b : UInt8} (h : ([0x00, 0x00, 0x00, 0x00, 0x00, 0x06, 0x00, 0x00, 0x00, 0x2b] : List UInt8)[i]? = some b) : vy_8 cX6_yardTold (10 + i) b := vy_in (n := 10) (by decide +kernel) h
theorem vyb_cX6_yardTold_2 {i : Nat} {b : UInt8} (h : ([0x00, 0x00, 0x00, 0x33, 0x00, 0x00, 0x00, 0x50, 0x00, 0x00] : List UInt8)[i]? = some b) : vy_8 cX6_yardTold (20 + i) b := vy_in (n := 10) (by decide +kernel) h
theorem vyb_cX6_yardTold_3 {i : Nat} {b : UInt8} (h : ([0x00, 0x75, 0x00, 0x00, 0x00, 0x7d, 0x00, 0x00, 0x00, 0xa2] : List UInt8)[i]? = some b) : vy_8 cX6_yardTold (30 + i) b := vy_in (n := 10) (by decide +kernel) h
theorem vyb_cX6_yardTold_4 {i : Nat} {b : UInt8} (h : ([0x00, 0x00, 0x00, 0xa7, 0x2a, 0xb4, 0x00, 0x13, 0xb6, 0x00] : List UInt8)[i]? = some b) : vy_8 cX6_yardTold (40 + i) b := vy_in (n := 10) (by decide +kernel) h
theorem vyb_cX6_yardTold_5 {i : Nat} {b : UInt8} (h : ([0x34, 0xac, 0x2a, 0xb4, 0x00, 0x13, 0xb6, 0x00, 0x96, 0x99] : List UInt8)[i]? = some b) : vy_8 cX6_yardTold (50 + i) b := vy_in (n := 10) (by decide +kernel) h
theorem vyb_cX6_yardTold_6 {i : Nat} {b : UInt8} (h : ([0x00, 0x07, 0x02, 0xa7, 0x00, 0x11, 0x2a, 0xb4, 0x00, 0x13] : List UInt8)[i]? = some b) : vy_8 cX6_yardTold (60 + i) b := vy_in (n := 10) (by decide +kernel) h
theorem vyb_cX6_yardTold_7 {i : Nat} {b : UInt8} (h : ([0x03, 0xb6, 0x00, 0x30, 0xc0, 0x00, 0x38, 0xb6, 0x00, 0x3a] : List UInt8)[i]? = some b) : vy_8 cX6_yardTold (70 + i) b := vy_in (n := 10) (by decide +kernel) h
theorem vyb_cX6_yardTold_8 {i : Nat} {b : UInt8} (h : ([0xac, 0x2a, 0xb4, 0x00, 0x13, 0xb6, 0x00, 0x96, 0x99, 0x00] : List UInt8)[i]? = some b) : vy_8 cX6_yardTold (80 + i) b := vy_in (n := 10) (by decide +kernel) h
theorem vyb_cX6_yardTold_9 {i : Nat} {b : UInt8} (h : ([0x07, 0x02, 0xa7, 0x00, 0x19, 0x2a, 0xb4, 0x00, 0x13, 0x2a] : List UInt8)[i]? = some b) : vy_8 cX6_yardTold (90 + i) b := vy_in (n := 10) (by decide +kernel) h
theorem vyb_cX6_yardTold_10 {i : Nat} {b : UInt8} (h : ([0xb4, 0x00, 0x13, 0xb6, 0x00, 0x34, 0x04, 0x64, 0xb6, 0x00] : List UInt8)[i]? = some b) : vy_8 cX6_yardTold (100 + i) b := vy_in (n := 10) (by decide +kernel) h
theorem vyb_cX6_yardTold_11 {i : Nat} {b : UInt8} (h : ([0x30, 0xc0, 0x00, 0x38, 0xb6, 0x00, 0x3a, 0xac, 0x2a, 0xb4] : List UInt8)[i]? = some b) : vy_8 cX6_yardTold (110 + i) b := vy_in (n := 10) (by decide +kernel) h
theorem vyb_cX6_yardTold_12 {i : Nat} {b : UInt8} (h : ([0x00, 0x10, 0xb6, 0x00, 0x34, 0xac, 0x2a, 0xb4, 0x00, 0x10] : List UInt8)[i]? = some b) : vy_8 cX6_yardTold (120 + i) b := vy_in (n := 10) (by decide +kernel) h
theorem vyb_cX6_yardTold_13 {i : Nat} {b : UInt8} (h : ([0xb6, 0x00, 0x96, 0x99, 0x00, 0x07, 0x02, 0xa7, 0x00, 0x19] : List UInt8)[i]? = some b) : vy_8 cX6_yardTold (130 + i) b := vy_in (n := 10) (by decide +kernel) h
theorem vyb_cX6_yardTold_14 {i : Nat} {b : UInt8} (h : ([0x2a, 0xb4, 0x00, 0x10, 0x2a, 0xb4, 0x00, 0x10, 0xb6, 0x00] : List UInt8)[i]? = some b) : vy_8 cX6_yardTold (140 + i) b := vy_in (n := 10) (by decide +kernel) h
theorem vyb_cX6_yardTold_15 {i : Nat} {b : UInt8} (h : ([0x34, 0x04, 0x64, 0xb6, 0x00, 0x30, 0xc0, 0x00, 0x38, 0xb6] : List UInt8)[i]? = some b) : vy_8 cX6_yardTold (150 + i) b := vy_in (n := 10) (by decide +kernel) h
theorem vyb_cX6_yardTold_16 {i : Nat} {b : UInt8} (h : ([0x00, 0x3a, 0xac, 0x2a, 0xb4, 0x00, 0x3d, 0xac, 0x2a, 0xb6] : List UInt8)[i]? = some b) : vy_8 cX6_yardTold (160 + i) b := vy_in (n := 10) (by decide +kernel) h
theorem vyb_cX6_yardTold_17 {i : Nat} {b : UInt8} (h : ([0x00, 0xae, 0xb8, 0x00, 0x57, 0xac, 0x2a, 0xb4, 0x00, 0xf1] : List UInt8)[i]? = some b) : vy_8 cX6_yardTold (170 + i) b := vy_in (n := 10) (by decide +kernel) h
theorem vyb_cX6_yardTold_18 {i : Nat} {b : UInt8} (h : ([0xac] : List UInt8)[i]? = some b) : vy_8 cX6_yardTold (180 + i) b := vy_in (n := 1) (by decide +kernel) h
theorem dX6_yardTold_0 : decode cX6_yardTold 0 = Except.ok (Instr.iload_n 1, 1) := vyd_27 (vyb_cX6_yardTold_0 (i := 0) rfl)
theorem dX6_yardTold_1 : decode cX6_yardTold 1 = .ok (.tableswitch 175 0 6 #[43, 51, 80, 117, 125, 162, 167], 43) := by decide +kernel
theorem dX6_yardTold_44 : decode cX6_yardTold 44 = Except.ok (Instr.aload_n 0, 1) := vyd_42 (vyb_cX6_yardTold_4 (i := 4) rfl)
theorem dX6_yardTold_45 : decode cX6_yardTold 45 = Except.ok (Instr.getfield 19, 3) := vyd_180 (vyb_cX6_yardTold_4 (i := 5) rfl) (vyb_cX6_yardTold_4 (i := 6) rfl) (vyb_cX6_yardTold_4 (i := 7) rfl) rfl
theorem dX6_yardTold_48 : decode cX6_yardTold 48 = Except.ok (Instr.invokevirtual 52, 3) := vyd_182 (vyb_cX6_yardTold_4 (i := 8) rfl) (vyb_cX6_yardTold_4 (i := 9) rfl) (vyb_cX6_yardTold_5 (i := 0) rfl) rfl
theorem dX6_yardTold_51 : decode cX6_yardTold 51 = Except.ok (Instr.ireturn, 1) := vyd_172 (vyb_cX6_yardTold_5 (i := 1) rfl)
theorem dX6_yardTold_52 : decode cX6_yardTold 52 = Except.ok (Instr.aload_n 0, 1) := vyd_42 (vyb_cX6_yardTold_5 (i := 2) rfl)
theorem dX6_yardTold_53 : decode cX6_yardTold 53 = Except.ok (Instr.getfield 19, 3) := vyd_180 (vyb_cX6_yardTold_5 (i := 3) rfl) (vyb_cX6_yardTold_5 (i := 4) rfl) (vyb_cX6_yardTold_5 (i := 5) rfl) rfl
theorem dX6_yardTold_56 : decode cX6_yardTold 56 = Except.ok (Instr.invokevirtual 150, 3) := vyd_182 (vyb_cX6_yardTold_5 (i := 6) rfl) (vyb_cX6_yardTold_5 (i := 7) rfl) (vyb_cX6_yardTold_5 (i := 8) rfl) rfl
theorem dX6_yardTold_59 : decode cX6_yardTold 59 = Except.ok (Instr.ifCond .eq 7, 3) := vyd_153 (vyb_cX6_yardTold_5 (i := 9) rfl) (vyb_cX6_yardTold_6 (i := 0) rfl) (vyb_cX6_yardTold_6 (i := 1) rfl) (by decide +kernel)
theorem dX6_yardTold_62 : decode cX6_yardTold 62 = Except.ok (Instr.iconst (-1), 1) := vyd_2 (vyb_cX6_yardTold_6 (i := 2) rfl)
theorem dX6_yardTold_63 : decode cX6_yardTold 63 = Except.ok (Instr.goto 17, 3) := vyd_167 (vyb_cX6_yardTold_6 (i := 3) rfl) (vyb_cX6_yardTold_6 (i := 4) rfl) (vyb_cX6_yardTold_6 (i := 5) rfl) (by decide +kernel)
theorem dX6_yardTold_66 : decode cX6_yardTold 66 = Except.ok (Instr.aload_n 0, 1) := vyd_42 (vyb_cX6_yardTold_6 (i := 6) rfl)
theorem dX6_yardTold_67 : decode cX6_yardTold 67 = Except.ok (Instr.getfield 19, 3) := vyd_180 (vyb_cX6_yardTold_6 (i := 7) rfl) (vyb_cX6_yardTold_6 (i := 8) rfl) (vyb_cX6_yardTold_6 (i := 9) rfl) rfl
theorem dX6_yardTold_70 : decode cX6_yardTold 70 = Except.ok (Instr.iconst 0, 1) := vyd_3 (vyb_cX6_yardTold_7 (i := 0) rfl)
theorem dX6_yardTold_71 : decode cX6_yardTold 71 = Except.ok (Instr.invokevirtual 48, 3) := vyd_182 (vyb_cX6_yardTold_7 (i := 1) rfl) (vyb_cX6_yardTold_7 (i := 2) rfl) (vyb_cX6_yardTold_7 (i := 3) rfl) rfl
theorem dX6_yardTold_74 : decode cX6_yardTold 74 = Except.ok (Instr.checkcast 56, 3) := vyd_192 (vyb_cX6_yardTold_7 (i := 4) rfl) (vyb_cX6_yardTold_7 (i := 5) rfl) (vyb_cX6_yardTold_7 (i := 6) rfl) rfl
theorem dX6_yardTold_77 : decode cX6_yardTold 77 = Except.ok (Instr.invokevirtual 58, 3) := vyd_182 (vyb_cX6_yardTold_7 (i := 7) rfl) (vyb_cX6_yardTold_7 (i := 8) rfl) (vyb_cX6_yardTold_7 (i := 9) rfl) rfl
theorem dX6_yardTold_80 : decode cX6_yardTold 80 = Except.ok (Instr.ireturn, 1) := vyd_172 (vyb_cX6_yardTold_8 (i := 0) rfl)
theorem dX6_yardTold_81 : decode cX6_yardTold 81 = Except.ok (Instr.aload_n 0, 1) := vyd_42 (vyb_cX6_yardTold_8 (i := 1) rfl)
theorem dX6_yardTold_82 : decode cX6_yardTold 82 = Except.ok (Instr.getfield 19, 3) := vyd_180 (vyb_cX6_yardTold_8 (i := 2) rfl) (vyb_cX6_yardTold_8 (i := 3) rfl) (vyb_cX6_yardTold_8 (i := 4) rfl) rfl
theorem dX6_yardTold_85 : decode cX6_yardTold 85 = Except.ok (Instr.invokevirtual 150, 3) := vyd_182 (vyb_cX6_yardTold_8 (i := 5) rfl) (vyb_cX6_yardTold_8 (i := 6) rfl) (vyb_cX6_yardTold_8 (i := 7) rfl) rfl
theorem dX6_yardTold_88 : decode cX6_yardTold 88 = Except.ok (Instr.ifCond .eq 7, 3) := vyd_153 (vyb_cX6_yardTold_8 (i := 8) rfl) (vyb_cX6_yardTold_8 (i := 9) rfl) (vyb_cX6_yardTold_9 (i := 0) rfl) (by decide +kernel)
theorem dX6_yardTold_91 : decode cX6_yardTold 91 = Except.ok (Instr.iconst (-1), 1) := vyd_2 (vyb_cX6_yardTold_9 (i := 1) rfl)
theorem dX6_yardTold_92 : decode cX6_yardTold 92 = Except.ok (Instr.goto 25, 3) := vyd_167 (vyb_cX6_yardTold_9 (i := 2) rfl) (vyb_cX6_yardTold_9 (i := 3) rfl) (vyb_cX6_yardTold_9 (i := 4) rfl) (by decide +kernel)
theorem dX6_yardTold_95 : decode cX6_yardTold 95 = Except.ok (Instr.aload_n 0, 1) := vyd_42 (vyb_cX6_yardTold_9 (i := 5) rfl)
theorem dX6_yardTold_96 : decode cX6_yardTold 96 = Except.ok (Instr.getfield 19, 3) := vyd_180 (vyb_cX6_yardTold_9 (i := 6) rfl) (vyb_cX6_yardTold_9 (i := 7) rfl) (vyb_cX6_yardTold_9 (i := 8) rfl) rfl
theorem dX6_yardTold_99 : decode cX6_yardTold 99 = Except.ok (Instr.aload_n 0, 1) := vyd_42 (vyb_cX6_yardTold_9 (i := 9) rfl)
theorem dX6_yardTold_100 : decode cX6_yardTold 100 = Except.ok (Instr.getfield 19, 3) := vyd_180 (vyb_cX6_yardTold_10 (i := 0) rfl) (vyb_cX6_yardTold_10 (i := 1) rfl) (vyb_cX6_yardTold_10 (i := 2) rfl) rfl
theorem dX6_yardTold_103 : decode cX6_yardTold 103 = Except.ok (Instr.invokevirtual 52, 3) := vyd_182 (vyb_cX6_yardTold_10 (i := 3) rfl) (vyb_cX6_yardTold_10 (i := 4) rfl) (vyb_cX6_yardTold_10 (i := 5) rfl) rfl
theorem dX6_yardTold_106 : decode cX6_yardTold 106 = Except.ok (Instr.iconst 1, 1) := vyd_4 (vyb_cX6_yardTold_10 (i := 6) rfl)
theorem dX6_yardTold_107 : decode cX6_yardTold 107 = Except.ok (Instr.isub, 1) := vyd_100 (vyb_cX6_yardTold_10 (i := 7) rfl)
theorem dX6_yardTold_108 : decode cX6_yardTold 108 = Except.ok (Instr.invokevirtual 48, 3) := vyd_182 (vyb_cX6_yardTold_10 (i := 8) rfl) (vyb_cX6_yardTold_10 (i := 9) rfl) (vyb_cX6_yardTold_11 (i := 0) rfl) rfl
theorem dX6_yardTold_111 : decode cX6_yardTold 111 = Except.ok (Instr.checkcast 56, 3) := vyd_192 (vyb_cX6_yardTold_11 (i := 1) rfl) (vyb_cX6_yardTold_11 (i := 2) rfl) (vyb_cX6_yardTold_11 (i := 3) rfl) rfl
theorem dX6_yardTold_114 : decode cX6_yardTold 114 = Except.ok (Instr.invokevirtual 58, 3) := vyd_182 (vyb_cX6_yardTold_11 (i := 4) rfl) (vyb_cX6_yardTold_11 (i := 5) rfl) (vyb_cX6_yardTold_11 (i := 6) rfl) rfl
theorem dX6_yardTold_117 : decode cX6_yardTold 117 = Except.ok (Instr.ireturn, 1) := vyd_172 (vyb_cX6_yardTold_11 (i := 7) rfl)
theorem dX6_yardTold_118 : decode cX6_yardTold 118 = Except.ok (Instr.aload_n 0, 1) := vyd_42 (vyb_cX6_yardTold_11 (i := 8) rfl)
theorem dX6_yardTold_119 : decode cX6_yardTold 119 = Except.ok (Instr.getfield 16, 3) := vyd_180 (vyb_cX6_yardTold_11 (i := 9) rfl) (vyb_cX6_yardTold_12 (i := 0) rfl) (vyb_cX6_yardTold_12 (i := 1) rfl) rfl
theorem dX6_yardTold_122 : decode cX6_yardTold 122 = Except.ok (Instr.invokevirtual 52, 3) := vyd_182 (vyb_cX6_yardTold_12 (i := 2) rfl) (vyb_cX6_yardTold_12 (i := 3) rfl) (vyb_cX6_yardTold_12 (i := 4) rfl) rfl
theorem dX6_yardTold_125 : decode cX6_yardTold 125 = Except.ok (Instr.ireturn, 1) := vyd_172 (vyb_cX6_yardTold_12 (i := 5) rfl)
theorem dX6_yardTold_126 : decode cX6_yardTold 126 = Except.ok (Instr.aload_n 0, 1) := vyd_42 (vyb_cX6_yardTold_12 (i := 6) rfl)
theorem dX6_yardTold_127 : decode cX6_yardTold 127 = Except.ok (Instr.getfield 16, 3) := vyd_180 (vyb_cX6_yardTold_12 (i := 7) rfl) (vyb_cX6_yardTold_12 (i := 8) rfl) (vyb_cX6_yardTold_12 (i := 9) rfl) rfl
theorem dX6_yardTold_130 : decode cX6_yardTold 130 = Except.ok (Instr.invokevirtual 150, 3) := vyd_182 (vyb_cX6_yardTold_13 (i := 0) rfl) (vyb_cX6_yardTold_13 (i := 1) rfl) (vyb_cX6_yardTold_13 (i := 2) rfl) rfl
theorem dX6_yardTold_133 : decode cX6_yardTold 133 = Except.ok (Instr.ifCond .eq 7, 3) := vyd_153 (vyb_cX6_yardTold_13 (i := 3) rfl) (vyb_cX6_yardTold_13 (i := 4) rfl) (vyb_cX6_yardTold_13 (i := 5) rfl) (by decide +kernel)
theorem dX6_yardTold_136 : decode cX6_yardTold 136 = Except.ok (Instr.iconst (-1), 1) := vyd_2 (vyb_cX6_yardTold_13 (i := 6) rfl)
theorem dX6_yardTold_137 : decode cX6_yardTold 137 = Except.ok (Instr.goto 25, 3) := vyd_167 (vyb_cX6_yardTold_13 (i := 7) rfl) (vyb_cX6_yardTold_13 (i := 8) rfl) (vyb_cX6_yardTold_13 (i := 9) rfl) (by decide +kernel)
theorem dX6_yardTold_140 : decode cX6_yardTold 140 = Except.ok (Instr.aload_n 0, 1) := vyd_42 (vyb_cX6_yardTold_14 (i := 0) rfl)
theorem dX6_yardTold_141 : decode cX6_yardTold 141 = Except.ok (Instr.getfield 16, 3) := vyd_180 (vyb_cX6_yardTold_14 (i := 1) rfl) (vyb_cX6_yardTold_14 (i := 2) rfl) (vyb_cX6_yardTold_14 (i := 3) rfl) rfl
theorem dX6_yardTold_144 : decode cX6_yardTold 144 = Except.ok (Instr.aload_n 0, 1) := vyd_42 (vyb_cX6_yardTold_14 (i := 4) rfl)
theorem dX6_yardTold_145 : decode cX6_yardTold 145 = Except.ok (Instr.getfield 16, 3) := vyd_180 (vyb_cX6_yardTold_14 (i := 5) rfl) (vyb_cX6_yardTold_14 (i := 6) rfl) (vyb_cX6_yardTold_14 (i := 7) rfl) rfl
theorem dX6_yardTold_148 : decode cX6_yardTold 148 = Except.ok (Instr.invokevirtual 52, 3) := vyd_182 (vyb_cX6_yardTold_14 (i := 8) rfl) (vyb_cX6_yardTold_14 (i := 9) rfl) (vyb_cX6_yardTold_15 (i := 0) rfl) rfl
theorem dX6_yardTold_151 : decode cX6_yardTold 151 = Except.ok (Instr.iconst 1, 1) := vyd_4 (vyb_cX6_yardTold_15 (i := 1) rfl)
theorem dX6_yardTold_152 : decode cX6_yardTold 152 = Except.ok (Instr.isub, 1) := vyd_100 (vyb_cX6_yardTold_15 (i := 2) rfl)
theorem dX6_yardTold_153 : decode cX6_yardTold 153 = Except.ok (Instr.invokevirtual 48, 3) := vyd_182 (vyb_cX6_yardTold_15 (i := 3) rfl) (vyb_cX6_yardTold_15 (i := 4) rfl) (vyb_cX6_yardTold_15 (i := 5) rfl) rfl
theorem dX6_yardTold_156 : decode cX6_yardTold 156 = Except.ok (Instr.checkcast 56, 3) := vyd_192 (vyb_cX6_yardTold_15 (i := 6) rfl) (vyb_cX6_yardTold_15 (i := 7) rfl) (vyb_cX6_yardTold_15 (i := 8) rfl) rfl
theorem dX6_yardTold_159 : decode cX6_yardTold 159 = Except.ok (Instr.invokevirtual 58, 3) := vyd_182 (vyb_cX6_yardTold_15 (i := 9) rfl) (vyb_cX6_yardTold_16 (i := 0) rfl) (vyb_cX6_yardTold_16 (i := 1) rfl) rfl
theorem dX6_yardTold_162 : decode cX6_yardTold 162 = Except.ok (Instr.ireturn, 1) := vyd_172 (vyb_cX6_yardTold_16 (i := 2) rfl)
theorem dX6_yardTold_163 : decode cX6_yardTold 163 = Except.ok (Instr.aload_n 0, 1) := vyd_42 (vyb_cX6_yardTold_16 (i := 3) rfl)
theorem dX6_yardTold_164 : decode cX6_yardTold 164 = Except.ok (Instr.getfield 61, 3) := vyd_180 (vyb_cX6_yardTold_16 (i := 4) rfl) (vyb_cX6_yardTold_16 (i := 5) rfl) (vyb_cX6_yardTold_16 (i := 6) rfl) rfl
theorem dX6_yardTold_167 : decode cX6_yardTold 167 = Except.ok (Instr.ireturn, 1) := vyd_172 (vyb_cX6_yardTold_16 (i := 7) rfl)
theorem dX6_yardTold_168 : decode cX6_yardTold 168 = Except.ok (Instr.aload_n 0, 1) := vyd_42 (vyb_cX6_yardTold_16 (i := 8) rfl)
theorem dX6_yardTold_169 : decode cX6_yardTold 169 = Except.ok (Instr.invokevirtual 174, 3) := vyd_182 (vyb_cX6_yardTold_16 (i := 9) rfl) (vyb_cX6_yardTold_17 (i := 0) rfl) (vyb_cX6_yardTold_17 (i := 1) rfl) rfl
theorem dX6_yardTold_172 : decode cX6_yardTold 172 = Except.ok (Instr.invokestatic 87, 3) := vyd_184 (vyb_cX6_yardTold_17 (i := 2) rfl) (vyb_cX6_yardTold_17 (i := 3) rfl) (vyb_cX6_yardTold_17 (i := 4) rfl) rfl
theorem dX6_yardTold_175 : decode cX6_yardTold 175 = Except.ok (Instr.ireturn, 1) := vyd_172 (vyb_cX6_yardTold_17 (i := 5) rfl)
theorem dX6_yardTold_176 : decode cX6_yardTold 176 = Except.ok (Instr.aload_n 0, 1) := vyd_42 (vyb_cX6_yardTold_17 (i := 6) rfl)
theorem dX6_yardTold_177 : decode cX6_yardTold 177 = Except.ok (Instr.getfield 241, 3) := vyd_180 (vyb_cX6_yardTold_17 (i := 7) rfl) (vyb_cX6_yardTold_17 (i := 8) rfl) (vyb_cX6_yardTold_17 (i := 9) rfl) rfl
theorem dX6_yardTold_180 : decode cX6_yardTold 180 = Except.ok (Instr.ireturn, 1) := vyd_172 (vyb_cX6_yardTold_18 (i := 0) rfl)
theorem vyb_cX6_yard_0 {i : Nat} {b : UInt8} (h : ([0x2a, 0x1b, 0x03, 0x10, 0x07, 0xb8, 0x00, 0x2c, 0x9a, 0x00] : List UInt8)[i]? = some b) : vy_8 cX6_yard (0 + i) b := vy_in (n := 10) (by decide +kernel) h
theorem vyb_cX6_yard_1 {i : Nat} {b : UInt8} (h : ([0x07, 0x04, 0xa7, 0x00, 0x04, 0x03, 0x04, 0xb6, 0x00, 0x6e] : List UInt8)[i]? = some b) : vy_8 cX6_yard (10 + i) b := vy_in (n := 10) (by decide +kernel) h
theorem vyb_cX6_yard_2 {i : Nat} {b : UInt8} (h : ([0x99, 0x00, 0x07, 0x03, 0xa7, 0x00, 0x08, 0x2a, 0x1b, 0xb6] : List UInt8)[i]? = some b) : vy_8 cX6_yard (20 + i) b := vy_in (n := 10) (by decide +kernel) h
theorem vyb_cX6_yard_3 {i : Nat} {b : UInt8} (h : ([0x00, 0xf4, 0xac] : List UInt8)[i]? = some b) : vy_8 cX6_yard (30 + i) b := vy_in (n := 3) (by decide +kernel) h
theorem dX6_yard_0 : decode cX6_yard 0 = Except.ok (Instr.aload_n 0, 1) := vyd_42 (vyb_cX6_yard_0 (i := 0) rfl)
theorem dX6_yard_1 : decode cX6_yard 1 = Except.ok (Instr.iload_n 1, 1) := vyd_27 (vyb_cX6_yard_0 (i := 1) rfl)
theorem dX6_yard_2 : decode cX6_yard 2 = Except.ok (Instr.iconst 0, 1) := vyd_3 (vyb_cX6_yard_0 (i := 2) rfl)
theorem dX6_yard_3 : decode cX6_yard 3 = Except.ok (Instr.bipush 7, 2) := vyd_16 (vyb_cX6_yard_0 (i := 3) rfl) (vyb_cX6_yard_0 (i := 4) rfl) (by decide +kernel)
theorem dX6_yard_5 : decode cX6_yard 5 = Except.ok (Instr.invokestatic 44, 3) := vyd_184 (vyb_cX6_yard_0 (i := 5) rfl) (vyb_cX6_yard_0 (i := 6) rfl) (vyb_cX6_yard_0 (i := 7) rfl) rfl
theorem dX6_yard_8 : decode cX6_yard 8 = Except.ok (Instr.ifCond .ne 7, 3) := vyd_154 (vyb_cX6_yard_0 (i := 8) rfl) (vyb_cX6_yard_0 (i := 9) rfl) (vyb_cX6_yard_1 (i := 0) rfl) (by decide +kernel)
theorem dX6_yard_11 : decode cX6_yard 11 = Except.ok (Instr.iconst 1, 1) := vyd_4 (vyb_cX6_yard_1 (i := 1) rfl)
theorem dX6_yard_12 : decode cX6_yard 12 = Except.ok (Instr.goto 4, 3) := vyd_167 (vyb_cX6_yard_1 (i := 2) rfl) (vyb_cX6_yard_1 (i := 3) rfl) (vyb_cX6_yard_1 (i := 4) rfl) (by decide +kernel)
theorem dX6_yard_15 : decode cX6_yard 15 = Except.ok (Instr.iconst 0, 1) := vyd_3 (vyb_cX6_yard_1 (i := 5) rfl)
theorem dX6_yard_16 : decode cX6_yard 16 = Except.ok (Instr.iconst 1, 1) := vyd_4 (vyb_cX6_yard_1 (i := 6) rfl)
theorem dX6_yard_17 : decode cX6_yard 17 = Except.ok (Instr.invokevirtual 110, 3) := vyd_182 (vyb_cX6_yard_1 (i := 7) rfl) (vyb_cX6_yard_1 (i := 8) rfl) (vyb_cX6_yard_1 (i := 9) rfl) rfl
theorem dX6_yard_20 : decode cX6_yard 20 = Except.ok (Instr.ifCond .eq 7, 3) := vyd_153 (vyb_cX6_yard_2 (i := 0) rfl) (vyb_cX6_yard_2 (i := 1) rfl) (vyb_cX6_yard_2 (i := 2) rfl) (by decide +kernel)
theorem dX6_yard_23 : decode cX6_yard 23 = Except.ok (Instr.iconst 0, 1) := vyd_3 (vyb_cX6_yard_2 (i := 3) rfl)
theorem dX6_yard_24 : decode cX6_yard 24 = Except.ok (Instr.goto 8, 3) := vyd_167 (vyb_cX6_yard_2 (i := 4) rfl) (vyb_cX6_yard_2 (i := 5) rfl) (vyb_cX6_yard_2 (i := 6) rfl) (by decide +kernel)
theorem dX6_yard_27 : decode cX6_yard 27 = Except.ok (Instr.aload_n 0, 1) := vyd_42 (vyb_cX6_yard_2 (i := 7) rfl)
theorem dX6_yard_28 : decode cX6_yard 28 = Except.ok (Instr.iload_n 1, 1) := vyd_27 (vyb_cX6_yard_2 (i := 8) rfl)
theorem dX6_yard_29 : decode cX6_yard 29 = Except.ok (Instr.invokevirtual 244, 3) := vyd_182 (vyb_cX6_yard_2 (i := 9) rfl) (vyb_cX6_yard_3 (i := 0) rfl) (vyb_cX6_yard_3 (i := 1) rfl) rfl
theorem dX6_yard_32 : decode cX6_yard 32 = Except.ok (Instr.ireturn, 1) := vyd_172 (vyb_cX6_yard_3 (i := 2) rfl)
theorem vyb_cX6_knock_0 {i : Nat} {b : UInt8} (h : ([0x2a, 0x03, 0xb5, 0x00, 0x25, 0x2a, 0x59, 0xb4, 0x00, 0xf1] : List UInt8)[i]? = some b) : vy_8 cX6_knock (0 + i) b := vy_in (n := 10) (by decide +kernel) h
theorem vyb_cX6_knock_1 {i : Nat} {b : UInt8} (h : ([0x04, 0x60, 0xb5, 0x00, 0xf1, 0x2a, 0xb4, 0x00, 0xf1, 0xac] : List UInt8)[i]? = some b) : vy_8 cX6_knock (10 + i) b := vy_in (n := 10) (by decide +kernel) h
theorem dX6_knock_0 : decode cX6_knock 0 = Except.ok (Instr.aload_n 0, 1) := vyd_42 (vyb_cX6_knock_0 (i := 0) rfl)
theorem dX6_knock_1 : decode cX6_knock 1 = Except.ok (Instr.iconst 0, 1) := vyd_3 (vyb_cX6_knock_0 (i := 1) rfl)
theorem dX6_knock_2 : decode cX6_knock 2 = Except.ok (Instr.putfield 37, 3) := vyd_181 (vyb_cX6_knock_0 (i := 2) rfl) (vyb_cX6_knock_0 (i := 3) rfl) (vyb_cX6_knock_0 (i := 4) rfl) rfl
theorem dX6_knock_5 : decode cX6_knock 5 = Except.ok (Instr.aload_n 0, 1) := vyd_42 (vyb_cX6_knock_0 (i := 5) rfl)
theorem dX6_knock_6 : decode cX6_knock 6 = Except.ok (Instr.dup, 1) := vyd_89 (vyb_cX6_knock_0 (i := 6) rfl)
theorem dX6_knock_7 : decode cX6_knock 7 = Except.ok (Instr.getfield 241, 3) := vyd_180 (vyb_cX6_knock_0 (i := 7) rfl) (vyb_cX6_knock_0 (i := 8) rfl) (vyb_cX6_knock_0 (i := 9) rfl) rfl
theorem dX6_knock_10 : decode cX6_knock 10 = Except.ok (Instr.iconst 1, 1) := vyd_4 (vyb_cX6_knock_1 (i := 0) rfl)
theorem dX6_knock_11 : decode cX6_knock 11 = Except.ok (Instr.iadd, 1) := vyd_96 (vyb_cX6_knock_1 (i := 1) rfl)
theorem dX6_knock_12 : decode cX6_knock 12 = Except.ok (Instr.putfield 241, 3) := vyd_181 (vyb_cX6_knock_1 (i := 2) rfl) (vyb_cX6_knock_1 (i := 3) rfl) (vyb_cX6_knock_1 (i := 4) rfl) rfl
theorem dX6_knock_15 : decode cX6_knock 15 = Except.ok (Instr.aload_n 0, 1) := vyd_42 (vyb_cX6_knock_1 (i := 5) rfl)
theorem dX6_knock_16 : decode cX6_knock 16 = Except.ok (Instr.getfield 241, 3) := vyd_180 (vyb_cX6_knock_1 (i := 6) rfl) (vyb_cX6_knock_1 (i := 7) rfl) (vyb_cX6_knock_1 (i := 8) rfl) rfl
theorem dX6_knock_19 : decode cX6_knock 19 = Except.ok (Instr.ireturn, 1) := vyd_172 (vyb_cX6_knock_1 (i := 9) rfl)
theorem vyb_cX6_areSlips_0 {i : Nat} {b : UInt8} (h : ([0xbb, 0x00, 0x07, 0x59, 0xb7, 0x00, 0x09, 0x4c, 0x03, 0x3d] : List UInt8)[i]? = some b) : vy_8 cX6_areSlips (0 + i) b := vy_in (n := 10) (by decide +kernel) h
theorem vyb_cX6_areSlips_1 {i : Nat} {b : UInt8} (h : ([0x1c, 0x05, 0xa2, 0x00, 0x4f, 0x2b, 0xbb, 0x00, 0x07, 0x59] : List UInt8)[i]? = some b) : vy_8 cX6_areSlips (10 + i) b := vy_in (n := 10) (by decide +kernel) h
theorem vyb_cX6_areSlips_2 {i : Nat} {b : UInt8} (h : ([0xb7, 0x00, 0x09, 0xb6, 0x00, 0x21, 0x57, 0x2a, 0xb4, 0x00] : List UInt8)[i]? = some b) : vy_8 cX6_areSlips (20 + i) b := vy_in (n := 10) (by decide +kernel) h
theorem vyb_cX6_areSlips_3 {i : Nat} {b : UInt8} (h : ([0x0a, 0x1c, 0xb6, 0x00, 0x30, 0xc0, 0x00, 0x07, 0xb6, 0x00] : List UInt8)[i]? = some b) : vy_8 cX6_areSlips (30 + i) b := vy_in (n := 10) (by decide +kernel) h
theorem vyb_cX6_areSlips_4 {i : Nat} {b : UInt8} (h : ([0xf7, 0x4e, 0x2d, 0xb9, 0x00, 0xfb, 0x01, 0x00, 0x99, 0x00] : List UInt8)[i]? = some b) : vy_8 cX6_areSlips (40 + i) b := vy_in (n := 10) (by decide +kernel) h
theorem vyb_cX6_areSlips_5 {i : Nat} {b : UInt8} (h : ([0x25, 0x2d, 0xb9, 0x00, 0xfe, 0x01, 0x00, 0xc0, 0x00, 0x38] : List UInt8)[i]? = some b) : vy_8 cX6_areSlips (50 + i) b := vy_in (n := 10) (by decide +kernel) h
theorem vyb_cX6_areSlips_6 {i : Nat} {b : UInt8} (h : ([0xb6, 0x00, 0x3a, 0x36, 0x04, 0x2b, 0x1c, 0xb6, 0x00, 0x30] : List UInt8)[i]? = some b) : vy_8 cX6_areSlips (60 + i) b := vy_in (n := 10) (by decide +kernel) h
theorem vyb_cX6_areSlips_7 {i : Nat} {b : UInt8} (h : ([0xc0, 0x00, 0x07, 0x15, 0x04, 0xb8, 0x00, 0x46, 0xb6, 0x00] : List UInt8)[i]? = some b) : vy_8 cX6_areSlips (70 + i) b := vy_in (n := 10) (by decide +kernel) h
theorem vyb_cX6_areSlips_8 {i : Nat} {b : UInt8} (h : ([0x21, 0x57, 0xa7, 0xff, 0xd8, 0x84, 0x02, 0x01, 0xa7, 0xff] : List UInt8)[i]? = some b) : vy_8 cX6_areSlips (80 + i) b := vy_in (n := 10) (by decide +kernel) h
theorem vyb_cX6_areSlips_9 {i : Nat} {b : UInt8} (h : ([0xb2, 0x2a, 0xb4, 0x00, 0x10, 0xb6, 0x00, 0x34, 0x04, 0x64] : List UInt8)[i]? = some b) : vy_8 cX6_areSlips (90 + i) b := vy_in (n := 10) (by decide +kernel) h
theorem vyb_cX6_areSlips_10 {i : Nat} {b : UInt8} (h : ([0x3d, 0x1c, 0x9b, 0x00, 0x99, 0x2a, 0xb4, 0x00, 0x10, 0x1c] : List UInt8)[i]? = some b) : vy_8 cX6_areSlips (100 + i) b := vy_in (n := 10) (by decide +kernel) h
theorem vyb_cX6_areSlips_11 {i : Nat} {b : UInt8} (h : ([0xb6, 0x00, 0x30, 0xc0, 0x00, 0x38, 0xb6, 0x00, 0x3a, 0x3e] : List UInt8)[i]? = some b) : vy_8 cX6_areSlips (110 + i) b := vy_in (n := 10) (by decide +kernel) h
theorem vyb_cX6_areSlips_12 {i : Nat} {b : UInt8} (h : ([0x2b, 0x1d, 0x11, 0x0f, 0xa0, 0x6c, 0xb6, 0x00, 0x30, 0xc0] : List UInt8)[i]? = some b) : vy_8 cX6_areSlips (120 + i) b := vy_in (n := 10) (by decide +kernel) h
theorem vyb_cX6_areSlips_13 {i : Nat} {b : UInt8} (h : ([0x00, 0x07, 0x3a, 0x04, 0x1d, 0x11, 0x07, 0xd0, 0x6c, 0x05] : List UInt8)[i]? = some b) : vy_8 cX6_areSlips (130 + i) b := vy_in (n := 10) (by decide +kernel) h
theorem vyb_cX6_areSlips_14 {i : Nat} {b : UInt8} (h : ([0x70, 0x04, 0xa0, 0x00, 0x07, 0x04, 0xa7, 0x00, 0x04, 0x03] : List UInt8)[i]? = some b) : vy_8 cX6_areSlips (140 + i) b := vy_in (n := 10) (by decide +kernel) h
theorem vyb_cX6_areSlips_15 {i : Nat} {b : UInt8} (h : ([0x36, 0x05, 0x1d, 0x11, 0x03, 0xe8, 0x6c, 0x05, 0x70, 0x9a] : List UInt8)[i]? = some b) : vy_8 cX6_areSlips (150 + i) b := vy_in (n := 10) (by decide +kernel) h
theorem vyb_cX6_areSlips_16 {i : Nat} {b : UInt8} (h : ([0x00, 0x21, 0x19, 0x04, 0x15, 0x05, 0x99, 0x00, 0x0b, 0x19] : List UInt8)[i]? = some b) : vy_8 cX6_areSlips (160 + i) b := vy_in (n := 10) (by decide +kernel) h
theorem vyb_cX6_areSlips_17 {i : Nat} {b : UInt8} (h : ([0x04, 0xb6, 0x00, 0x34, 0xa7, 0x00, 0x04, 0x03, 0x1d, 0x11] : List UInt8)[i]? = some b) : vy_8 cX6_areSlips (170 + i) b := vy_in (n := 10) (by decide +kernel) h
theorem vyb_cX6_areSlips_18 {i : Nat} {b : UInt8} (h : ([0x03, 0xe8, 0x70, 0xb8, 0x00, 0x46, 0xb6, 0x00, 0x4a, 0xa7] : List UInt8)[i]? = some b) : vy_8 cX6_areSlips (180 + i) b := vy_in (n := 10) (by decide +kernel) h
theorem vyb_cX6_areSlips_19 {i : Nat} {b : UInt8} (h : ([0x00, 0x30, 0x19, 0x04, 0xb6, 0x00, 0x96, 0x9a, 0x00, 0x26] : List UInt8)[i]? = some b) : vy_8 cX6_areSlips (190 + i) b := vy_in (n := 10) (by decide +kernel) h
theorem vyb_cX6_areSlips_20 {i : Nat} {b : UInt8} (h : ([0x19, 0x04, 0x15, 0x05, 0x99, 0x00, 0x0d, 0x19, 0x04, 0xb6] : List UInt8)[i]? = some b) : vy_8 cX6_areSlips (200 + i) b := vy_in (n := 10) (by decide +kernel) h
theorem vyb_cX6_areSlips_21 {i : Nat} {b : UInt8} (h : ([0x00, 0x34, 0x04, 0x64, 0xa7, 0x00, 0x04, 0x03, 0xb6, 0x00] : List UInt8)[i]? = some b) : vy_8 cX6_areSlips (210 + i) b := vy_in (n := 10) (by decide +kernel) h
theorem vyb_cX6_areSlips_22 {i : Nat} {b : UInt8} (h : ([0x51, 0xc0, 0x00, 0x38, 0xb6, 0x00, 0x3a, 0x1d, 0x11, 0x03] : List UInt8)[i]? = some b) : vy_8 cX6_areSlips (220 + i) b := vy_in (n := 10) (by decide +kernel) h
theorem vyb_cX6_areSlips_23 {i : Nat} {b : UInt8} (h : ([0xe8, 0x70, 0x9f, 0x00, 0x05, 0x03, 0xac, 0x19, 0x04, 0xb6] : List UInt8)[i]? = some b) : vy_8 cX6_areSlips (230 + i) b := vy_in (n := 10) (by decide +kernel) h
theorem vyb_cX6_areSlips_24 {i : Nat} {b : UInt8} (h : ([0x00, 0x34, 0x10, 0x14, 0xa4, 0x00, 0x05, 0x03, 0xac, 0x84] : List UInt8)[i]? = some b) : vy_8 cX6_areSlips (240 + i) b := vy_in (n := 10) (by decide +kernel) h
theorem vyb_cX6_areSlips_25 {i : Nat} {b : UInt8} (h : ([0x02, 0xff, 0xa7, 0xff, 0x69, 0x04, 0xac] : List UInt8)[i]? = some b) : vy_8 cX6_areSlips (250 + i) b := vy_in (n := 7) (by decide +kernel) h
theorem dX6_areSlips_0 : decode cX6_areSlips 0 = Except.ok (Instr.new 7, 3) := vyd_187 (vyb_cX6_areSlips_0 (i := 0) rfl) (vyb_cX6_areSlips_0 (i := 1) rfl) (vyb_cX6_areSlips_0 (i := 2) rfl) rfl
theorem dX6_areSlips_3 : decode cX6_areSlips 3 = Except.ok (Instr.dup, 1) := vyd_89 (vyb_cX6_areSlips_0 (i := 3) rfl)
theorem dX6_areSlips_4 : decode cX6_areSlips 4 = Except.ok (Instr.invokespecial 9, 3) := vyd_183 (vyb_cX6_areSlips_0 (i := 4) rfl) (vyb_cX6_areSlips_0 (i := 5) rfl) (vyb_cX6_areSlips_0 (i := 6) rfl) rfl
theorem dX6_areSlips_7 : decode cX6_areSlips 7 = Except.ok (Instr.astore_n 1, 1) := vyd_76 (vyb_cX6_areSlips_0 (i := 7) rfl)
theorem dX6_areSlips_8 : decode cX6_areSlips 8 = Except.ok (Instr.iconst 0, 1) := vyd_3 (vyb_cX6_areSlips_0 (i := 8) rfl)
theorem dX6_areSlips_9 : decode cX6_areSlips 9 = Except.ok (Instr.istore_n 2, 1) := vyd_61 (vyb_cX6_areSlips_0 (i := 9) rfl)
theorem dX6_areSlips_10 : decode cX6_areSlips 10 = Except.ok (Instr.iload_n 2, 1) := vyd_28 (vyb_cX6_areSlips_1 (i := 0) rfl)
theorem dX6_areSlips_11 : decode cX6_areSlips 11 = Except.ok (Instr.iconst 2, 1) := vyd_5 (vyb_cX6_areSlips_1 (i := 1) rfl)
theorem dX6_areSlips_12 : decode cX6_areSlips 12 = Except.ok (Instr.if_icmp .ge 79, 3) := vyd_162 (vyb_cX6_areSlips_1 (i := 2) rfl) (vyb_cX6_areSlips_1 (i := 3) rfl) (vyb_cX6_areSlips_1 (i := 4) rfl) (by decide +kernel)
theorem dX6_areSlips_15 : decode cX6_areSlips 15 = Except.ok (Instr.aload_n 1, 1) := vyd_43 (vyb_cX6_areSlips_1 (i := 5) rfl)
theorem dX6_areSlips_16 : decode cX6_areSlips 16 = Except.ok (Instr.new 7, 3) := vyd_187 (vyb_cX6_areSlips_1 (i := 6) rfl) (vyb_cX6_areSlips_1 (i := 7) rfl) (vyb_cX6_areSlips_1 (i := 8) rfl) rfl
theorem dX6_areSlips_19 : decode cX6_areSlips 19 = Except.ok (Instr.dup, 1) := vyd_89 (vyb_cX6_areSlips_1 (i := 9) rfl)
theorem dX6_areSlips_20 : decode cX6_areSlips 20 = Except.ok (Instr.invokespecial 9, 3) := vyd_183 (vyb_cX6_areSlips_2 (i := 0) rfl) (vyb_cX6_areSlips_2 (i := 1) rfl) (vyb_cX6_areSlips_2 (i := 2) rfl) rfl
theorem dX6_areSlips_23 : decode cX6_areSlips 23 = Except.ok (Instr.invokevirtual 33, 3) := vyd_182 (vyb_cX6_areSlips_2 (i := 3) rfl) (vyb_cX6_areSlips_2 (i := 4) rfl) (vyb_cX6_areSlips_2 (i := 5) rfl) rfl
theorem dX6_areSlips_26 : decode cX6_areSlips 26 = Except.ok (Instr.pop, 1) := vyd_87 (vyb_cX6_areSlips_2 (i := 6) rfl)
theorem dX6_areSlips_27 : decode cX6_areSlips 27 = Except.ok (Instr.aload_n 0, 1) := vyd_42 (vyb_cX6_areSlips_2 (i := 7) rfl)
theorem dX6_areSlips_28 : decode cX6_areSlips 28 = Except.ok (Instr.getfield 10, 3) := vyd_180 (vyb_cX6_areSlips_2 (i := 8) rfl) (vyb_cX6_areSlips_2 (i := 9) rfl) (vyb_cX6_areSlips_3 (i := 0) rfl) rfl
theorem dX6_areSlips_31 : decode cX6_areSlips 31 = Except.ok (Instr.iload_n 2, 1) := vyd_28 (vyb_cX6_areSlips_3 (i := 1) rfl)
theorem dX6_areSlips_32 : decode cX6_areSlips 32 = Except.ok (Instr.invokevirtual 48, 3) := vyd_182 (vyb_cX6_areSlips_3 (i := 2) rfl) (vyb_cX6_areSlips_3 (i := 3) rfl) (vyb_cX6_areSlips_3 (i := 4) rfl) rfl
theorem dX6_areSlips_35 : decode cX6_areSlips 35 = Except.ok (Instr.checkcast 7, 3) := vyd_192 (vyb_cX6_areSlips_3 (i := 5) rfl) (vyb_cX6_areSlips_3 (i := 6) rfl) (vyb_cX6_areSlips_3 (i := 7) rfl) rfl
theorem dX6_areSlips_38 : decode cX6_areSlips 38 = Except.ok (Instr.invokevirtual 247, 3) := vyd_182 (vyb_cX6_areSlips_3 (i := 8) rfl) (vyb_cX6_areSlips_3 (i := 9) rfl) (vyb_cX6_areSlips_4 (i := 0) rfl) rfl
theorem dX6_areSlips_41 : decode cX6_areSlips 41 = Except.ok (Instr.astore_n 3, 1) := vyd_78 (vyb_cX6_areSlips_4 (i := 1) rfl)
theorem dX6_areSlips_42 : decode cX6_areSlips 42 = Except.ok (Instr.aload_n 3, 1) := vyd_45 (vyb_cX6_areSlips_4 (i := 2) rfl)
theorem dX6_areSlips_43 : decode cX6_areSlips 43 = .ok (.invokeinterface 251 1, 5) := by decide +kernel
theorem dX6_areSlips_48 : decode cX6_areSlips 48 = Except.ok (Instr.ifCond .eq 37, 3) := vyd_153 (vyb_cX6_areSlips_4 (i := 8) rfl) (vyb_cX6_areSlips_4 (i := 9) rfl) (vyb_cX6_areSlips_5 (i := 0) rfl) (by decide +kernel)
theorem dX6_areSlips_51 : decode cX6_areSlips 51 = Except.ok (Instr.aload_n 3, 1) := vyd_45 (vyb_cX6_areSlips_5 (i := 1) rfl)
theorem dX6_areSlips_52 : decode cX6_areSlips 52 = .ok (.invokeinterface 254 1, 5) := by decide +kernel
theorem dX6_areSlips_57 : decode cX6_areSlips 57 = Except.ok (Instr.checkcast 56, 3) := vyd_192 (vyb_cX6_areSlips_5 (i := 7) rfl) (vyb_cX6_areSlips_5 (i := 8) rfl) (vyb_cX6_areSlips_5 (i := 9) rfl) rfl
theorem dX6_areSlips_60 : decode cX6_areSlips 60 = Except.ok (Instr.invokevirtual 58, 3) := vyd_182 (vyb_cX6_areSlips_6 (i := 0) rfl) (vyb_cX6_areSlips_6 (i := 1) rfl) (vyb_cX6_areSlips_6 (i := 2) rfl) rfl
theorem dX6_areSlips_63 : decode cX6_areSlips 63 = Except.ok (Instr.istore 4, 2) := vyd_54 (vyb_cX6_areSlips_6 (i := 3) rfl) (vyb_cX6_areSlips_6 (i := 4) rfl) rfl
theorem dX6_areSlips_65 : decode cX6_areSlips 65 = Except.ok (Instr.aload_n 1, 1) := vyd_43 (vyb_cX6_areSlips_6 (i := 5) rfl)
theorem dX6_areSlips_66 : decode cX6_areSlips 66 = Except.ok (Instr.iload_n 2, 1) := vyd_28 (vyb_cX6_areSlips_6 (i := 6) rfl)
theorem dX6_areSlips_67 : decode cX6_areSlips 67 = Except.ok (Instr.invokevirtual 48, 3) := vyd_182 (vyb_cX6_areSlips_6 (i := 7) rfl) (vyb_cX6_areSlips_6 (i := 8) rfl) (vyb_cX6_areSlips_6 (i := 9) rfl) rfl
theorem dX6_areSlips_70 : decode cX6_areSlips 70 = Except.ok (Instr.checkcast 7, 3) := vyd_192 (vyb_cX6_areSlips_7 (i := 0) rfl) (vyb_cX6_areSlips_7 (i := 1) rfl) (vyb_cX6_areSlips_7 (i := 2) rfl) rfl
theorem dX6_areSlips_73 : decode cX6_areSlips 73 = Except.ok (Instr.iload 4, 2) := vyd_21 (vyb_cX6_areSlips_7 (i := 3) rfl) (vyb_cX6_areSlips_7 (i := 4) rfl) rfl
theorem dX6_areSlips_75 : decode cX6_areSlips 75 = Except.ok (Instr.invokestatic 70, 3) := vyd_184 (vyb_cX6_areSlips_7 (i := 5) rfl) (vyb_cX6_areSlips_7 (i := 6) rfl) (vyb_cX6_areSlips_7 (i := 7) rfl) rfl
theorem dX6_areSlips_78 : decode cX6_areSlips 78 = Except.ok (Instr.invokevirtual 33, 3) := vyd_182 (vyb_cX6_areSlips_7 (i := 8) rfl) (vyb_cX6_areSlips_7 (i := 9) rfl) (vyb_cX6_areSlips_8 (i := 0) rfl) rfl
theorem dX6_areSlips_81 : decode cX6_areSlips 81 = Except.ok (Instr.pop, 1) := vyd_87 (vyb_cX6_areSlips_8 (i := 1) rfl)
theorem dX6_areSlips_82 : decode cX6_areSlips 82 = Except.ok (Instr.goto (-40), 3) := vyd_167 (vyb_cX6_areSlips_8 (i := 2) rfl) (vyb_cX6_areSlips_8 (i := 3) rfl) (vyb_cX6_areSlips_8 (i := 4) rfl) (by decide +kernel)
theorem dX6_areSlips_85 : decode cX6_areSlips 85 = .ok (.iinc 2 1, 3) := by decide +kernel
theorem dX6_areSlips_88 : decode cX6_areSlips 88 = Except.ok (Instr.goto (-78), 3) := vyd_167 (vyb_cX6_areSlips_8 (i := 8) rfl) (vyb_cX6_areSlips_8 (i := 9) rfl) (vyb_cX6_areSlips_9 (i := 0) rfl) (by decide +kernel)
theorem dX6_areSlips_91 : decode cX6_areSlips 91 = Except.ok (Instr.aload_n 0, 1) := vyd_42 (vyb_cX6_areSlips_9 (i := 1) rfl)
theorem dX6_areSlips_92 : decode cX6_areSlips 92 = Except.ok (Instr.getfield 16, 3) := vyd_180 (vyb_cX6_areSlips_9 (i := 2) rfl) (vyb_cX6_areSlips_9 (i := 3) rfl) (vyb_cX6_areSlips_9 (i := 4) rfl) rfl
theorem dX6_areSlips_95 : decode cX6_areSlips 95 = Except.ok (Instr.invokevirtual 52, 3) := vyd_182 (vyb_cX6_areSlips_9 (i := 5) rfl) (vyb_cX6_areSlips_9 (i := 6) rfl) (vyb_cX6_areSlips_9 (i := 7) rfl) rfl
theorem dX6_areSlips_98 : decode cX6_areSlips 98 = Except.ok (Instr.iconst 1, 1) := vyd_4 (vyb_cX6_areSlips_9 (i := 8) rfl)
theorem dX6_areSlips_99 : decode cX6_areSlips 99 = Except.ok (Instr.isub, 1) := vyd_100 (vyb_cX6_areSlips_9 (i := 9) rfl)
theorem dX6_areSlips_100 : decode cX6_areSlips 100 = Except.ok (Instr.istore_n 2, 1) := vyd_61 (vyb_cX6_areSlips_10 (i := 0) rfl)
theorem dX6_areSlips_101 : decode cX6_areSlips 101 = Except.ok (Instr.iload_n 2, 1) := vyd_28 (vyb_cX6_areSlips_10 (i := 1) rfl)
theorem dX6_areSlips_102 : decode cX6_areSlips 102 = Except.ok (Instr.ifCond .lt 153, 3) := vyd_155 (vyb_cX6_areSlips_10 (i := 2) rfl) (vyb_cX6_areSlips_10 (i := 3) rfl) (vyb_cX6_areSlips_10 (i := 4) rfl) (by decide +kernel)
theorem dX6_areSlips_105 : decode cX6_areSlips 105 = Except.ok (Instr.aload_n 0, 1) := vyd_42 (vyb_cX6_areSlips_10 (i := 5) rfl)
theorem dX6_areSlips_106 : decode cX6_areSlips 106 = Except.ok (Instr.getfield 16, 3) := vyd_180 (vyb_cX6_areSlips_10 (i := 6) rfl) (vyb_cX6_areSlips_10 (i := 7) rfl) (vyb_cX6_areSlips_10 (i := 8) rfl) rfl
theorem dX6_areSlips_109 : decode cX6_areSlips 109 = Except.ok (Instr.iload_n 2, 1) := vyd_28 (vyb_cX6_areSlips_10 (i := 9) rfl)
theorem dX6_areSlips_110 : decode cX6_areSlips 110 = Except.ok (Instr.invokevirtual 48, 3) := vyd_182 (vyb_cX6_areSlips_11 (i := 0) rfl) (vyb_cX6_areSlips_11 (i := 1) rfl) (vyb_cX6_areSlips_11 (i := 2) rfl) rfl
theorem dX6_areSlips_113 : decode cX6_areSlips 113 = Except.ok (Instr.checkcast 56, 3) := vyd_192 (vyb_cX6_areSlips_11 (i := 3) rfl) (vyb_cX6_areSlips_11 (i := 4) rfl) (vyb_cX6_areSlips_11 (i := 5) rfl) rfl
theorem dX6_areSlips_116 : decode cX6_areSlips 116 = Except.ok (Instr.invokevirtual 58, 3) := vyd_182 (vyb_cX6_areSlips_11 (i := 6) rfl) (vyb_cX6_areSlips_11 (i := 7) rfl) (vyb_cX6_areSlips_11 (i := 8) rfl) rfl
theorem dX6_areSlips_119 : decode cX6_areSlips 119 = Except.ok (Instr.istore_n 3, 1) := vyd_62 (vyb_cX6_areSlips_11 (i := 9) rfl)
theorem dX6_areSlips_120 : decode cX6_areSlips 120 = Except.ok (Instr.aload_n 1, 1) := vyd_43 (vyb_cX6_areSlips_12 (i := 0) rfl)
theorem dX6_areSlips_121 : decode cX6_areSlips 121 = Except.ok (Instr.iload_n 3, 1) := vyd_29 (vyb_cX6_areSlips_12 (i := 1) rfl)
theorem dX6_areSlips_122 : decode cX6_areSlips 122 = Except.ok (Instr.sipush 4000, 3) := vyd_17 (vyb_cX6_areSlips_12 (i := 2) rfl) (vyb_cX6_areSlips_12 (i := 3) rfl) (vyb_cX6_areSlips_12 (i := 4) rfl) (by decide +kernel)
theorem dX6_areSlips_125 : decode cX6_areSlips 125 = Except.ok (Instr.idiv, 1) := vyd_108 (vyb_cX6_areSlips_12 (i := 5) rfl)
theorem dX6_areSlips_126 : decode cX6_areSlips 126 = Except.ok (Instr.invokevirtual 48, 3) := vyd_182 (vyb_cX6_areSlips_12 (i := 6) rfl) (vyb_cX6_areSlips_12 (i := 7) rfl) (vyb_cX6_areSlips_12 (i := 8) rfl) rfl
theorem dX6_areSlips_129 : decode cX6_areSlips 129 = Except.ok (Instr.checkcast 7, 3) := vyd_192 (vyb_cX6_areSlips_12 (i := 9) rfl) (vyb_cX6_areSlips_13 (i := 0) rfl) (vyb_cX6_areSlips_13 (i := 1) rfl) rfl
theorem dX6_areSlips_132 : decode cX6_areSlips 132 = Except.ok (Instr.astore 4, 2) := vyd_58 (vyb_cX6_areSlips_13 (i := 2) rfl) (vyb_cX6_areSlips_13 (i := 3) rfl) rfl
theorem dX6_areSlips_134 : decode cX6_areSlips 134 = Except.ok (Instr.iload_n 3, 1) := vyd_29 (vyb_cX6_areSlips_13 (i := 4) rfl)
theorem dX6_areSlips_135 : decode cX6_areSlips 135 = Except.ok (Instr.sipush 2000, 3) := vyd_17 (vyb_cX6_areSlips_13 (i := 5) rfl) (vyb_cX6_areSlips_13 (i := 6) rfl) (vyb_cX6_areSlips_13 (i := 7) rfl) (by decide +kernel)
theorem dX6_areSlips_138 : decode cX6_areSlips 138 = Except.ok (Instr.idiv, 1) := vyd_108 (vyb_cX6_areSlips_13 (i := 8) rfl)
theorem dX6_areSlips_139 : decode cX6_areSlips 139 = Except.ok (Instr.iconst 2, 1) := vyd_5 (vyb_cX6_areSlips_13 (i := 9) rfl)
theorem dX6_areSlips_140 : decode cX6_areSlips 140 = Except.ok (Instr.irem, 1) := vyd_112 (vyb_cX6_areSlips_14 (i := 0) rfl)
theorem dX6_areSlips_141 : decode cX6_areSlips 141 = Except.ok (Instr.iconst 1, 1) := vyd_4 (vyb_cX6_areSlips_14 (i := 1) rfl)
theorem dX6_areSlips_142 : decode cX6_areSlips 142 = Except.ok (Instr.if_icmp .ne 7, 3) := vyd_160 (vyb_cX6_areSlips_14 (i := 2) rfl) (vyb_cX6_areSlips_14 (i := 3) rfl) (vyb_cX6_areSlips_14 (i := 4) rfl) (by decide +kernel)
theorem dX6_areSlips_145 : decode cX6_areSlips 145 = Except.ok (Instr.iconst 1, 1) := vyd_4 (vyb_cX6_areSlips_14 (i := 5) rfl)
theorem dX6_areSlips_146 : decode cX6_areSlips 146 = Except.ok (Instr.goto 4, 3) := vyd_167 (vyb_cX6_areSlips_14 (i := 6) rfl) (vyb_cX6_areSlips_14 (i := 7) rfl) (vyb_cX6_areSlips_14 (i := 8) rfl) (by decide +kernel)
theorem dX6_areSlips_149 : decode cX6_areSlips 149 = Except.ok (Instr.iconst 0, 1) := vyd_3 (vyb_cX6_areSlips_14 (i := 9) rfl)
theorem dX6_areSlips_150 : decode cX6_areSlips 150 = Except.ok (Instr.istore 5, 2) := vyd_54 (vyb_cX6_areSlips_15 (i := 0) rfl) (vyb_cX6_areSlips_15 (i := 1) rfl) rfl
theorem dX6_areSlips_152 : decode cX6_areSlips 152 = Except.ok (Instr.iload_n 3, 1) := vyd_29 (vyb_cX6_areSlips_15 (i := 2) rfl)
theorem dX6_areSlips_153 : decode cX6_areSlips 153 = Except.ok (Instr.sipush 1000, 3) := vyd_17 (vyb_cX6_areSlips_15 (i := 3) rfl) (vyb_cX6_areSlips_15 (i := 4) rfl) (vyb_cX6_areSlips_15 (i := 5) rfl) (by decide +kernel)
theorem dX6_areSlips_156 : decode cX6_areSlips 156 = Except.ok (Instr.idiv, 1) := vyd_108 (vyb_cX6_areSlips_15 (i := 6) rfl)
theorem dX6_areSlips_157 : decode cX6_areSlips 157 = Except.ok (Instr.iconst 2, 1) := vyd_5 (vyb_cX6_areSlips_15 (i := 7) rfl)
theorem dX6_areSlips_158 : decode cX6_areSlips 158 = Except.ok (Instr.irem, 1) := vyd_112 (vyb_cX6_areSlips_15 (i := 8) rfl)
theorem dX6_areSlips_159 : decode cX6_areSlips 159 = Except.ok (Instr.ifCond .ne 33, 3) := vyd_154 (vyb_cX6_areSlips_15 (i := 9) rfl) (vyb_cX6_areSlips_16 (i := 0) rfl) (vyb_cX6_areSlips_16 (i := 1) rfl) (by decide +kernel)
theorem dX6_areSlips_162 : decode cX6_areSlips 162 = Except.ok (Instr.aload 4, 2) := vyd_25 (vyb_cX6_areSlips_16 (i := 2) rfl) (vyb_cX6_areSlips_16 (i := 3) rfl) rfl
theorem dX6_areSlips_164 : decode cX6_areSlips 164 = Except.ok (Instr.iload 5, 2) := vyd_21 (vyb_cX6_areSlips_16 (i := 4) rfl) (vyb_cX6_areSlips_16 (i := 5) rfl) rfl
theorem dX6_areSlips_166 : decode cX6_areSlips 166 = Except.ok (Instr.ifCond .eq 11, 3) := vyd_153 (vyb_cX6_areSlips_16 (i := 6) rfl) (vyb_cX6_areSlips_16 (i := 7) rfl) (vyb_cX6_areSlips_16 (i := 8) rfl) (by decide +kernel)
theorem dX6_areSlips_169 : decode cX6_areSlips 169 = Except.ok (Instr.aload 4, 2) := vyd_25 (vyb_cX6_areSlips_16 (i := 9) rfl) (vyb_cX6_areSlips_17 (i := 0) rfl) rfl
theorem dX6_areSlips_171 : decode cX6_areSlips 171 = Except.ok (Instr.invokevirtual 52, 3) := vyd_182 (vyb_cX6_areSlips_17 (i := 1) rfl) (vyb_cX6_areSlips_17 (i := 2) rfl) (vyb_cX6_areSlips_17 (i := 3) rfl) rfl
theorem dX6_areSlips_174 : decode cX6_areSlips 174 = Except.ok (Instr.goto 4, 3) := vyd_167 (vyb_cX6_areSlips_17 (i := 4) rfl) (vyb_cX6_areSlips_17 (i := 5) rfl) (vyb_cX6_areSlips_17 (i := 6) rfl) (by decide +kernel)
theorem dX6_areSlips_177 : decode cX6_areSlips 177 = Except.ok (Instr.iconst 0, 1) := vyd_3 (vyb_cX6_areSlips_17 (i := 7) rfl)
theorem dX6_areSlips_178 : decode cX6_areSlips 178 = Except.ok (Instr.iload_n 3, 1) := vyd_29 (vyb_cX6_areSlips_17 (i := 8) rfl)
theorem dX6_areSlips_179 : decode cX6_areSlips 179 = Except.ok (Instr.sipush 1000, 3) := vyd_17 (vyb_cX6_areSlips_17 (i := 9) rfl) (vyb_cX6_areSlips_18 (i := 0) rfl) (vyb_cX6_areSlips_18 (i := 1) rfl) (by decide +kernel)
theorem dX6_areSlips_182 : decode cX6_areSlips 182 = Except.ok (Instr.irem, 1) := vyd_112 (vyb_cX6_areSlips_18 (i := 2) rfl)
theorem dX6_areSlips_183 : decode cX6_areSlips 183 = Except.ok (Instr.invokestatic 70, 3) := vyd_184 (vyb_cX6_areSlips_18 (i := 3) rfl) (vyb_cX6_areSlips_18 (i := 4) rfl) (vyb_cX6_areSlips_18 (i := 5) rfl) rfl
theorem dX6_areSlips_186 : decode cX6_areSlips 186 = Except.ok (Instr.invokevirtual 74, 3) := vyd_182 (vyb_cX6_areSlips_18 (i := 6) rfl) (vyb_cX6_areSlips_18 (i := 7) rfl) (vyb_cX6_areSlips_18 (i := 8) rfl) rfl
theorem dX6_areSlips_189 : decode cX6_areSlips 189 = Except.ok (Instr.goto 48, 3) := vyd_167 (vyb_cX6_areSlips_18 (i := 9) rfl) (vyb_cX6_areSlips_19 (i := 0) rfl) (vyb_cX6_areSlips_19 (i := 1) rfl) (by decide +kernel)
theorem dX6_areSlips_192 : decode cX6_areSlips 192 = Except.ok (Instr.aload 4, 2) := vyd_25 (vyb_cX6_areSlips_19 (i := 2) rfl) (vyb_cX6_areSlips_19 (i := 3) rfl) rfl
theorem dX6_areSlips_194 : decode cX6_areSlips 194 = Except.ok (Instr.invokevirtual 150, 3) := vyd_182 (vyb_cX6_areSlips_19 (i := 4) rfl) (vyb_cX6_areSlips_19 (i := 5) rfl) (vyb_cX6_areSlips_19 (i := 6) rfl) rfl
theorem dX6_areSlips_197 : decode cX6_areSlips 197 = Except.ok (Instr.ifCond .ne 38, 3) := vyd_154 (vyb_cX6_areSlips_19 (i := 7) rfl) (vyb_cX6_areSlips_19 (i := 8) rfl) (vyb_cX6_areSlips_19 (i := 9) rfl) (by decide +kernel)
theorem dX6_areSlips_200 : decode cX6_areSlips 200 = Except.ok (Instr.aload 4, 2) := vyd_25 (vyb_cX6_areSlips_20 (i := 0) rfl) (vyb_cX6_areSlips_20 (i := 1) rfl) rfl
theorem dX6_areSlips_202 : decode cX6_areSlips 202 = Except.ok (Instr.iload 5, 2) := vyd_21 (vyb_cX6_areSlips_20 (i := 2) rfl) (vyb_cX6_areSlips_20 (i := 3) rfl) rfl
theorem dX6_areSlips_204 : decode cX6_areSlips 204 = Except.ok (Instr.ifCond .eq 13, 3) := vyd_153 (vyb_cX6_areSlips_20 (i := 4) rfl) (vyb_cX6_areSlips_20 (i := 5) rfl) (vyb_cX6_areSlips_20 (i := 6) rfl) (by decide +kernel)
theorem dX6_areSlips_207 : decode cX6_areSlips 207 = Except.ok (Instr.aload 4, 2) := vyd_25 (vyb_cX6_areSlips_20 (i := 7) rfl) (vyb_cX6_areSlips_20 (i := 8) rfl) rfl
theorem dX6_areSlips_209 : decode cX6_areSlips 209 = Except.ok (Instr.invokevirtual 52, 3) := vyd_182 (vyb_cX6_areSlips_20 (i := 9) rfl) (vyb_cX6_areSlips_21 (i := 0) rfl) (vyb_cX6_areSlips_21 (i := 1) rfl) rfl
theorem dX6_areSlips_212 : decode cX6_areSlips 212 = Except.ok (Instr.iconst 1, 1) := vyd_4 (vyb_cX6_areSlips_21 (i := 2) rfl)
theorem dX6_areSlips_213 : decode cX6_areSlips 213 = Except.ok (Instr.isub, 1) := vyd_100 (vyb_cX6_areSlips_21 (i := 3) rfl)
theorem dX6_areSlips_214 : decode cX6_areSlips 214 = Except.ok (Instr.goto 4, 3) := vyd_167 (vyb_cX6_areSlips_21 (i := 4) rfl) (vyb_cX6_areSlips_21 (i := 5) rfl) (vyb_cX6_areSlips_21 (i := 6) rfl) (by decide +kernel)
theorem dX6_areSlips_217 : decode cX6_areSlips 217 = Except.ok (Instr.iconst 0, 1) := vyd_3 (vyb_cX6_areSlips_21 (i := 7) rfl)
theorem dX6_areSlips_218 : decode cX6_areSlips 218 = Except.ok (Instr.invokevirtual 81, 3) := vyd_182 (vyb_cX6_areSlips_21 (i := 8) rfl) (vyb_cX6_areSlips_21 (i := 9) rfl) (vyb_cX6_areSlips_22 (i := 0) rfl) rfl
theorem dX6_areSlips_221 : decode cX6_areSlips 221 = Except.ok (Instr.checkcast 56, 3) := vyd_192 (vyb_cX6_areSlips_22 (i := 1) rfl) (vyb_cX6_areSlips_22 (i := 2) rfl) (vyb_cX6_areSlips_22 (i := 3) rfl) rfl
theorem dX6_areSlips_224 : decode cX6_areSlips 224 = Except.ok (Instr.invokevirtual 58, 3) := vyd_182 (vyb_cX6_areSlips_22 (i := 4) rfl) (vyb_cX6_areSlips_22 (i := 5) rfl) (vyb_cX6_areSlips_22 (i := 6) rfl) rfl
theorem dX6_areSlips_227 : decode cX6_areSlips 227 = Except.ok (Instr.iload_n 3, 1) := vyd_29 (vyb_cX6_areSlips_22 (i := 7) rfl)
theorem dX6_areSlips_228 : decode cX6_areSlips 228 = Except.ok (Instr.sipush 1000, 3) := vyd_17 (vyb_cX6_areSlips_22 (i := 8) rfl) (vyb_cX6_areSlips_22 (i := 9) rfl) (vyb_cX6_areSlips_23 (i := 0) rfl) (by decide +kernel)
theorem dX6_areSlips_231 : decode cX6_areSlips 231 = Except.ok (Instr.irem, 1) := vyd_112 (vyb_cX6_areSlips_23 (i := 1) rfl)
theorem dX6_areSlips_232 : decode cX6_areSlips 232 = Except.ok (Instr.if_icmp .eq 5, 3) := vyd_159 (vyb_cX6_areSlips_23 (i := 2) rfl) (vyb_cX6_areSlips_23 (i := 3) rfl) (vyb_cX6_areSlips_23 (i := 4) rfl) (by decide +kernel)
theorem dX6_areSlips_235 : decode cX6_areSlips 235 = Except.ok (Instr.iconst 0, 1) := vyd_3 (vyb_cX6_areSlips_23 (i := 5) rfl)
theorem dX6_areSlips_236 : decode cX6_areSlips 236 = Except.ok (Instr.ireturn, 1) := vyd_172 (vyb_cX6_areSlips_23 (i := 6) rfl)
theorem dX6_areSlips_237 : decode cX6_areSlips 237 = Except.ok (Instr.aload 4, 2) := vyd_25 (vyb_cX6_areSlips_23 (i := 7) rfl) (vyb_cX6_areSlips_23 (i := 8) rfl) rfl
theorem dX6_areSlips_239 : decode cX6_areSlips 239 = Except.ok (Instr.invokevirtual 52, 3) := vyd_182 (vyb_cX6_areSlips_23 (i := 9) rfl) (vyb_cX6_areSlips_24 (i := 0) rfl) (vyb_cX6_areSlips_24 (i := 1) rfl) rfl
theorem dX6_areSlips_242 : decode cX6_areSlips 242 = Except.ok (Instr.bipush 20, 2) := vyd_16 (vyb_cX6_areSlips_24 (i := 2) rfl) (vyb_cX6_areSlips_24 (i := 3) rfl) (by decide +kernel)
theorem dX6_areSlips_244 : decode cX6_areSlips 244 = Except.ok (Instr.if_icmp .le 5, 3) := vyd_164 (vyb_cX6_areSlips_24 (i := 4) rfl) (vyb_cX6_areSlips_24 (i := 5) rfl) (vyb_cX6_areSlips_24 (i := 6) rfl) (by decide +kernel)
theorem dX6_areSlips_247 : decode cX6_areSlips 247 = Except.ok (Instr.iconst 0, 1) := vyd_3 (vyb_cX6_areSlips_24 (i := 7) rfl)
theorem dX6_areSlips_248 : decode cX6_areSlips 248 = Except.ok (Instr.ireturn, 1) := vyd_172 (vyb_cX6_areSlips_24 (i := 8) rfl)
theorem dX6_areSlips_249 : decode cX6_areSlips 249 = .ok (.iinc 2 (-1), 3) := by decide +kernel
theorem dX6_areSlips_252 : decode cX6_areSlips 252 = Except.ok (Instr.goto (-151), 3) := vyd_167 (vyb_cX6_areSlips_25 (i := 2) rfl) (vyb_cX6_areSlips_25 (i := 3) rfl) (vyb_cX6_areSlips_25 (i := 4) rfl) (by decide +kernel)
theorem dX6_areSlips_255 : decode cX6_areSlips 255 = Except.ok (Instr.iconst 1, 1) := vyd_4 (vyb_cX6_areSlips_25 (i := 5) rfl)
theorem dX6_areSlips_256 : decode cX6_areSlips 256 = Except.ok (Instr.ireturn, 1) := vyd_172 (vyb_cX6_areSlips_25 (i := 6) rfl)
theorem vyb_cX6_isWhole_0 {i : Nat} {b : UInt8} (h : ([0x03, 0x3c, 0x1b, 0x05, 0xa2, 0x00, 0x29, 0x03, 0x3d, 0x1c] : List UInt8)[i]? = some b) : vy_8 cX6_isWhole (0 + i) b := vy_in (n := 10) (by decide +kernel) h
theorem vyb_cX6_isWhole_1 {i : Nat} {b : UInt8} (h : ([0x2a, 0x1b, 0xb6, 0x00, 0x5b, 0xa2, 0x00, 0x18, 0x1b, 0x2a] : List UInt8)[i]? = some b) : vy_8 cX6_isWhole (10 + i) b := vy_in (n := 10) (by decide +kernel) h
theorem vyb_cX6_isWhole_2 {i : Nat} {b : UInt8} (h : ([0x1b, 0x1c, 0xb6, 0x00, 0x83, 0xb8, 0x00, 0x7c, 0x99, 0x00] : List UInt8)[i]? = some b) : vy_8 cX6_isWhole (20 + i) b := vy_in (n := 10) (by decide +kernel) h
theorem vyb_cX6_isWhole_3 {i : Nat} {b : UInt8} (h : ([0x05, 0x03, 0xac, 0x84, 0x02, 0x01, 0xa7, 0xff, 0xe5, 0x84] : List UInt8)[i]? = some b) : vy_8 cX6_isWhole (30 + i) b := vy_in (n := 10) (by decide +kernel) h
theorem vyb_cX6_isWhole_4 {i : Nat} {b : UInt8} (h : ([0x01, 0x01, 0xa7, 0xff, 0xd8, 0x2a, 0xb4, 0x00, 0x19, 0x4c] : List UInt8)[i]? = some b) : vy_8 cX6_isWhole (40 + i) b := vy_in (n := 10) (by decide +kernel) h
theorem vyb_cX6_isWhole_5 {i : Nat} {b : UInt8} (h : ([0x2b, 0xbe, 0x3d, 0x03, 0x3e, 0x1d, 0x1c, 0xa2, 0x00, 0x2a] : List UInt8)[i]? = some b) : vy_8 cX6_isWhole (50 + i) b := vy_in (n := 10) (by decide +kernel) h
theorem vyb_cX6_isWhole_6 {i : Nat} {b : UInt8} (h : ([0x2b, 0x1d, 0x32, 0x3a, 0x04, 0x19, 0x04, 0xb4, 0x00, 0x43] : List UInt8)[i]? = some b) : vy_8 cX6_isWhole (60 + i) b := vy_in (n := 10) (by decide +kernel) h
theorem vyb_cX6_isWhole_7 {i : Nat} {b : UInt8} (h : ([0x04, 0xa0, 0x00, 0x16, 0x19, 0x04, 0xb4, 0x00, 0xbe, 0x03] : List UInt8)[i]? = some b) : vy_8 cX6_isWhole (70 + i) b := vy_in (n := 10) (by decide +kernel) h
theorem vyb_cX6_isWhole_8 {i : Nat} {b : UInt8} (h : ([0x2a, 0x04, 0xb6, 0x00, 0x5b, 0xb8, 0x00, 0x2c, 0x9a, 0x00] : List UInt8)[i]? = some b) : vy_8 cX6_isWhole (80 + i) b := vy_in (n := 10) (by decide +kernel) h
theorem vyb_cX6_isWhole_9 {i : Nat} {b : UInt8} (h : ([0x05, 0x03, 0xac, 0x84, 0x03, 0x01, 0xa7, 0xff, 0xd7, 0x2a] : List UInt8)[i]? = some b) : vy_8 cX6_isWhole (90 + i) b := vy_in (n := 10) (by decide +kernel) h
theorem vyb_cX6_isWhole_10 {i : Nat} {b : UInt8} (h : ([0x03, 0xb6, 0x00, 0x5b, 0x10, 0x14, 0xa3, 0x00, 0x30, 0x2a] : List UInt8)[i]? = some b) : vy_8 cX6_isWhole (100 + i) b := vy_in (n := 10) (by decide +kernel) h
theorem vyb_cX6_isWhole_11 {i : Nat} {b : UInt8} (h : ([0x04, 0xb6, 0x00, 0x5b, 0x10, 0x14, 0xa3, 0x00, 0x26, 0x2a] : List UInt8)[i]? = some b) : vy_8 cX6_isWhole (110 + i) b := vy_in (n := 10) (by decide +kernel) h
theorem vyb_cX6_isWhole_12 {i : Nat} {b : UInt8} (h : ([0xb4, 0x00, 0x10, 0xb6, 0x00, 0x34, 0x10, 0x0c, 0xa3, 0x00] : List UInt8)[i]? = some b) : vy_8 cX6_isWhole (120 + i) b := vy_in (n := 10) (by decide +kernel) h
theorem vyb_cX6_isWhole_13 {i : Nat} {b : UInt8} (h : ([0x1a, 0x2a, 0xb4, 0x00, 0x13, 0xb6, 0x00, 0x34, 0x10, 0x0a] : List UInt8)[i]? = some b) : vy_8 cX6_isWhole (130 + i) b := vy_in (n := 10) (by decide +kernel) h
theorem vyb_cX6_isWhole_14 {i : Nat} {b : UInt8} (h : ([0xa3, 0x00, 0x0e, 0x2a, 0xb6, 0x01, 0x01, 0x99, 0x00, 0x07] : List UInt8)[i]? = some b) : vy_8 cX6_isWhole (140 + i) b := vy_in (n := 10) (by decide +kernel) h
theorem vyb_cX6_isWhole_15 {i : Nat} {b : UInt8} (h : ([0x04, 0xa7, 0x00, 0x04, 0x03, 0xac] : List UInt8)[i]? = some b) : vy_8 cX6_isWhole (150 + i) b := vy_in (n := 6) (by decide +kernel) h
theorem dX6_isWhole_0 : decode cX6_isWhole 0 = Except.ok (Instr.iconst 0, 1) := vyd_3 (vyb_cX6_isWhole_0 (i := 0) rfl)
theorem dX6_isWhole_1 : decode cX6_isWhole 1 = Except.ok (Instr.istore_n 1, 1) := vyd_60 (vyb_cX6_isWhole_0 (i := 1) rfl)
theorem dX6_isWhole_2 : decode cX6_isWhole 2 = Except.ok (Instr.iload_n 1, 1) := vyd_27 (vyb_cX6_isWhole_0 (i := 2) rfl)
theorem dX6_isWhole_3 : decode cX6_isWhole 3 = Except.ok (Instr.iconst 2, 1) := vyd_5 (vyb_cX6_isWhole_0 (i := 3) rfl)
theorem dX6_isWhole_4 : decode cX6_isWhole 4 = Except.ok (Instr.if_icmp .ge 41, 3) := vyd_162 (vyb_cX6_isWhole_0 (i := 4) rfl) (vyb_cX6_isWhole_0 (i := 5) rfl) (vyb_cX6_isWhole_0 (i := 6) rfl) (by decide +kernel)
theorem dX6_isWhole_7 : decode cX6_isWhole 7 = Except.ok (Instr.iconst 0, 1) := vyd_3 (vyb_cX6_isWhole_0 (i := 7) rfl)
theorem dX6_isWhole_8 : decode cX6_isWhole 8 = Except.ok (Instr.istore_n 2, 1) := vyd_61 (vyb_cX6_isWhole_0 (i := 8) rfl)
theorem dX6_isWhole_9 : decode cX6_isWhole 9 = Except.ok (Instr.iload_n 2, 1) := vyd_28 (vyb_cX6_isWhole_0 (i := 9) rfl)
theorem dX6_isWhole_10 : decode cX6_isWhole 10 = Except.ok (Instr.aload_n 0, 1) := vyd_42 (vyb_cX6_isWhole_1 (i := 0) rfl)
theorem dX6_isWhole_11 : decode cX6_isWhole 11 = Except.ok (Instr.iload_n 1, 1) := vyd_27 (vyb_cX6_isWhole_1 (i := 1) rfl)
theorem dX6_isWhole_12 : decode cX6_isWhole 12 = Except.ok (Instr.invokevirtual 91, 3) := vyd_182 (vyb_cX6_isWhole_1 (i := 2) rfl) (vyb_cX6_isWhole_1 (i := 3) rfl) (vyb_cX6_isWhole_1 (i := 4) rfl) rfl
theorem dX6_isWhole_15 : decode cX6_isWhole 15 = Except.ok (Instr.if_icmp .ge 24, 3) := vyd_162 (vyb_cX6_isWhole_1 (i := 5) rfl) (vyb_cX6_isWhole_1 (i := 6) rfl) (vyb_cX6_isWhole_1 (i := 7) rfl) (by decide +kernel)
theorem dX6_isWhole_18 : decode cX6_isWhole 18 = Except.ok (Instr.iload_n 1, 1) := vyd_27 (vyb_cX6_isWhole_1 (i := 8) rfl)
theorem dX6_isWhole_19 : decode cX6_isWhole 19 = Except.ok (Instr.aload_n 0, 1) := vyd_42 (vyb_cX6_isWhole_1 (i := 9) rfl)
theorem dX6_isWhole_20 : decode cX6_isWhole 20 = Except.ok (Instr.iload_n 1, 1) := vyd_27 (vyb_cX6_isWhole_2 (i := 0) rfl)
theorem dX6_isWhole_21 : decode cX6_isWhole 21 = Except.ok (Instr.iload_n 2, 1) := vyd_28 (vyb_cX6_isWhole_2 (i := 1) rfl)
theorem dX6_isWhole_22 : decode cX6_isWhole 22 = Except.ok (Instr.invokevirtual 131, 3) := vyd_182 (vyb_cX6_isWhole_2 (i := 2) rfl) (vyb_cX6_isWhole_2 (i := 3) rfl) (vyb_cX6_isWhole_2 (i := 4) rfl) rfl
theorem dX6_isWhole_25 : decode cX6_isWhole 25 = Except.ok (Instr.invokestatic 124, 3) := vyd_184 (vyb_cX6_isWhole_2 (i := 5) rfl) (vyb_cX6_isWhole_2 (i := 6) rfl) (vyb_cX6_isWhole_2 (i := 7) rfl) rfl
theorem dX6_isWhole_28 : decode cX6_isWhole 28 = Except.ok (Instr.ifCond .eq 5, 3) := vyd_153 (vyb_cX6_isWhole_2 (i := 8) rfl) (vyb_cX6_isWhole_2 (i := 9) rfl) (vyb_cX6_isWhole_3 (i := 0) rfl) (by decide +kernel)
theorem dX6_isWhole_33 : decode cX6_isWhole 33 = .ok (.iinc 2 1, 3) := by decide +kernel
theorem dX6_isWhole_36 : decode cX6_isWhole 36 = Except.ok (Instr.goto (-27), 3) := vyd_167 (vyb_cX6_isWhole_3 (i := 6) rfl) (vyb_cX6_isWhole_3 (i := 7) rfl) (vyb_cX6_isWhole_3 (i := 8) rfl) (by decide +kernel)
theorem dX6_isWhole_39 : decode cX6_isWhole 39 = .ok (.iinc 1 1, 3) := by decide +kernel
theorem dX6_isWhole_42 : decode cX6_isWhole 42 = Except.ok (Instr.goto (-40), 3) := vyd_167 (vyb_cX6_isWhole_4 (i := 2) rfl) (vyb_cX6_isWhole_4 (i := 3) rfl) (vyb_cX6_isWhole_4 (i := 4) rfl) (by decide +kernel)
theorem dX6_isWhole_45 : decode cX6_isWhole 45 = Except.ok (Instr.aload_n 0, 1) := vyd_42 (vyb_cX6_isWhole_4 (i := 5) rfl)
theorem dX6_isWhole_46 : decode cX6_isWhole 46 = Except.ok (Instr.getfield 25, 3) := vyd_180 (vyb_cX6_isWhole_4 (i := 6) rfl) (vyb_cX6_isWhole_4 (i := 7) rfl) (vyb_cX6_isWhole_4 (i := 8) rfl) rfl
theorem dX6_isWhole_49 : decode cX6_isWhole 49 = Except.ok (Instr.astore_n 1, 1) := vyd_76 (vyb_cX6_isWhole_4 (i := 9) rfl)
theorem dX6_isWhole_50 : decode cX6_isWhole 50 = Except.ok (Instr.aload_n 1, 1) := vyd_43 (vyb_cX6_isWhole_5 (i := 0) rfl)
theorem dX6_isWhole_51 : decode cX6_isWhole 51 = Except.ok (Instr.arraylength, 1) := vyd_190 (vyb_cX6_isWhole_5 (i := 1) rfl)
theorem dX6_isWhole_52 : decode cX6_isWhole 52 = Except.ok (Instr.istore_n 2, 1) := vyd_61 (vyb_cX6_isWhole_5 (i := 2) rfl)
theorem dX6_isWhole_53 : decode cX6_isWhole 53 = Except.ok (Instr.iconst 0, 1) := vyd_3 (vyb_cX6_isWhole_5 (i := 3) rfl)
theorem dX6_isWhole_54 : decode cX6_isWhole 54 = Except.ok (Instr.istore_n 3, 1) := vyd_62 (vyb_cX6_isWhole_5 (i := 4) rfl)
theorem dX6_isWhole_55 : decode cX6_isWhole 55 = Except.ok (Instr.iload_n 3, 1) := vyd_29 (vyb_cX6_isWhole_5 (i := 5) rfl)
theorem dX6_isWhole_56 : decode cX6_isWhole 56 = Except.ok (Instr.iload_n 2, 1) := vyd_28 (vyb_cX6_isWhole_5 (i := 6) rfl)
theorem dX6_isWhole_57 : decode cX6_isWhole 57 = Except.ok (Instr.if_icmp .ge 42, 3) := vyd_162 (vyb_cX6_isWhole_5 (i := 7) rfl) (vyb_cX6_isWhole_5 (i := 8) rfl) (vyb_cX6_isWhole_5 (i := 9) rfl) (by decide +kernel)
theorem dX6_isWhole_60 : decode cX6_isWhole 60 = Except.ok (Instr.aload_n 1, 1) := vyd_43 (vyb_cX6_isWhole_6 (i := 0) rfl)
theorem dX6_isWhole_61 : decode cX6_isWhole 61 = Except.ok (Instr.iload_n 3, 1) := vyd_29 (vyb_cX6_isWhole_6 (i := 1) rfl)
theorem dX6_isWhole_62 : decode cX6_isWhole 62 = Except.ok (Instr.aaload, 1) := vyd_50 (vyb_cX6_isWhole_6 (i := 2) rfl)
theorem dX6_isWhole_63 : decode cX6_isWhole 63 = Except.ok (Instr.astore 4, 2) := vyd_58 (vyb_cX6_isWhole_6 (i := 3) rfl) (vyb_cX6_isWhole_6 (i := 4) rfl) rfl
theorem dX6_isWhole_65 : decode cX6_isWhole 65 = Except.ok (Instr.aload 4, 2) := vyd_25 (vyb_cX6_isWhole_6 (i := 5) rfl) (vyb_cX6_isWhole_6 (i := 6) rfl) rfl
theorem dX6_isWhole_67 : decode cX6_isWhole 67 = Except.ok (Instr.getfield 67, 3) := vyd_180 (vyb_cX6_isWhole_6 (i := 7) rfl) (vyb_cX6_isWhole_6 (i := 8) rfl) (vyb_cX6_isWhole_6 (i := 9) rfl) rfl
theorem dX6_isWhole_70 : decode cX6_isWhole 70 = Except.ok (Instr.iconst 1, 1) := vyd_4 (vyb_cX6_isWhole_7 (i := 0) rfl)
theorem dX6_isWhole_71 : decode cX6_isWhole 71 = Except.ok (Instr.if_icmp .ne 22, 3) := vyd_160 (vyb_cX6_isWhole_7 (i := 1) rfl) (vyb_cX6_isWhole_7 (i := 2) rfl) (vyb_cX6_isWhole_7 (i := 3) rfl) (by decide +kernel)
theorem dX6_isWhole_74 : decode cX6_isWhole 74 = Except.ok (Instr.aload 4, 2) := vyd_25 (vyb_cX6_isWhole_7 (i := 4) rfl) (vyb_cX6_isWhole_7 (i := 5) rfl) rfl
theorem dX6_isWhole_76 : decode cX6_isWhole 76 = Except.ok (Instr.getfield 190, 3) := vyd_180 (vyb_cX6_isWhole_7 (i := 6) rfl) (vyb_cX6_isWhole_7 (i := 7) rfl) (vyb_cX6_isWhole_7 (i := 8) rfl) rfl
theorem dX6_isWhole_79 : decode cX6_isWhole 79 = Except.ok (Instr.iconst 0, 1) := vyd_3 (vyb_cX6_isWhole_7 (i := 9) rfl)
theorem dX6_isWhole_80 : decode cX6_isWhole 80 = Except.ok (Instr.aload_n 0, 1) := vyd_42 (vyb_cX6_isWhole_8 (i := 0) rfl)
theorem dX6_isWhole_81 : decode cX6_isWhole 81 = Except.ok (Instr.iconst 1, 1) := vyd_4 (vyb_cX6_isWhole_8 (i := 1) rfl)
theorem dX6_isWhole_82 : decode cX6_isWhole 82 = Except.ok (Instr.invokevirtual 91, 3) := vyd_182 (vyb_cX6_isWhole_8 (i := 2) rfl) (vyb_cX6_isWhole_8 (i := 3) rfl) (vyb_cX6_isWhole_8 (i := 4) rfl) rfl
theorem dX6_isWhole_85 : decode cX6_isWhole 85 = Except.ok (Instr.invokestatic 44, 3) := vyd_184 (vyb_cX6_isWhole_8 (i := 5) rfl) (vyb_cX6_isWhole_8 (i := 6) rfl) (vyb_cX6_isWhole_8 (i := 7) rfl) rfl
theorem dX6_isWhole_88 : decode cX6_isWhole 88 = Except.ok (Instr.ifCond .ne 5, 3) := vyd_154 (vyb_cX6_isWhole_8 (i := 8) rfl) (vyb_cX6_isWhole_8 (i := 9) rfl) (vyb_cX6_isWhole_9 (i := 0) rfl) (by decide +kernel)
theorem dX6_isWhole_93 : decode cX6_isWhole 93 = .ok (.iinc 3 1, 3) := by decide +kernel
theorem dX6_isWhole_96 : decode cX6_isWhole 96 = Except.ok (Instr.goto (-41), 3) := vyd_167 (vyb_cX6_isWhole_9 (i := 6) rfl) (vyb_cX6_isWhole_9 (i := 7) rfl) (vyb_cX6_isWhole_9 (i := 8) rfl) (by decide +kernel)
theorem dX6_isWhole_99 : decode cX6_isWhole 99 = Except.ok (Instr.aload_n 0, 1) := vyd_42 (vyb_cX6_isWhole_9 (i := 9) rfl)
theorem dX6_isWhole_100 : decode cX6_isWhole 100 = Except.ok (Instr.iconst 0, 1) := vyd_3 (vyb_cX6_isWhole_10 (i := 0) rfl)
theorem dX6_isWhole_101 : decode cX6_isWhole 101 = Except.ok (Instr.invokevirtual 91, 3) := vyd_182 (vyb_cX6_isWhole_10 (i := 1) rfl) (vyb_cX6_isWhole_10 (i := 2) rfl) (vyb_cX6_isWhole_10 (i := 3) rfl) rfl
theorem dX6_isWhole_104 : decode cX6_isWhole 104 = Except.ok (Instr.bipush 20, 2) := vyd_16 (vyb_cX6_isWhole_10 (i := 4) rfl) (vyb_cX6_isWhole_10 (i := 5) rfl) (by decide +kernel)
theorem dX6_isWhole_106 : decode cX6_isWhole 106 = Except.ok (Instr.if_icmp .gt 48, 3) := vyd_163 (vyb_cX6_isWhole_10 (i := 6) rfl) (vyb_cX6_isWhole_10 (i := 7) rfl) (vyb_cX6_isWhole_10 (i := 8) rfl) (by decide +kernel)
theorem dX6_isWhole_109 : decode cX6_isWhole 109 = Except.ok (Instr.aload_n 0, 1) := vyd_42 (vyb_cX6_isWhole_10 (i := 9) rfl)
theorem dX6_isWhole_110 : decode cX6_isWhole 110 = Except.ok (Instr.iconst 1, 1) := vyd_4 (vyb_cX6_isWhole_11 (i := 0) rfl)
theorem dX6_isWhole_111 : decode cX6_isWhole 111 = Except.ok (Instr.invokevirtual 91, 3) := vyd_182 (vyb_cX6_isWhole_11 (i := 1) rfl) (vyb_cX6_isWhole_11 (i := 2) rfl) (vyb_cX6_isWhole_11 (i := 3) rfl) rfl
theorem dX6_isWhole_114 : decode cX6_isWhole 114 = Except.ok (Instr.bipush 20, 2) := vyd_16 (vyb_cX6_isWhole_11 (i := 4) rfl) (vyb_cX6_isWhole_11 (i := 5) rfl) (by decide +kernel)
theorem dX6_isWhole_116 : decode cX6_isWhole 116 = Except.ok (Instr.if_icmp .gt 38, 3) := vyd_163 (vyb_cX6_isWhole_11 (i := 6) rfl) (vyb_cX6_isWhole_11 (i := 7) rfl) (vyb_cX6_isWhole_11 (i := 8) rfl) (by decide +kernel)
theorem dX6_isWhole_119 : decode cX6_isWhole 119 = Except.ok (Instr.aload_n 0, 1) := vyd_42 (vyb_cX6_isWhole_11 (i := 9) rfl)
theorem dX6_isWhole_120 : decode cX6_isWhole 120 = Except.ok (Instr.getfield 16, 3) := vyd_180 (vyb_cX6_isWhole_12 (i := 0) rfl) (vyb_cX6_isWhole_12 (i := 1) rfl) (vyb_cX6_isWhole_12 (i := 2) rfl) rfl
theorem dX6_isWhole_123 : decode cX6_isWhole 123 = Except.ok (Instr.invokevirtual 52, 3) := vyd_182 (vyb_cX6_isWhole_12 (i := 3) rfl) (vyb_cX6_isWhole_12 (i := 4) rfl) (vyb_cX6_isWhole_12 (i := 5) rfl) rfl
theorem dX6_isWhole_126 : decode cX6_isWhole 126 = Except.ok (Instr.bipush 12, 2) := vyd_16 (vyb_cX6_isWhole_12 (i := 6) rfl) (vyb_cX6_isWhole_12 (i := 7) rfl) (by decide +kernel)
theorem dX6_isWhole_128 : decode cX6_isWhole 128 = Except.ok (Instr.if_icmp .gt 26, 3) := vyd_163 (vyb_cX6_isWhole_12 (i := 8) rfl) (vyb_cX6_isWhole_12 (i := 9) rfl) (vyb_cX6_isWhole_13 (i := 0) rfl) (by decide +kernel)
theorem dX6_isWhole_131 : decode cX6_isWhole 131 = Except.ok (Instr.aload_n 0, 1) := vyd_42 (vyb_cX6_isWhole_13 (i := 1) rfl)
theorem dX6_isWhole_132 : decode cX6_isWhole 132 = Except.ok (Instr.getfield 19, 3) := vyd_180 (vyb_cX6_isWhole_13 (i := 2) rfl) (vyb_cX6_isWhole_13 (i := 3) rfl) (vyb_cX6_isWhole_13 (i := 4) rfl) rfl
theorem dX6_isWhole_135 : decode cX6_isWhole 135 = Except.ok (Instr.invokevirtual 52, 3) := vyd_182 (vyb_cX6_isWhole_13 (i := 5) rfl) (vyb_cX6_isWhole_13 (i := 6) rfl) (vyb_cX6_isWhole_13 (i := 7) rfl) rfl
theorem dX6_isWhole_138 : decode cX6_isWhole 138 = Except.ok (Instr.bipush 10, 2) := vyd_16 (vyb_cX6_isWhole_13 (i := 8) rfl) (vyb_cX6_isWhole_13 (i := 9) rfl) (by decide +kernel)
theorem dX6_isWhole_140 : decode cX6_isWhole 140 = Except.ok (Instr.if_icmp .gt 14, 3) := vyd_163 (vyb_cX6_isWhole_14 (i := 0) rfl) (vyb_cX6_isWhole_14 (i := 1) rfl) (vyb_cX6_isWhole_14 (i := 2) rfl) (by decide +kernel)
theorem dX6_isWhole_143 : decode cX6_isWhole 143 = Except.ok (Instr.aload_n 0, 1) := vyd_42 (vyb_cX6_isWhole_14 (i := 3) rfl)
theorem dX6_isWhole_144 : decode cX6_isWhole 144 = Except.ok (Instr.invokevirtual 257, 3) := vyd_182 (vyb_cX6_isWhole_14 (i := 4) rfl) (vyb_cX6_isWhole_14 (i := 5) rfl) (vyb_cX6_isWhole_14 (i := 6) rfl) rfl
theorem dX6_isWhole_147 : decode cX6_isWhole 147 = Except.ok (Instr.ifCond .eq 7, 3) := vyd_153 (vyb_cX6_isWhole_14 (i := 7) rfl) (vyb_cX6_isWhole_14 (i := 8) rfl) (vyb_cX6_isWhole_14 (i := 9) rfl) (by decide +kernel)
theorem dX6_isWhole_150 : decode cX6_isWhole 150 = Except.ok (Instr.iconst 1, 1) := vyd_4 (vyb_cX6_isWhole_15 (i := 0) rfl)
theorem dX6_isWhole_151 : decode cX6_isWhole 151 = Except.ok (Instr.goto 4, 3) := vyd_167 (vyb_cX6_isWhole_15 (i := 1) rfl) (vyb_cX6_isWhole_15 (i := 2) rfl) (vyb_cX6_isWhole_15 (i := 3) rfl) (by decide +kernel)
theorem dX6_isWhole_154 : decode cX6_isWhole 154 = Except.ok (Instr.iconst 0, 1) := vyd_3 (vyb_cX6_isWhole_15 (i := 4) rfl)
theorem dX6_isWhole_155 : decode cX6_isWhole 155 = Except.ok (Instr.ireturn, 1) := vyd_172 (vyb_cX6_isWhole_15 (i := 5) rfl)
theorem vyb_cX6_isSound_0 {i : Nat} {b : UInt8} (h : ([0x2a, 0x03, 0xb5, 0x00, 0x25, 0x2a, 0xb6, 0x01, 0x04, 0xac] : List UInt8)[i]? = some b) : vy_8 cX6_isSound (0 + i) b := vy_in (n := 10) (by decide +kernel) h
theorem dX6_isSound_0 : decode cX6_isSound 0 = Except.ok (Instr.aload_n 0, 1) := vyd_42 (vyb_cX6_isSound_0 (i := 0) rfl)
theorem dX6_isSound_1 : decode cX6_isSound 1 = Except.ok (Instr.iconst 0, 1) := vyd_3 (vyb_cX6_isSound_0 (i := 1) rfl)
theorem dX6_isSound_2 : decode cX6_isSound 2 = Except.ok (Instr.putfield 37, 3) := vyd_181 (vyb_cX6_isSound_0 (i := 2) rfl) (vyb_cX6_isSound_0 (i := 3) rfl) (vyb_cX6_isSound_0 (i := 4) rfl) rfl
theorem dX6_isSound_5 : decode cX6_isSound 5 = Except.ok (Instr.aload_n 0, 1) := vyd_42 (vyb_cX6_isSound_0 (i := 5) rfl)
theorem dX6_isSound_6 : decode cX6_isSound 6 = Except.ok (Instr.invokevirtual 260, 3) := vyd_182 (vyb_cX6_isSound_0 (i := 6) rfl) (vyb_cX6_isSound_0 (i := 7) rfl) (vyb_cX6_isSound_0 (i := 8) rfl) rfl
theorem dX6_isSound_9 : decode cX6_isSound 9 = Except.ok (Instr.ireturn, 1) := vyd_172 (vyb_cX6_isSound_0 (i := 9) rfl)
theorem vyb_cX6_add_0 {i : Nat} {b : UInt8} (h : ([0x1e, 0x14, 0x01, 0x07, 0x69, 0x20, 0x61, 0xad] : List UInt8)[i]? = some b) : vy_8 cX6_add (0 + i) b := vy_in (n := 8) (by decide +kernel) h
theorem dX6_add_0 : decode cX6_add 0 = Except.ok (Instr.lload_n 0, 1) := vyd_30 (vyb_cX6_add_0 (i := 0) rfl)
theorem dX6_add_1 : decode cX6_add 1 = Except.ok (Instr.ldc2_w 263, 3) := vyd_20 (vyb_cX6_add_0 (i := 1) rfl) (vyb_cX6_add_0 (i := 2) rfl) (vyb_cX6_add_0 (i := 3) rfl) rfl
theorem dX6_add_4 : decode cX6_add 4 = Except.ok (Instr.lmul, 1) := vyd_105 (vyb_cX6_add_0 (i := 4) rfl)
theorem dX6_add_5 : decode cX6_add 5 = Except.ok (Instr.lload_n 2, 1) := vyd_32 (vyb_cX6_add_0 (i := 5) rfl)
theorem dX6_add_6 : decode cX6_add 6 = Except.ok (Instr.ladd, 1) := vyd_97 (vyb_cX6_add_0 (i := 6) rfl)
theorem dX6_add_7 : decode cX6_add 7 = Except.ok (Instr.lreturn, 1) := vyd_173 (vyb_cX6_add_0 (i := 7) rfl)
theorem vyb_cX6_digest_0 {i : Nat} {b : UInt8} (h : ([0x2a, 0x03, 0xb5, 0x00, 0x25, 0x14, 0x01, 0x09, 0x40, 0x03] : List UInt8)[i]? = some b) : vy_8 cX6_digest (0 + i) b := vy_in (n := 10) (by decide +kernel) h
theorem vyb_cX6_digest_1 {i : Nat} {b : UInt8} (h : ([0x3e, 0x1d, 0x05, 0xa2, 0x00, 0x7a, 0x03, 0x36, 0x04, 0x15] : List UInt8)[i]? = some b) : vy_8 cX6_digest (10 + i) b := vy_in (n := 10) (by decide +kernel) h
theorem vyb_cX6_digest_2 {i : Nat} {b : UInt8} (h : ([0x04, 0x07, 0xa2, 0x00, 0x16, 0x1f, 0x2a, 0x1d, 0x15, 0x04] : List UInt8)[i]? = some b) : vy_8 cX6_digest (20 + i) b := vy_in (n := 10) (by decide +kernel) h
theorem vyb_cX6_digest_3 {i : Nat} {b : UInt8} (h : ([0xb6, 0x00, 0xce, 0x85, 0xb8, 0x01, 0x0b, 0x40, 0x84, 0x04] : List UInt8)[i]? = some b) : vy_8 cX6_digest (30 + i) b := vy_in (n := 10) (by decide +kernel) h
theorem vyb_cX6_digest_4 {i : Nat} {b : UInt8} (h : ([0x01, 0xa7, 0xff, 0xea, 0x03, 0x36, 0x04, 0x15, 0x04, 0x10] : List UInt8)[i]? = some b) : vy_8 cX6_digest (40 + i) b := vy_in (n := 10) (by decide +kernel) h
theorem vyb_cX6_digest_5 {i : Nat} {b : UInt8} (h : ([0x06, 0xa2, 0x00, 0x16, 0x1f, 0x2a, 0x1d, 0x15, 0x04, 0xb6] : List UInt8)[i]? = some b) : vy_8 cX6_digest (50 + i) b := vy_in (n := 10) (by decide +kernel) h
theorem vyb_cX6_digest_6 {i : Nat} {b : UInt8} (h : ([0x00, 0xcb, 0x85, 0xb8, 0x01, 0x0b, 0x40, 0x84, 0x04, 0x01] : List UInt8)[i]? = some b) : vy_8 cX6_digest (60 + i) b := vy_in (n := 10) (by decide +kernel) h
theorem vyb_cX6_digest_7 {i : Nat} {b : UInt8} (h : ([0xa7, 0xff, 0xe9, 0x03, 0x36, 0x04, 0x15, 0x04, 0x2a, 0x1d] : List UInt8)[i]? = some b) : vy_8 cX6_digest (70 + i) b := vy_in (n := 10) (by decide +kernel) h
theorem vyb_cX6_digest_8 {i : Nat} {b : UInt8} (h : ([0xb6, 0x00, 0x5b, 0xa2, 0x00, 0x16, 0x1f, 0x2a, 0x1d, 0x15] : List UInt8)[i]? = some b) : vy_8 cX6_digest (80 + i) b := vy_in (n := 10) (by decide +kernel) h
theorem vyb_cX6_digest_9 {i : Nat} {b : UInt8} (h : ([0x04, 0xb6, 0x00, 0x83, 0x85, 0xb8, 0x01, 0x0b, 0x40, 0x84] : List UInt8)[i]? = some b) : vy_8 cX6_digest (90 + i) b := vy_in (n := 10) (by decide +kernel) h
theorem vyb_cX6_digest_10 {i : Nat} {b : UInt8} (h : ([0x04, 0x01, 0xa7, 0xff, 0xe6, 0x1f, 0x2a, 0x1d, 0x04, 0xb6] : List UInt8)[i]? = some b) : vy_8 cX6_digest (100 + i) b := vy_in (n := 10) (by decide +kernel) h
theorem vyb_cX6_digest_11 {i : Nat} {b : UInt8} (h : ([0x00, 0xe7, 0xb6, 0x01, 0x0e, 0x85, 0xb8, 0x01, 0x0b, 0x2a] : List UInt8)[i]? = some b) : vy_8 cX6_digest (110 + i) b := vy_in (n := 10) (by decide +kernel) h
theorem vyb_cX6_digest_12 {i : Nat} {b : UInt8} (h : ([0x1d, 0xb6, 0x00, 0xee, 0x85, 0xb8, 0x01, 0x0b, 0x40, 0x84] : List UInt8)[i]? = some b) : vy_8 cX6_digest (120 + i) b := vy_in (n := 10) (by decide +kernel) h
theorem vyb_cX6_digest_13 {i : Nat} {b : UInt8} (h : ([0x03, 0x01, 0xa7, 0xff, 0x87, 0x03, 0x3e, 0x1d, 0x10, 0x09] : List UInt8)[i]? = some b) : vy_8 cX6_digest (130 + i) b := vy_in (n := 10) (by decide +kernel) h
theorem vyb_cX6_digest_14 {i : Nat} {b : UInt8} (h : ([0xa3, 0x00, 0x21, 0x1f, 0x2a, 0x04, 0x1d, 0x03, 0xb6, 0x00] : List UInt8)[i]? = some b) : vy_8 cX6_digest (140 + i) b := vy_in (n := 10) (by decide +kernel) h
theorem vyb_cX6_digest_15 {i : Nat} {b : UInt8} (h : ([0xa0, 0x85, 0xb8, 0x01, 0x0b, 0x2a, 0x04, 0x1d, 0x04, 0xb6] : List UInt8)[i]? = some b) : vy_8 cX6_digest (150 + i) b := vy_in (n := 10) (by decide +kernel) h
theorem vyb_cX6_digest_16 {i : Nat} {b : UInt8} (h : ([0x00, 0xa0, 0x85, 0xb8, 0x01, 0x0b, 0x40, 0x84, 0x03, 0x01] : List UInt8)[i]? = some b) : vy_8 cX6_digest (160 + i) b := vy_in (n := 10) (by decide +kernel) h
theorem vyb_cX6_digest_17 {i : Nat} {b : UInt8} (h : ([0xa7, 0xff, 0xdf, 0x03, 0x3e, 0x1d, 0x05, 0xa2, 0x00, 0x3e] : List UInt8)[i]? = some b) : vy_8 cX6_digest (170 + i) b := vy_in (n := 10) (by decide +kernel) h
theorem vyb_cX6_digest_18 {i : Nat} {b : UInt8} (h : ([0x1f, 0x2a, 0x1d, 0x03, 0xb6, 0x00, 0xc5, 0x85, 0xb8, 0x01] : List UInt8)[i]? = some b) : vy_8 cX6_digest (180 + i) b := vy_in (n := 10) (by decide +kernel) h
theorem vyb_cX6_digest_19 {i : Nat} {b : UInt8} (h : ([0x0b, 0x40, 0x04, 0x36, 0x04, 0x15, 0x04, 0x08, 0xa2, 0x00] : List UInt8)[i]? = some b) : vy_8 cX6_digest (190 + i) b := vy_in (n := 10) (by decide +kernel) h
theorem vyb_cX6_digest_20 {i : Nat} {b : UInt8} (h : ([0x23, 0x2a, 0xb4, 0x00, 0x19, 0x1d, 0x32, 0xb4, 0x00, 0x43] : List UInt8)[i]? = some b) : vy_8 cX6_digest (200 + i) b := vy_in (n := 10) (by decide +kernel) h
theorem vyb_cX6_digest_21 {i : Nat} {b : UInt8} (h : ([0x04, 0xa0, 0x00, 0x16, 0x1f, 0x2a, 0x1d, 0x15, 0x04, 0xb6] : List UInt8)[i]? = some b) : vy_8 cX6_digest (210 + i) b := vy_in (n := 10) (by decide +kernel) h
theorem vyb_cX6_digest_22 {i : Nat} {b : UInt8} (h : ([0x00, 0xc5, 0x85, 0xb8, 0x01, 0x0b, 0x40, 0x84, 0x04, 0x01] : List UInt8)[i]? = some b) : vy_8 cX6_digest (220 + i) b := vy_in (n := 10) (by decide +kernel) h
theorem vyb_cX6_digest_23 {i : Nat} {b : UInt8} (h : ([0xa7, 0xff, 0xdd, 0x84, 0x03, 0x01, 0xa7, 0xff, 0xc3, 0x03] : List UInt8)[i]? = some b) : vy_8 cX6_digest (230 + i) b := vy_in (n := 10) (by decide +kernel) h
theorem vyb_cX6_digest_24 {i : Nat} {b : UInt8} (h : ([0x3e, 0x1d, 0x10, 0x08, 0xa2, 0x00, 0x14, 0x1f, 0x2a, 0x1d] : List UInt8)[i]? = some b) : vy_8 cX6_digest (240 + i) b := vy_in (n := 10) (by decide +kernel) h
theorem vyb_cX6_digest_25 {i : Nat} {b : UInt8} (h : ([0xb6, 0x00, 0xf4, 0x85, 0xb8, 0x01, 0x0b, 0x40, 0x84, 0x03] : List UInt8)[i]? = some b) : vy_8 cX6_digest (250 + i) b := vy_in (n := 10) (by decide +kernel) h
theorem vyb_cX6_digest_26 {i : Nat} {b : UInt8} (h : ([0x01, 0xa7, 0xff, 0xec, 0x2a, 0xb4, 0x00, 0x10, 0xb6, 0x00] : List UInt8)[i]? = some b) : vy_8 cX6_digest (260 + i) b := vy_in (n := 10) (by decide +kernel) h
theorem vyb_cX6_digest_27 {i : Nat} {b : UInt8} (h : ([0x34, 0x04, 0x64, 0x3e, 0x1d, 0x9b, 0x00, 0x1d, 0x1f, 0x2a] : List UInt8)[i]? = some b) : vy_8 cX6_digest (270 + i) b := vy_in (n := 10) (by decide +kernel) h
theorem vyb_cX6_digest_28 {i : Nat} {b : UInt8} (h : ([0xb4, 0x00, 0x10, 0x1d, 0xb6, 0x00, 0x30, 0xc0, 0x00, 0x38] : List UInt8)[i]? = some b) : vy_8 cX6_digest (280 + i) b := vy_in (n := 10) (by decide +kernel) h
theorem vyb_cX6_digest_29 {i : Nat} {b : UInt8} (h : ([0xb6, 0x00, 0x3a, 0x85, 0xb8, 0x01, 0x0b, 0x40, 0x84, 0x03] : List UInt8)[i]? = some b) : vy_8 cX6_digest (290 + i) b := vy_in (n := 10) (by decide +kernel) h
theorem vyb_cX6_digest_30 {i : Nat} {b : UInt8} (h : ([0xff, 0xa7, 0xff, 0xe5, 0x2a, 0xb4, 0x00, 0x13, 0xb6, 0x00] : List UInt8)[i]? = some b) : vy_8 cX6_digest (300 + i) b := vy_in (n := 10) (by decide +kernel) h
theorem vyb_cX6_digest_31 {i : Nat} {b : UInt8} (h : ([0xf7, 0x4e, 0x2d, 0xb9, 0x00, 0xfb, 0x01, 0x00, 0x99, 0x00] : List UInt8)[i]? = some b) : vy_8 cX6_digest (310 + i) b := vy_in (n := 10) (by decide +kernel) h
theorem vyb_cX6_digest_32 {i : Nat} {b : UInt8} (h : ([0x1c, 0x2d, 0xb9, 0x00, 0xfe, 0x01, 0x00, 0xc0, 0x00, 0x38] : List UInt8)[i]? = some b) : vy_8 cX6_digest (320 + i) b := vy_in (n := 10) (by decide +kernel) h
theorem vyb_cX6_digest_33 {i : Nat} {b : UInt8} (h : ([0xb6, 0x00, 0x3a, 0x36, 0x04, 0x1f, 0x15, 0x04, 0x85, 0xb8] : List UInt8)[i]? = some b) : vy_8 cX6_digest (330 + i) b := vy_in (n := 10) (by decide +kernel) h
theorem vyb_cX6_digest_34 {i : Nat} {b : UInt8} (h : ([0x01, 0x0b, 0x40, 0xa7, 0xff, 0xe1, 0x1f, 0x2a, 0x03, 0xb6] : List UInt8)[i]? = some b) : vy_8 cX6_digest (340 + i) b := vy_in (n := 10) (by decide +kernel) h
theorem vyb_cX6_digest_35 {i : Nat} {b : UInt8} (h : ([0x00, 0xd1, 0xb8, 0x00, 0x57, 0x85, 0xb8, 0x01, 0x0b, 0x2a] : List UInt8)[i]? = some b) : vy_8 cX6_digest (350 + i) b := vy_in (n := 10) (by decide +kernel) h
theorem vyb_cX6_digest_36 {i : Nat} {b : UInt8} (h : ([0x04, 0xb6, 0x00, 0xd1, 0xb8, 0x00, 0x57, 0x85, 0xb8, 0x01] : List UInt8)[i]? = some b) : vy_8 cX6_digest (360 + i) b := vy_in (n := 10) (by decide +kernel) h
theorem vyb_cX6_digest_37 {i : Nat} {b : UInt8} (h : ([0x0b, 0x2a, 0xb6, 0x01, 0x04, 0xb8, 0x00, 0x57, 0x85, 0xb8] : List UInt8)[i]? = some b) : vy_8 cX6_digest (370 + i) b := vy_in (n := 10) (by decide +kernel) h
theorem vyb_cX6_digest_38 {i : Nat} {b : UInt8} (h : ([0x01, 0x0b, 0xad] : List UInt8)[i]? = some b) : vy_8 cX6_digest (380 + i) b := vy_in (n := 3) (by decide +kernel) h
theorem dX6_digest_0 : decode cX6_digest 0 = Except.ok (Instr.aload_n 0, 1) := vyd_42 (vyb_cX6_digest_0 (i := 0) rfl)
theorem dX6_digest_1 : decode cX6_digest 1 = Except.ok (Instr.iconst 0, 1) := vyd_3 (vyb_cX6_digest_0 (i := 1) rfl)
theorem dX6_digest_2 : decode cX6_digest 2 = Except.ok (Instr.putfield 37, 3) := vyd_181 (vyb_cX6_digest_0 (i := 2) rfl) (vyb_cX6_digest_0 (i := 3) rfl) (vyb_cX6_digest_0 (i := 4) rfl) rfl
theorem dX6_digest_5 : decode cX6_digest 5 = Except.ok (Instr.ldc2_w 265, 3) := vyd_20 (vyb_cX6_digest_0 (i := 5) rfl) (vyb_cX6_digest_0 (i := 6) rfl) (vyb_cX6_digest_0 (i := 7) rfl) rfl
theorem dX6_digest_8 : decode cX6_digest 8 = Except.ok (Instr.lstore_n 1, 1) := vyd_64 (vyb_cX6_digest_0 (i := 8) rfl)
theorem dX6_digest_9 : decode cX6_digest 9 = Except.ok (Instr.iconst 0, 1) := vyd_3 (vyb_cX6_digest_0 (i := 9) rfl)
theorem dX6_digest_10 : decode cX6_digest 10 = Except.ok (Instr.istore_n 3, 1) := vyd_62 (vyb_cX6_digest_1 (i := 0) rfl)
theorem dX6_digest_11 : decode cX6_digest 11 = Except.ok (Instr.iload_n 3, 1) := vyd_29 (vyb_cX6_digest_1 (i := 1) rfl)
theorem dX6_digest_12 : decode cX6_digest 12 = Except.ok (Instr.iconst 2, 1) := vyd_5 (vyb_cX6_digest_1 (i := 2) rfl)
theorem dX6_digest_13 : decode cX6_digest 13 = Except.ok (Instr.if_icmp .ge 122, 3) := vyd_162 (vyb_cX6_digest_1 (i := 3) rfl) (vyb_cX6_digest_1 (i := 4) rfl) (vyb_cX6_digest_1 (i := 5) rfl) (by decide +kernel)
theorem dX6_digest_16 : decode cX6_digest 16 = Except.ok (Instr.iconst 0, 1) := vyd_3 (vyb_cX6_digest_1 (i := 6) rfl)
theorem dX6_digest_17 : decode cX6_digest 17 = Except.ok (Instr.istore 4, 2) := vyd_54 (vyb_cX6_digest_1 (i := 7) rfl) (vyb_cX6_digest_1 (i := 8) rfl) rfl
theorem dX6_digest_19 : decode cX6_digest 19 = Except.ok (Instr.iload 4, 2) := vyd_21 (vyb_cX6_digest_1 (i := 9) rfl) (vyb_cX6_digest_2 (i := 0) rfl) rfl
theorem dX6_digest_21 : decode cX6_digest 21 = Except.ok (Instr.iconst 4, 1) := vyd_7 (vyb_cX6_digest_2 (i := 1) rfl)
theorem dX6_digest_22 : decode cX6_digest 22 = Except.ok (Instr.if_icmp .ge 22, 3) := vyd_162 (vyb_cX6_digest_2 (i := 2) rfl) (vyb_cX6_digest_2 (i := 3) rfl) (vyb_cX6_digest_2 (i := 4) rfl) (by decide +kernel)
theorem dX6_digest_25 : decode cX6_digest 25 = Except.ok (Instr.lload_n 1, 1) := vyd_31 (vyb_cX6_digest_2 (i := 5) rfl)
theorem dX6_digest_26 : decode cX6_digest 26 = Except.ok (Instr.aload_n 0, 1) := vyd_42 (vyb_cX6_digest_2 (i := 6) rfl)
theorem dX6_digest_27 : decode cX6_digest 27 = Except.ok (Instr.iload_n 3, 1) := vyd_29 (vyb_cX6_digest_2 (i := 7) rfl)
theorem dX6_digest_28 : decode cX6_digest 28 = Except.ok (Instr.iload 4, 2) := vyd_21 (vyb_cX6_digest_2 (i := 8) rfl) (vyb_cX6_digest_2 (i := 9) rfl) rfl
theorem dX6_digest_30 : decode cX6_digest 30 = Except.ok (Instr.invokevirtual 206, 3) := vyd_182 (vyb_cX6_digest_3 (i := 0) rfl) (vyb_cX6_digest_3 (i := 1) rfl) (vyb_cX6_digest_3 (i := 2) rfl) rfl
theorem dX6_digest_33 : decode cX6_digest 33 = Except.ok (Instr.i2l, 1) := vyd_133 (vyb_cX6_digest_3 (i := 3) rfl)
theorem dX6_digest_34 : decode cX6_digest 34 = Except.ok (Instr.invokestatic 267, 3) := vyd_184 (vyb_cX6_digest_3 (i := 4) rfl) (vyb_cX6_digest_3 (i := 5) rfl) (vyb_cX6_digest_3 (i := 6) rfl) rfl
theorem dX6_digest_37 : decode cX6_digest 37 = Except.ok (Instr.lstore_n 1, 1) := vyd_64 (vyb_cX6_digest_3 (i := 7) rfl)
theorem dX6_digest_38 : decode cX6_digest 38 = .ok (.iinc 4 1, 3) := by decide +kernel
theorem dX6_digest_41 : decode cX6_digest 41 = Except.ok (Instr.goto (-22), 3) := vyd_167 (vyb_cX6_digest_4 (i := 1) rfl) (vyb_cX6_digest_4 (i := 2) rfl) (vyb_cX6_digest_4 (i := 3) rfl) (by decide +kernel)
theorem dX6_digest_44 : decode cX6_digest 44 = Except.ok (Instr.iconst 0, 1) := vyd_3 (vyb_cX6_digest_4 (i := 4) rfl)
theorem dX6_digest_45 : decode cX6_digest 45 = Except.ok (Instr.istore 4, 2) := vyd_54 (vyb_cX6_digest_4 (i := 5) rfl) (vyb_cX6_digest_4 (i := 6) rfl) rfl
theorem dX6_digest_47 : decode cX6_digest 47 = Except.ok (Instr.iload 4, 2) := vyd_21 (vyb_cX6_digest_4 (i := 7) rfl) (vyb_cX6_digest_4 (i := 8) rfl) rfl
theorem dX6_digest_49 : decode cX6_digest 49 = Except.ok (Instr.bipush 6, 2) := vyd_16 (vyb_cX6_digest_4 (i := 9) rfl) (vyb_cX6_digest_5 (i := 0) rfl) (by decide +kernel)
theorem dX6_digest_51 : decode cX6_digest 51 = Except.ok (Instr.if_icmp .ge 22, 3) := vyd_162 (vyb_cX6_digest_5 (i := 1) rfl) (vyb_cX6_digest_5 (i := 2) rfl) (vyb_cX6_digest_5 (i := 3) rfl) (by decide +kernel)
theorem dX6_digest_54 : decode cX6_digest 54 = Except.ok (Instr.lload_n 1, 1) := vyd_31 (vyb_cX6_digest_5 (i := 4) rfl)
theorem dX6_digest_55 : decode cX6_digest 55 = Except.ok (Instr.aload_n 0, 1) := vyd_42 (vyb_cX6_digest_5 (i := 5) rfl)
theorem dX6_digest_56 : decode cX6_digest 56 = Except.ok (Instr.iload_n 3, 1) := vyd_29 (vyb_cX6_digest_5 (i := 6) rfl)
theorem dX6_digest_57 : decode cX6_digest 57 = Except.ok (Instr.iload 4, 2) := vyd_21 (vyb_cX6_digest_5 (i := 7) rfl) (vyb_cX6_digest_5 (i := 8) rfl) rfl
theorem dX6_digest_59 : decode cX6_digest 59 = Except.ok (Instr.invokevirtual 203, 3) := vyd_182 (vyb_cX6_digest_5 (i := 9) rfl) (vyb_cX6_digest_6 (i := 0) rfl) (vyb_cX6_digest_6 (i := 1) rfl) rfl
theorem dX6_digest_62 : decode cX6_digest 62 = Except.ok (Instr.i2l, 1) := vyd_133 (vyb_cX6_digest_6 (i := 2) rfl)
theorem dX6_digest_63 : decode cX6_digest 63 = Except.ok (Instr.invokestatic 267, 3) := vyd_184 (vyb_cX6_digest_6 (i := 3) rfl) (vyb_cX6_digest_6 (i := 4) rfl) (vyb_cX6_digest_6 (i := 5) rfl) rfl
theorem dX6_digest_66 : decode cX6_digest 66 = Except.ok (Instr.lstore_n 1, 1) := vyd_64 (vyb_cX6_digest_6 (i := 6) rfl)
theorem dX6_digest_67 : decode cX6_digest 67 = .ok (.iinc 4 1, 3) := by decide +kernel
theorem dX6_digest_70 : decode cX6_digest 70 = Except.ok (Instr.goto (-23), 3) := vyd_167 (vyb_cX6_digest_7 (i := 0) rfl) (vyb_cX6_digest_7 (i := 1) rfl) (vyb_cX6_digest_7 (i := 2) rfl) (by decide +kernel)
theorem dX6_digest_73 : decode cX6_digest 73 = Except.ok (Instr.iconst 0, 1) := vyd_3 (vyb_cX6_digest_7 (i := 3) rfl)
theorem dX6_digest_74 : decode cX6_digest 74 = Except.ok (Instr.istore 4, 2) := vyd_54 (vyb_cX6_digest_7 (i := 4) rfl) (vyb_cX6_digest_7 (i := 5) rfl) rfl
theorem dX6_digest_76 : decode cX6_digest 76 = Except.ok (Instr.iload 4, 2) := vyd_21 (vyb_cX6_digest_7 (i := 6) rfl) (vyb_cX6_digest_7 (i := 7) rfl) rfl
theorem dX6_digest_78 : decode cX6_digest 78 = Except.ok (Instr.aload_n 0, 1) := vyd_42 (vyb_cX6_digest_7 (i := 8) rfl)
theorem dX6_digest_79 : decode cX6_digest 79 = Except.ok (Instr.iload_n 3, 1) := vyd_29 (vyb_cX6_digest_7 (i := 9) rfl)
theorem dX6_digest_80 : decode cX6_digest 80 = Except.ok (Instr.invokevirtual 91, 3) := vyd_182 (vyb_cX6_digest_8 (i := 0) rfl) (vyb_cX6_digest_8 (i := 1) rfl) (vyb_cX6_digest_8 (i := 2) rfl) rfl
theorem dX6_digest_83 : decode cX6_digest 83 = Except.ok (Instr.if_icmp .ge 22, 3) := vyd_162 (vyb_cX6_digest_8 (i := 3) rfl) (vyb_cX6_digest_8 (i := 4) rfl) (vyb_cX6_digest_8 (i := 5) rfl) (by decide +kernel)
theorem dX6_digest_86 : decode cX6_digest 86 = Except.ok (Instr.lload_n 1, 1) := vyd_31 (vyb_cX6_digest_8 (i := 6) rfl)
theorem dX6_digest_87 : decode cX6_digest 87 = Except.ok (Instr.aload_n 0, 1) := vyd_42 (vyb_cX6_digest_8 (i := 7) rfl)
theorem dX6_digest_88 : decode cX6_digest 88 = Except.ok (Instr.iload_n 3, 1) := vyd_29 (vyb_cX6_digest_8 (i := 8) rfl)
theorem dX6_digest_89 : decode cX6_digest 89 = Except.ok (Instr.iload 4, 2) := vyd_21 (vyb_cX6_digest_8 (i := 9) rfl) (vyb_cX6_digest_9 (i := 0) rfl) rfl
theorem dX6_digest_91 : decode cX6_digest 91 = Except.ok (Instr.invokevirtual 131, 3) := vyd_182 (vyb_cX6_digest_9 (i := 1) rfl) (vyb_cX6_digest_9 (i := 2) rfl) (vyb_cX6_digest_9 (i := 3) rfl) rfl
theorem dX6_digest_94 : decode cX6_digest 94 = Except.ok (Instr.i2l, 1) := vyd_133 (vyb_cX6_digest_9 (i := 4) rfl)
theorem dX6_digest_95 : decode cX6_digest 95 = Except.ok (Instr.invokestatic 267, 3) := vyd_184 (vyb_cX6_digest_9 (i := 5) rfl) (vyb_cX6_digest_9 (i := 6) rfl) (vyb_cX6_digest_9 (i := 7) rfl) rfl
theorem dX6_digest_98 : decode cX6_digest 98 = Except.ok (Instr.lstore_n 1, 1) := vyd_64 (vyb_cX6_digest_9 (i := 8) rfl)
theorem dX6_digest_99 : decode cX6_digest 99 = .ok (.iinc 4 1, 3) := by decide +kernel
theorem dX6_digest_102 : decode cX6_digest 102 = Except.ok (Instr.goto (-26), 3) := vyd_167 (vyb_cX6_digest_10 (i := 2) rfl) (vyb_cX6_digest_10 (i := 3) rfl) (vyb_cX6_digest_10 (i := 4) rfl) (by decide +kernel)
theorem dX6_digest_105 : decode cX6_digest 105 = Except.ok (Instr.lload_n 1, 1) := vyd_31 (vyb_cX6_digest_10 (i := 5) rfl)
theorem dX6_digest_106 : decode cX6_digest 106 = Except.ok (Instr.aload_n 0, 1) := vyd_42 (vyb_cX6_digest_10 (i := 6) rfl)
theorem dX6_digest_107 : decode cX6_digest 107 = Except.ok (Instr.iload_n 3, 1) := vyd_29 (vyb_cX6_digest_10 (i := 7) rfl)
theorem dX6_digest_108 : decode cX6_digest 108 = Except.ok (Instr.iconst 1, 1) := vyd_4 (vyb_cX6_digest_10 (i := 8) rfl)
theorem dX6_digest_109 : decode cX6_digest 109 = Except.ok (Instr.invokevirtual 231, 3) := vyd_182 (vyb_cX6_digest_10 (i := 9) rfl) (vyb_cX6_digest_11 (i := 0) rfl) (vyb_cX6_digest_11 (i := 1) rfl) rfl
theorem dX6_digest_112 : decode cX6_digest 112 = Except.ok (Instr.invokevirtual 270, 3) := vyd_182 (vyb_cX6_digest_11 (i := 2) rfl) (vyb_cX6_digest_11 (i := 3) rfl) (vyb_cX6_digest_11 (i := 4) rfl) rfl
theorem dX6_digest_115 : decode cX6_digest 115 = Except.ok (Instr.i2l, 1) := vyd_133 (vyb_cX6_digest_11 (i := 5) rfl)
theorem dX6_digest_116 : decode cX6_digest 116 = Except.ok (Instr.invokestatic 267, 3) := vyd_184 (vyb_cX6_digest_11 (i := 6) rfl) (vyb_cX6_digest_11 (i := 7) rfl) (vyb_cX6_digest_11 (i := 8) rfl) rfl
theorem dX6_digest_119 : decode cX6_digest 119 = Except.ok (Instr.aload_n 0, 1) := vyd_42 (vyb_cX6_digest_11 (i := 9) rfl)
theorem dX6_digest_120 : decode cX6_digest 120 = Except.ok (Instr.iload_n 3, 1) := vyd_29 (vyb_cX6_digest_12 (i := 0) rfl)
theorem dX6_digest_121 : decode cX6_digest 121 = Except.ok (Instr.invokevirtual 238, 3) := vyd_182 (vyb_cX6_digest_12 (i := 1) rfl) (vyb_cX6_digest_12 (i := 2) rfl) (vyb_cX6_digest_12 (i := 3) rfl) rfl
theorem dX6_digest_124 : decode cX6_digest 124 = Except.ok (Instr.i2l, 1) := vyd_133 (vyb_cX6_digest_12 (i := 4) rfl)
theorem dX6_digest_125 : decode cX6_digest 125 = Except.ok (Instr.invokestatic 267, 3) := vyd_184 (vyb_cX6_digest_12 (i := 5) rfl) (vyb_cX6_digest_12 (i := 6) rfl) (vyb_cX6_digest_12 (i := 7) rfl) rfl
theorem dX6_digest_128 : decode cX6_digest 128 = Except.ok (Instr.lstore_n 1, 1) := vyd_64 (vyb_cX6_digest_12 (i := 8) rfl)
theorem dX6_digest_129 : decode cX6_digest 129 = .ok (.iinc 3 1, 3) := by decide +kernel
theorem dX6_digest_132 : decode cX6_digest 132 = Except.ok (Instr.goto (-121), 3) := vyd_167 (vyb_cX6_digest_13 (i := 2) rfl) (vyb_cX6_digest_13 (i := 3) rfl) (vyb_cX6_digest_13 (i := 4) rfl) (by decide +kernel)
theorem dX6_digest_135 : decode cX6_digest 135 = Except.ok (Instr.iconst 0, 1) := vyd_3 (vyb_cX6_digest_13 (i := 5) rfl)
theorem dX6_digest_136 : decode cX6_digest 136 = Except.ok (Instr.istore_n 3, 1) := vyd_62 (vyb_cX6_digest_13 (i := 6) rfl)
theorem dX6_digest_137 : decode cX6_digest 137 = Except.ok (Instr.iload_n 3, 1) := vyd_29 (vyb_cX6_digest_13 (i := 7) rfl)
theorem dX6_digest_138 : decode cX6_digest 138 = Except.ok (Instr.bipush 9, 2) := vyd_16 (vyb_cX6_digest_13 (i := 8) rfl) (vyb_cX6_digest_13 (i := 9) rfl) (by decide +kernel)
theorem dX6_digest_140 : decode cX6_digest 140 = Except.ok (Instr.if_icmp .gt 33, 3) := vyd_163 (vyb_cX6_digest_14 (i := 0) rfl) (vyb_cX6_digest_14 (i := 1) rfl) (vyb_cX6_digest_14 (i := 2) rfl) (by decide +kernel)
theorem dX6_digest_143 : decode cX6_digest 143 = Except.ok (Instr.lload_n 1, 1) := vyd_31 (vyb_cX6_digest_14 (i := 3) rfl)
theorem dX6_digest_144 : decode cX6_digest 144 = Except.ok (Instr.aload_n 0, 1) := vyd_42 (vyb_cX6_digest_14 (i := 4) rfl)
theorem dX6_digest_145 : decode cX6_digest 145 = Except.ok (Instr.iconst 1, 1) := vyd_4 (vyb_cX6_digest_14 (i := 5) rfl)
theorem dX6_digest_146 : decode cX6_digest 146 = Except.ok (Instr.iload_n 3, 1) := vyd_29 (vyb_cX6_digest_14 (i := 6) rfl)
theorem dX6_digest_147 : decode cX6_digest 147 = Except.ok (Instr.iconst 0, 1) := vyd_3 (vyb_cX6_digest_14 (i := 7) rfl)
theorem dX6_digest_148 : decode cX6_digest 148 = Except.ok (Instr.invokevirtual 160, 3) := vyd_182 (vyb_cX6_digest_14 (i := 8) rfl) (vyb_cX6_digest_14 (i := 9) rfl) (vyb_cX6_digest_15 (i := 0) rfl) rfl
theorem dX6_digest_151 : decode cX6_digest 151 = Except.ok (Instr.i2l, 1) := vyd_133 (vyb_cX6_digest_15 (i := 1) rfl)
theorem dX6_digest_152 : decode cX6_digest 152 = Except.ok (Instr.invokestatic 267, 3) := vyd_184 (vyb_cX6_digest_15 (i := 2) rfl) (vyb_cX6_digest_15 (i := 3) rfl) (vyb_cX6_digest_15 (i := 4) rfl) rfl
theorem dX6_digest_155 : decode cX6_digest 155 = Except.ok (Instr.aload_n 0, 1) := vyd_42 (vyb_cX6_digest_15 (i := 5) rfl)
theorem dX6_digest_156 : decode cX6_digest 156 = Except.ok (Instr.iconst 1, 1) := vyd_4 (vyb_cX6_digest_15 (i := 6) rfl)
theorem dX6_digest_157 : decode cX6_digest 157 = Except.ok (Instr.iload_n 3, 1) := vyd_29 (vyb_cX6_digest_15 (i := 7) rfl)
theorem dX6_digest_158 : decode cX6_digest 158 = Except.ok (Instr.iconst 1, 1) := vyd_4 (vyb_cX6_digest_15 (i := 8) rfl)
theorem dX6_digest_159 : decode cX6_digest 159 = Except.ok (Instr.invokevirtual 160, 3) := vyd_182 (vyb_cX6_digest_15 (i := 9) rfl) (vyb_cX6_digest_16 (i := 0) rfl) (vyb_cX6_digest_16 (i := 1) rfl) rfl
theorem dX6_digest_162 : decode cX6_digest 162 = Except.ok (Instr.i2l, 1) := vyd_133 (vyb_cX6_digest_16 (i := 2) rfl)
theorem dX6_digest_163 : decode cX6_digest 163 = Except.ok (Instr.invokestatic 267, 3) := vyd_184 (vyb_cX6_digest_16 (i := 3) rfl) (vyb_cX6_digest_16 (i := 4) rfl) (vyb_cX6_digest_16 (i := 5) rfl) rfl
theorem dX6_digest_166 : decode cX6_digest 166 = Except.ok (Instr.lstore_n 1, 1) := vyd_64 (vyb_cX6_digest_16 (i := 6) rfl)
theorem dX6_digest_167 : decode cX6_digest 167 = .ok (.iinc 3 1, 3) := by decide +kernel
theorem dX6_digest_170 : decode cX6_digest 170 = Except.ok (Instr.goto (-33), 3) := vyd_167 (vyb_cX6_digest_17 (i := 0) rfl) (vyb_cX6_digest_17 (i := 1) rfl) (vyb_cX6_digest_17 (i := 2) rfl) (by decide +kernel)
theorem dX6_digest_173 : decode cX6_digest 173 = Except.ok (Instr.iconst 0, 1) := vyd_3 (vyb_cX6_digest_17 (i := 3) rfl)
theorem dX6_digest_174 : decode cX6_digest 174 = Except.ok (Instr.istore_n 3, 1) := vyd_62 (vyb_cX6_digest_17 (i := 4) rfl)
theorem dX6_digest_175 : decode cX6_digest 175 = Except.ok (Instr.iload_n 3, 1) := vyd_29 (vyb_cX6_digest_17 (i := 5) rfl)
theorem dX6_digest_176 : decode cX6_digest 176 = Except.ok (Instr.iconst 2, 1) := vyd_5 (vyb_cX6_digest_17 (i := 6) rfl)
theorem dX6_digest_177 : decode cX6_digest 177 = Except.ok (Instr.if_icmp .ge 62, 3) := vyd_162 (vyb_cX6_digest_17 (i := 7) rfl) (vyb_cX6_digest_17 (i := 8) rfl) (vyb_cX6_digest_17 (i := 9) rfl) (by decide +kernel)
theorem dX6_digest_180 : decode cX6_digest 180 = Except.ok (Instr.lload_n 1, 1) := vyd_31 (vyb_cX6_digest_18 (i := 0) rfl)
theorem dX6_digest_181 : decode cX6_digest 181 = Except.ok (Instr.aload_n 0, 1) := vyd_42 (vyb_cX6_digest_18 (i := 1) rfl)
theorem dX6_digest_182 : decode cX6_digest 182 = Except.ok (Instr.iload_n 3, 1) := vyd_29 (vyb_cX6_digest_18 (i := 2) rfl)
theorem dX6_digest_183 : decode cX6_digest 183 = Except.ok (Instr.iconst 0, 1) := vyd_3 (vyb_cX6_digest_18 (i := 3) rfl)
theorem dX6_digest_184 : decode cX6_digest 184 = Except.ok (Instr.invokevirtual 197, 3) := vyd_182 (vyb_cX6_digest_18 (i := 4) rfl) (vyb_cX6_digest_18 (i := 5) rfl) (vyb_cX6_digest_18 (i := 6) rfl) rfl
theorem dX6_digest_187 : decode cX6_digest 187 = Except.ok (Instr.i2l, 1) := vyd_133 (vyb_cX6_digest_18 (i := 7) rfl)
theorem dX6_digest_188 : decode cX6_digest 188 = Except.ok (Instr.invokestatic 267, 3) := vyd_184 (vyb_cX6_digest_18 (i := 8) rfl) (vyb_cX6_digest_18 (i := 9) rfl) (vyb_cX6_digest_19 (i := 0) rfl) rfl
theorem dX6_digest_191 : decode cX6_digest 191 = Except.ok (Instr.lstore_n 1, 1) := vyd_64 (vyb_cX6_digest_19 (i := 1) rfl)
theorem dX6_digest_192 : decode cX6_digest 192 = Except.ok (Instr.iconst 1, 1) := vyd_4 (vyb_cX6_digest_19 (i := 2) rfl)
theorem dX6_digest_193 : decode cX6_digest 193 = Except.ok (Instr.istore 4, 2) := vyd_54 (vyb_cX6_digest_19 (i := 3) rfl) (vyb_cX6_digest_19 (i := 4) rfl) rfl
theorem dX6_digest_195 : decode cX6_digest 195 = Except.ok (Instr.iload 4, 2) := vyd_21 (vyb_cX6_digest_19 (i := 5) rfl) (vyb_cX6_digest_19 (i := 6) rfl) rfl
theorem dX6_digest_197 : decode cX6_digest 197 = Except.ok (Instr.iconst 5, 1) := vyd_8 (vyb_cX6_digest_19 (i := 7) rfl)
theorem dX6_digest_198 : decode cX6_digest 198 = Except.ok (Instr.if_icmp .ge 35, 3) := vyd_162 (vyb_cX6_digest_19 (i := 8) rfl) (vyb_cX6_digest_19 (i := 9) rfl) (vyb_cX6_digest_20 (i := 0) rfl) (by decide +kernel)
theorem dX6_digest_201 : decode cX6_digest 201 = Except.ok (Instr.aload_n 0, 1) := vyd_42 (vyb_cX6_digest_20 (i := 1) rfl)
theorem dX6_digest_202 : decode cX6_digest 202 = Except.ok (Instr.getfield 25, 3) := vyd_180 (vyb_cX6_digest_20 (i := 2) rfl) (vyb_cX6_digest_20 (i := 3) rfl) (vyb_cX6_digest_20 (i := 4) rfl) rfl
theorem dX6_digest_205 : decode cX6_digest 205 = Except.ok (Instr.iload_n 3, 1) := vyd_29 (vyb_cX6_digest_20 (i := 5) rfl)
theorem dX6_digest_206 : decode cX6_digest 206 = Except.ok (Instr.aaload, 1) := vyd_50 (vyb_cX6_digest_20 (i := 6) rfl)
theorem dX6_digest_207 : decode cX6_digest 207 = Except.ok (Instr.getfield 67, 3) := vyd_180 (vyb_cX6_digest_20 (i := 7) rfl) (vyb_cX6_digest_20 (i := 8) rfl) (vyb_cX6_digest_20 (i := 9) rfl) rfl
theorem dX6_digest_210 : decode cX6_digest 210 = Except.ok (Instr.iconst 1, 1) := vyd_4 (vyb_cX6_digest_21 (i := 0) rfl)
theorem dX6_digest_211 : decode cX6_digest 211 = Except.ok (Instr.if_icmp .ne 22, 3) := vyd_160 (vyb_cX6_digest_21 (i := 1) rfl) (vyb_cX6_digest_21 (i := 2) rfl) (vyb_cX6_digest_21 (i := 3) rfl) (by decide +kernel)
theorem dX6_digest_214 : decode cX6_digest 214 = Except.ok (Instr.lload_n 1, 1) := vyd_31 (vyb_cX6_digest_21 (i := 4) rfl)
theorem dX6_digest_215 : decode cX6_digest 215 = Except.ok (Instr.aload_n 0, 1) := vyd_42 (vyb_cX6_digest_21 (i := 5) rfl)
theorem dX6_digest_216 : decode cX6_digest 216 = Except.ok (Instr.iload_n 3, 1) := vyd_29 (vyb_cX6_digest_21 (i := 6) rfl)
theorem dX6_digest_217 : decode cX6_digest 217 = Except.ok (Instr.iload 4, 2) := vyd_21 (vyb_cX6_digest_21 (i := 7) rfl) (vyb_cX6_digest_21 (i := 8) rfl) rfl
theorem dX6_digest_219 : decode cX6_digest 219 = Except.ok (Instr.invokevirtual 197, 3) := vyd_182 (vyb_cX6_digest_21 (i := 9) rfl) (vyb_cX6_digest_22 (i := 0) rfl) (vyb_cX6_digest_22 (i := 1) rfl) rfl
theorem dX6_digest_222 : decode cX6_digest 222 = Except.ok (Instr.i2l, 1) := vyd_133 (vyb_cX6_digest_22 (i := 2) rfl)
theorem dX6_digest_223 : decode cX6_digest 223 = Except.ok (Instr.invokestatic 267, 3) := vyd_184 (vyb_cX6_digest_22 (i := 3) rfl) (vyb_cX6_digest_22 (i := 4) rfl) (vyb_cX6_digest_22 (i := 5) rfl) rfl
theorem dX6_digest_226 : decode cX6_digest 226 = Except.ok (Instr.lstore_n 1, 1) := vyd_64 (vyb_cX6_digest_22 (i := 6) rfl)
theorem dX6_digest_227 : decode cX6_digest 227 = .ok (.iinc 4 1, 3) := by decide +kernel
theorem dX6_digest_230 : decode cX6_digest 230 = Except.ok (Instr.goto (-35), 3) := vyd_167 (vyb_cX6_digest_23 (i := 0) rfl) (vyb_cX6_digest_23 (i := 1) rfl) (vyb_cX6_digest_23 (i := 2) rfl) (by decide +kernel)
theorem dX6_digest_233 : decode cX6_digest 233 = .ok (.iinc 3 1, 3) := by decide +kernel
theorem dX6_digest_236 : decode cX6_digest 236 = Except.ok (Instr.goto (-61), 3) := vyd_167 (vyb_cX6_digest_23 (i := 6) rfl) (vyb_cX6_digest_23 (i := 7) rfl) (vyb_cX6_digest_23 (i := 8) rfl) (by decide +kernel)
theorem dX6_digest_239 : decode cX6_digest 239 = Except.ok (Instr.iconst 0, 1) := vyd_3 (vyb_cX6_digest_23 (i := 9) rfl)
theorem dX6_digest_240 : decode cX6_digest 240 = Except.ok (Instr.istore_n 3, 1) := vyd_62 (vyb_cX6_digest_24 (i := 0) rfl)
theorem dX6_digest_241 : decode cX6_digest 241 = Except.ok (Instr.iload_n 3, 1) := vyd_29 (vyb_cX6_digest_24 (i := 1) rfl)
theorem dX6_digest_242 : decode cX6_digest 242 = Except.ok (Instr.bipush 8, 2) := vyd_16 (vyb_cX6_digest_24 (i := 2) rfl) (vyb_cX6_digest_24 (i := 3) rfl) (by decide +kernel)
theorem dX6_digest_244 : decode cX6_digest 244 = Except.ok (Instr.if_icmp .ge 20, 3) := vyd_162 (vyb_cX6_digest_24 (i := 4) rfl) (vyb_cX6_digest_24 (i := 5) rfl) (vyb_cX6_digest_24 (i := 6) rfl) (by decide +kernel)
theorem dX6_digest_247 : decode cX6_digest 247 = Except.ok (Instr.lload_n 1, 1) := vyd_31 (vyb_cX6_digest_24 (i := 7) rfl)
theorem dX6_digest_248 : decode cX6_digest 248 = Except.ok (Instr.aload_n 0, 1) := vyd_42 (vyb_cX6_digest_24 (i := 8) rfl)
theorem dX6_digest_249 : decode cX6_digest 249 = Except.ok (Instr.iload_n 3, 1) := vyd_29 (vyb_cX6_digest_24 (i := 9) rfl)
theorem dX6_digest_250 : decode cX6_digest 250 = Except.ok (Instr.invokevirtual 244, 3) := vyd_182 (vyb_cX6_digest_25 (i := 0) rfl) (vyb_cX6_digest_25 (i := 1) rfl) (vyb_cX6_digest_25 (i := 2) rfl) rfl
theorem dX6_digest_253 : decode cX6_digest 253 = Except.ok (Instr.i2l, 1) := vyd_133 (vyb_cX6_digest_25 (i := 3) rfl)
theorem dX6_digest_254 : decode cX6_digest 254 = Except.ok (Instr.invokestatic 267, 3) := vyd_184 (vyb_cX6_digest_25 (i := 4) rfl) (vyb_cX6_digest_25 (i := 5) rfl) (vyb_cX6_digest_25 (i := 6) rfl) rfl
theorem dX6_digest_257 : decode cX6_digest 257 = Except.ok (Instr.lstore_n 1, 1) := vyd_64 (vyb_cX6_digest_25 (i := 7) rfl)
theorem dX6_digest_258 : decode cX6_digest 258 = .ok (.iinc 3 1, 3) := by decide +kernel
theorem dX6_digest_261 : decode cX6_digest 261 = Except.ok (Instr.goto (-20), 3) := vyd_167 (vyb_cX6_digest_26 (i := 1) rfl) (vyb_cX6_digest_26 (i := 2) rfl) (vyb_cX6_digest_26 (i := 3) rfl) (by decide +kernel)
theorem dX6_digest_264 : decode cX6_digest 264 = Except.ok (Instr.aload_n 0, 1) := vyd_42 (vyb_cX6_digest_26 (i := 4) rfl)
theorem dX6_digest_265 : decode cX6_digest 265 = Except.ok (Instr.getfield 16, 3) := vyd_180 (vyb_cX6_digest_26 (i := 5) rfl) (vyb_cX6_digest_26 (i := 6) rfl) (vyb_cX6_digest_26 (i := 7) rfl) rfl
theorem dX6_digest_268 : decode cX6_digest 268 = Except.ok (Instr.invokevirtual 52, 3) := vyd_182 (vyb_cX6_digest_26 (i := 8) rfl) (vyb_cX6_digest_26 (i := 9) rfl) (vyb_cX6_digest_27 (i := 0) rfl) rfl
theorem dX6_digest_271 : decode cX6_digest 271 = Except.ok (Instr.iconst 1, 1) := vyd_4 (vyb_cX6_digest_27 (i := 1) rfl)
theorem dX6_digest_272 : decode cX6_digest 272 = Except.ok (Instr.isub, 1) := vyd_100 (vyb_cX6_digest_27 (i := 2) rfl)
theorem dX6_digest_273 : decode cX6_digest 273 = Except.ok (Instr.istore_n 3, 1) := vyd_62 (vyb_cX6_digest_27 (i := 3) rfl)
theorem dX6_digest_274 : decode cX6_digest 274 = Except.ok (Instr.iload_n 3, 1) := vyd_29 (vyb_cX6_digest_27 (i := 4) rfl)
theorem dX6_digest_275 : decode cX6_digest 275 = Except.ok (Instr.ifCond .lt 29, 3) := vyd_155 (vyb_cX6_digest_27 (i := 5) rfl) (vyb_cX6_digest_27 (i := 6) rfl) (vyb_cX6_digest_27 (i := 7) rfl) (by decide +kernel)
theorem dX6_digest_278 : decode cX6_digest 278 = Except.ok (Instr.lload_n 1, 1) := vyd_31 (vyb_cX6_digest_27 (i := 8) rfl)
theorem dX6_digest_279 : decode cX6_digest 279 = Except.ok (Instr.aload_n 0, 1) := vyd_42 (vyb_cX6_digest_27 (i := 9) rfl)
theorem dX6_digest_280 : decode cX6_digest 280 = Except.ok (Instr.getfield 16, 3) := vyd_180 (vyb_cX6_digest_28 (i := 0) rfl) (vyb_cX6_digest_28 (i := 1) rfl) (vyb_cX6_digest_28 (i := 2) rfl) rfl
theorem dX6_digest_283 : decode cX6_digest 283 = Except.ok (Instr.iload_n 3, 1) := vyd_29 (vyb_cX6_digest_28 (i := 3) rfl)
theorem dX6_digest_284 : decode cX6_digest 284 = Except.ok (Instr.invokevirtual 48, 3) := vyd_182 (vyb_cX6_digest_28 (i := 4) rfl) (vyb_cX6_digest_28 (i := 5) rfl) (vyb_cX6_digest_28 (i := 6) rfl) rfl
theorem dX6_digest_287 : decode cX6_digest 287 = Except.ok (Instr.checkcast 56, 3) := vyd_192 (vyb_cX6_digest_28 (i := 7) rfl) (vyb_cX6_digest_28 (i := 8) rfl) (vyb_cX6_digest_28 (i := 9) rfl) rfl
theorem dX6_digest_290 : decode cX6_digest 290 = Except.ok (Instr.invokevirtual 58, 3) := vyd_182 (vyb_cX6_digest_29 (i := 0) rfl) (vyb_cX6_digest_29 (i := 1) rfl) (vyb_cX6_digest_29 (i := 2) rfl) rfl
theorem dX6_digest_293 : decode cX6_digest 293 = Except.ok (Instr.i2l, 1) := vyd_133 (vyb_cX6_digest_29 (i := 3) rfl)
theorem dX6_digest_294 : decode cX6_digest 294 = Except.ok (Instr.invokestatic 267, 3) := vyd_184 (vyb_cX6_digest_29 (i := 4) rfl) (vyb_cX6_digest_29 (i := 5) rfl) (vyb_cX6_digest_29 (i := 6) rfl) rfl
theorem dX6_digest_297 : decode cX6_digest 297 = Except.ok (Instr.lstore_n 1, 1) := vyd_64 (vyb_cX6_digest_29 (i := 7) rfl)
theorem dX6_digest_298 : decode cX6_digest 298 = .ok (.iinc 3 (-1), 3) := by decide +kernel
theorem dX6_digest_301 : decode cX6_digest 301 = Except.ok (Instr.goto (-27), 3) := vyd_167 (vyb_cX6_digest_30 (i := 1) rfl) (vyb_cX6_digest_30 (i := 2) rfl) (vyb_cX6_digest_30 (i := 3) rfl) (by decide +kernel)
theorem dX6_digest_304 : decode cX6_digest 304 = Except.ok (Instr.aload_n 0, 1) := vyd_42 (vyb_cX6_digest_30 (i := 4) rfl)
theorem dX6_digest_305 : decode cX6_digest 305 = Except.ok (Instr.getfield 19, 3) := vyd_180 (vyb_cX6_digest_30 (i := 5) rfl) (vyb_cX6_digest_30 (i := 6) rfl) (vyb_cX6_digest_30 (i := 7) rfl) rfl
theorem dX6_digest_308 : decode cX6_digest 308 = Except.ok (Instr.invokevirtual 247, 3) := vyd_182 (vyb_cX6_digest_30 (i := 8) rfl) (vyb_cX6_digest_30 (i := 9) rfl) (vyb_cX6_digest_31 (i := 0) rfl) rfl
theorem dX6_digest_311 : decode cX6_digest 311 = Except.ok (Instr.astore_n 3, 1) := vyd_78 (vyb_cX6_digest_31 (i := 1) rfl)
theorem dX6_digest_312 : decode cX6_digest 312 = Except.ok (Instr.aload_n 3, 1) := vyd_45 (vyb_cX6_digest_31 (i := 2) rfl)
theorem dX6_digest_313 : decode cX6_digest 313 = .ok (.invokeinterface 251 1, 5) := by decide +kernel
theorem dX6_digest_318 : decode cX6_digest 318 = Except.ok (Instr.ifCond .eq 28, 3) := vyd_153 (vyb_cX6_digest_31 (i := 8) rfl) (vyb_cX6_digest_31 (i := 9) rfl) (vyb_cX6_digest_32 (i := 0) rfl) (by decide +kernel)
theorem dX6_digest_321 : decode cX6_digest 321 = Except.ok (Instr.aload_n 3, 1) := vyd_45 (vyb_cX6_digest_32 (i := 1) rfl)
theorem dX6_digest_322 : decode cX6_digest 322 = .ok (.invokeinterface 254 1, 5) := by decide +kernel
theorem dX6_digest_327 : decode cX6_digest 327 = Except.ok (Instr.checkcast 56, 3) := vyd_192 (vyb_cX6_digest_32 (i := 7) rfl) (vyb_cX6_digest_32 (i := 8) rfl) (vyb_cX6_digest_32 (i := 9) rfl) rfl
theorem dX6_digest_330 : decode cX6_digest 330 = Except.ok (Instr.invokevirtual 58, 3) := vyd_182 (vyb_cX6_digest_33 (i := 0) rfl) (vyb_cX6_digest_33 (i := 1) rfl) (vyb_cX6_digest_33 (i := 2) rfl) rfl
theorem dX6_digest_333 : decode cX6_digest 333 = Except.ok (Instr.istore 4, 2) := vyd_54 (vyb_cX6_digest_33 (i := 3) rfl) (vyb_cX6_digest_33 (i := 4) rfl) rfl
theorem dX6_digest_335 : decode cX6_digest 335 = Except.ok (Instr.lload_n 1, 1) := vyd_31 (vyb_cX6_digest_33 (i := 5) rfl)
theorem dX6_digest_336 : decode cX6_digest 336 = Except.ok (Instr.iload 4, 2) := vyd_21 (vyb_cX6_digest_33 (i := 6) rfl) (vyb_cX6_digest_33 (i := 7) rfl) rfl
theorem dX6_digest_338 : decode cX6_digest 338 = Except.ok (Instr.i2l, 1) := vyd_133 (vyb_cX6_digest_33 (i := 8) rfl)
theorem dX6_digest_339 : decode cX6_digest 339 = Except.ok (Instr.invokestatic 267, 3) := vyd_184 (vyb_cX6_digest_33 (i := 9) rfl) (vyb_cX6_digest_34 (i := 0) rfl) (vyb_cX6_digest_34 (i := 1) rfl) rfl
theorem dX6_digest_342 : decode cX6_digest 342 = Except.ok (Instr.lstore_n 1, 1) := vyd_64 (vyb_cX6_digest_34 (i := 2) rfl)
theorem dX6_digest_343 : decode cX6_digest 343 = Except.ok (Instr.goto (-31), 3) := vyd_167 (vyb_cX6_digest_34 (i := 3) rfl) (vyb_cX6_digest_34 (i := 4) rfl) (vyb_cX6_digest_34 (i := 5) rfl) (by decide +kernel)
theorem dX6_digest_346 : decode cX6_digest 346 = Except.ok (Instr.lload_n 1, 1) := vyd_31 (vyb_cX6_digest_34 (i := 6) rfl)
theorem dX6_digest_347 : decode cX6_digest 347 = Except.ok (Instr.aload_n 0, 1) := vyd_42 (vyb_cX6_digest_34 (i := 7) rfl)
theorem dX6_digest_348 : decode cX6_digest 348 = Except.ok (Instr.iconst 0, 1) := vyd_3 (vyb_cX6_digest_34 (i := 8) rfl)
theorem dX6_digest_349 : decode cX6_digest 349 = Except.ok (Instr.invokevirtual 209, 3) := vyd_182 (vyb_cX6_digest_34 (i := 9) rfl) (vyb_cX6_digest_35 (i := 0) rfl) (vyb_cX6_digest_35 (i := 1) rfl) rfl
theorem dX6_digest_352 : decode cX6_digest 352 = Except.ok (Instr.invokestatic 87, 3) := vyd_184 (vyb_cX6_digest_35 (i := 2) rfl) (vyb_cX6_digest_35 (i := 3) rfl) (vyb_cX6_digest_35 (i := 4) rfl) rfl
theorem dX6_digest_355 : decode cX6_digest 355 = Except.ok (Instr.i2l, 1) := vyd_133 (vyb_cX6_digest_35 (i := 5) rfl)
theorem dX6_digest_356 : decode cX6_digest 356 = Except.ok (Instr.invokestatic 267, 3) := vyd_184 (vyb_cX6_digest_35 (i := 6) rfl) (vyb_cX6_digest_35 (i := 7) rfl) (vyb_cX6_digest_35 (i := 8) rfl) rfl
theorem dX6_digest_359 : decode cX6_digest 359 = Except.ok (Instr.aload_n 0, 1) := vyd_42 (vyb_cX6_digest_35 (i := 9) rfl)
theorem dX6_digest_360 : decode cX6_digest 360 = Except.ok (Instr.iconst 1, 1) := vyd_4 (vyb_cX6_digest_36 (i := 0) rfl)
theorem dX6_digest_361 : decode cX6_digest 361 = Except.ok (Instr.invokevirtual 209, 3) := vyd_182 (vyb_cX6_digest_36 (i := 1) rfl) (vyb_cX6_digest_36 (i := 2) rfl) (vyb_cX6_digest_36 (i := 3) rfl) rfl
theorem dX6_digest_364 : decode cX6_digest 364 = Except.ok (Instr.invokestatic 87, 3) := vyd_184 (vyb_cX6_digest_36 (i := 4) rfl) (vyb_cX6_digest_36 (i := 5) rfl) (vyb_cX6_digest_36 (i := 6) rfl) rfl
theorem dX6_digest_367 : decode cX6_digest 367 = Except.ok (Instr.i2l, 1) := vyd_133 (vyb_cX6_digest_36 (i := 7) rfl)
theorem dX6_digest_368 : decode cX6_digest 368 = Except.ok (Instr.invokestatic 267, 3) := vyd_184 (vyb_cX6_digest_36 (i := 8) rfl) (vyb_cX6_digest_36 (i := 9) rfl) (vyb_cX6_digest_37 (i := 0) rfl) rfl
theorem dX6_digest_371 : decode cX6_digest 371 = Except.ok (Instr.aload_n 0, 1) := vyd_42 (vyb_cX6_digest_37 (i := 1) rfl)
theorem dX6_digest_372 : decode cX6_digest 372 = Except.ok (Instr.invokevirtual 260, 3) := vyd_182 (vyb_cX6_digest_37 (i := 2) rfl) (vyb_cX6_digest_37 (i := 3) rfl) (vyb_cX6_digest_37 (i := 4) rfl) rfl
theorem dX6_digest_375 : decode cX6_digest 375 = Except.ok (Instr.invokestatic 87, 3) := vyd_184 (vyb_cX6_digest_37 (i := 5) rfl) (vyb_cX6_digest_37 (i := 6) rfl) (vyb_cX6_digest_37 (i := 7) rfl) rfl
theorem dX6_digest_378 : decode cX6_digest 378 = Except.ok (Instr.i2l, 1) := vyd_133 (vyb_cX6_digest_37 (i := 8) rfl)
theorem dX6_digest_379 : decode cX6_digest 379 = Except.ok (Instr.invokestatic 267, 3) := vyd_184 (vyb_cX6_digest_37 (i := 9) rfl) (vyb_cX6_digest_38 (i := 0) rfl) (vyb_cX6_digest_38 (i := 1) rfl) rfl
theorem dX6_digest_382 : decode cX6_digest 382 = Except.ok (Instr.lreturn, 1) := vyd_173 (vyb_cX6_digest_38 (i := 2) rfl)
