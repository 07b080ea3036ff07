section
theorem vyb_cL_join_0 {i : Nat} {b : UInt8} (h : ([0x19, 0x05, 0x2a, 0x1b, 0x1c, 0x1d, 0x15, 0x04, 0xb6, 0x00] : List UInt8)[i]? = some b) : vy_8 cL_join (0 + i) b := vy_in (n := 10) (by decide +kernel) h
theorem vyb_cL_join_1 {i : Nat} {b : UInt8} (h : ([0x07, 0x85, 0xb5, 0x00, 0x0d, 0xa7, 0x00, 0x0f, 0x3a, 0x06] : List UInt8)[i]? = some b) : vy_8 cL_join (10 + i) b := vy_in (n := 10) (by decide +kernel) h
theorem vyb_cL_join_2 {i : Nat} {b : UInt8} (h : ([0x04, 0xac, 0x3a, 0x06, 0x05, 0xac, 0x3a, 0x06, 0x06, 0xac] : List UInt8)[i]? = some b) : vy_8 cL_join (20 + i) b := vy_in (n := 10) (by decide +kernel) h
theorem vyb_cL_join_3 {i : Nat} {b : UInt8} (h : ([0x03, 0xac] : List UInt8)[i]? = some b) : vy_8 cL_join (30 + i) b := vy_in (n := 2) (by decide +kernel) h
theorem dL_join_0 : decode cL_join 0 = Except.ok (Instr.aload 5, 2) := vyd_25 (vyb_cL_join_0 (i := 0) rfl) (vyb_cL_join_0 (i := 1) rfl) rfl
theorem dL_join_2 : decode cL_join 2 = Except.ok (Instr.aload_n 0, 1) := vyd_42 (vyb_cL_join_0 (i := 2) rfl)
theorem dL_join_3 : decode cL_join 3 = Except.ok (Instr.iload_n 1, 1) := vyd_27 (vyb_cL_join_0 (i := 3) rfl)
theorem dL_join_4 : decode cL_join 4 = Except.ok (Instr.iload_n 2, 1) := vyd_28 (vyb_cL_join_0 (i := 4) rfl)
theorem dL_join_5 : decode cL_join 5 = Except.ok (Instr.iload_n 3, 1) := vyd_29 (vyb_cL_join_0 (i := 5) rfl)
theorem dL_join_6 : decode cL_join 6 = Except.ok (Instr.iload 4, 2) := vyd_21 (vyb_cL_join_0 (i := 6) rfl) (vyb_cL_join_0 (i := 7) rfl) rfl
theorem dL_join_8 : decode cL_join 8 = Except.ok (Instr.invokevirtual 7, 3) := vyd_182 (vyb_cL_join_0 (i := 8) rfl) (vyb_cL_join_0 (i := 9) rfl) (vyb_cL_join_1 (i := 0) rfl) rfl
theorem dL_join_11 : decode cL_join 11 = Except.ok (Instr.i2l, 1) := vyd_133 (vyb_cL_join_1 (i := 1) rfl)
theorem dL_join_12 : decode cL_join 12 = Except.ok (Instr.putfield 13, 3) := vyd_181 (vyb_cL_join_1 (i := 2) rfl) (vyb_cL_join_1 (i := 3) rfl) (vyb_cL_join_1 (i := 4) rfl) rfl
theorem dL_join_15 : decode cL_join 15 = Except.ok (Instr.goto 15, 3) := vyd_167 (vyb_cL_join_1 (i := 5) rfl) (vyb_cL_join_1 (i := 6) rfl) (vyb_cL_join_1 (i := 7) rfl) (by decide +kernel)
theorem dL_join_18 : decode cL_join 18 = Except.ok (Instr.astore 6, 2) := vyd_58 (vyb_cL_join_1 (i := 8) rfl) (vyb_cL_join_1 (i := 9) rfl) rfl
theorem dL_join_20 : decode cL_join 20 = Except.ok (Instr.iconst 1, 1) := vyd_4 (vyb_cL_join_2 (i := 0) rfl)
theorem dL_join_21 : decode cL_join 21 = Except.ok (Instr.ireturn, 1) := vyd_172 (vyb_cL_join_2 (i := 1) rfl)
theorem dL_join_22 : decode cL_join 22 = Except.ok (Instr.astore 6, 2) := vyd_58 (vyb_cL_join_2 (i := 2) rfl) (vyb_cL_join_2 (i := 3) rfl) rfl
theorem dL_join_24 : decode cL_join 24 = Except.ok (Instr.iconst 2, 1) := vyd_5 (vyb_cL_join_2 (i := 4) rfl)
theorem dL_join_25 : decode cL_join 25 = Except.ok (Instr.ireturn, 1) := vyd_172 (vyb_cL_join_2 (i := 5) rfl)
theorem dL_join_26 : decode cL_join 26 = Except.ok (Instr.astore 6, 2) := vyd_58 (vyb_cL_join_2 (i := 6) rfl) (vyb_cL_join_2 (i := 7) rfl) rfl
theorem dL_join_28 : decode cL_join 28 = Except.ok (Instr.iconst 3, 1) := vyd_6 (vyb_cL_join_2 (i := 8) rfl)
theorem dL_join_29 : decode cL_join 29 = Except.ok (Instr.ireturn, 1) := vyd_172 (vyb_cL_join_2 (i := 9) rfl)
theorem dL_join_30 : decode cL_join 30 = Except.ok (Instr.iconst 0, 1) := vyd_3 (vyb_cL_join_3 (i := 0) rfl)
theorem dL_join_31 : decode cL_join 31 = Except.ok (Instr.ireturn, 1) := vyd_172 (vyb_cL_join_3 (i := 1) rfl)
theorem vyb_cL_offer_0 {i : Nat} {b : UInt8} (h : ([0x19, 0x05, 0x2a, 0x1b, 0x1c, 0x1d, 0x15, 0x04, 0xb6, 0x00] : List UInt8)[i]? = some b) : vy_8 cL_offer (0 + i) b := vy_in (n := 10) (by decide +kernel) h
theorem vyb_cL_offer_1 {i : Nat} {b : UInt8} (h : ([0x19, 0x99, 0x00, 0x07, 0x0a, 0xa7, 0x00, 0x04, 0x09, 0xb5] : List UInt8)[i]? = some b) : vy_8 cL_offer (10 + i) b := vy_in (n := 10) (by decide +kernel) h
theorem vyb_cL_offer_2 {i : Nat} {b : UInt8} (h : ([0x00, 0x0d, 0xa7, 0x00, 0x0f, 0x3a, 0x06, 0x04, 0xac, 0x3a] : List UInt8)[i]? = some b) : vy_8 cL_offer (20 + i) b := vy_in (n := 10) (by decide +kernel) h
theorem vyb_cL_offer_3 {i : Nat} {b : UInt8} (h : ([0x06, 0x05, 0xac, 0x3a, 0x06, 0x06, 0xac, 0x03, 0xac] : List UInt8)[i]? = some b) : vy_8 cL_offer (30 + i) b := vy_in (n := 9) (by decide +kernel) h
theorem dL_offer_0 : decode cL_offer 0 = Except.ok (Instr.aload 5, 2) := vyd_25 (vyb_cL_offer_0 (i := 0) rfl) (vyb_cL_offer_0 (i := 1) rfl) rfl
theorem dL_offer_2 : decode cL_offer 2 = Except.ok (Instr.aload_n 0, 1) := vyd_42 (vyb_cL_offer_0 (i := 2) rfl)
theorem dL_offer_3 : decode cL_offer 3 = Except.ok (Instr.iload_n 1, 1) := vyd_27 (vyb_cL_offer_0 (i := 3) rfl)
theorem dL_offer_4 : decode cL_offer 4 = Except.ok (Instr.iload_n 2, 1) := vyd_28 (vyb_cL_offer_0 (i := 4) rfl)
theorem dL_offer_5 : decode cL_offer 5 = Except.ok (Instr.iload_n 3, 1) := vyd_29 (vyb_cL_offer_0 (i := 5) rfl)
theorem dL_offer_6 : decode cL_offer 6 = Except.ok (Instr.iload 4, 2) := vyd_21 (vyb_cL_offer_0 (i := 6) rfl) (vyb_cL_offer_0 (i := 7) rfl) rfl
theorem dL_offer_8 : decode cL_offer 8 = Except.ok (Instr.invokevirtual 25, 3) := vyd_182 (vyb_cL_offer_0 (i := 8) rfl) (vyb_cL_offer_0 (i := 9) rfl) (vyb_cL_offer_1 (i := 0) rfl) rfl
theorem dL_offer_11 : decode cL_offer 11 = Except.ok (Instr.ifCond .eq 7, 3) := vyd_153 (vyb_cL_offer_1 (i := 1) rfl) (vyb_cL_offer_1 (i := 2) rfl) (vyb_cL_offer_1 (i := 3) rfl) (by decide +kernel)
theorem dL_offer_14 : decode cL_offer 14 = Except.ok (Instr.lconst 1, 1) := vyd_10 (vyb_cL_offer_1 (i := 4) rfl)
theorem dL_offer_15 : decode cL_offer 15 = Except.ok (Instr.goto 4, 3) := vyd_167 (vyb_cL_offer_1 (i := 5) rfl) (vyb_cL_offer_1 (i := 6) rfl) (vyb_cL_offer_1 (i := 7) rfl) (by decide +kernel)
theorem dL_offer_18 : decode cL_offer 18 = Except.ok (Instr.lconst 0, 1) := vyd_9 (vyb_cL_offer_1 (i := 8) rfl)
theorem dL_offer_19 : decode cL_offer 19 = Except.ok (Instr.putfield 13, 3) := vyd_181 (vyb_cL_offer_1 (i := 9) rfl) (vyb_cL_offer_2 (i := 0) rfl) (vyb_cL_offer_2 (i := 1) rfl) rfl
theorem dL_offer_22 : decode cL_offer 22 = Except.ok (Instr.goto 15, 3) := vyd_167 (vyb_cL_offer_2 (i := 2) rfl) (vyb_cL_offer_2 (i := 3) rfl) (vyb_cL_offer_2 (i := 4) rfl) (by decide +kernel)
theorem dL_offer_25 : decode cL_offer 25 = Except.ok (Instr.astore 6, 2) := vyd_58 (vyb_cL_offer_2 (i := 5) rfl) (vyb_cL_offer_2 (i := 6) rfl) rfl
theorem dL_offer_27 : decode cL_offer 27 = Except.ok (Instr.iconst 1, 1) := vyd_4 (vyb_cL_offer_2 (i := 7) rfl)
theorem dL_offer_28 : decode cL_offer 28 = Except.ok (Instr.ireturn, 1) := vyd_172 (vyb_cL_offer_2 (i := 8) rfl)
theorem dL_offer_29 : decode cL_offer 29 = Except.ok (Instr.astore 6, 2) := vyd_58 (vyb_cL_offer_2 (i := 9) rfl) (vyb_cL_offer_3 (i := 0) rfl) rfl
theorem dL_offer_31 : decode cL_offer 31 = Except.ok (Instr.iconst 2, 1) := vyd_5 (vyb_cL_offer_3 (i := 1) rfl)
theorem dL_offer_32 : decode cL_offer 32 = Except.ok (Instr.ireturn, 1) := vyd_172 (vyb_cL_offer_3 (i := 2) rfl)
theorem dL_offer_33 : decode cL_offer 33 = Except.ok (Instr.astore 6, 2) := vyd_58 (vyb_cL_offer_3 (i := 3) rfl) (vyb_cL_offer_3 (i := 4) rfl) rfl
theorem dL_offer_35 : decode cL_offer 35 = Except.ok (Instr.iconst 3, 1) := vyd_6 (vyb_cL_offer_3 (i := 5) rfl)
theorem dL_offer_36 : decode cL_offer 36 = Except.ok (Instr.ireturn, 1) := vyd_172 (vyb_cL_offer_3 (i := 6) rfl)
theorem dL_offer_37 : decode cL_offer 37 = Except.ok (Instr.iconst 0, 1) := vyd_3 (vyb_cL_offer_3 (i := 7) rfl)
theorem dL_offer_38 : decode cL_offer 38 = Except.ok (Instr.ireturn, 1) := vyd_172 (vyb_cL_offer_3 (i := 8) rfl)
theorem vyb_cL_push_0 {i : Nat} {b : UInt8} (h : ([0x19, 0x04, 0x2a, 0x1b, 0x1c, 0x1d, 0xb6, 0x00, 0x1d, 0x85] : List UInt8)[i]? = some b) : vy_8 cL_push (0 + i) b := vy_in (n := 10) (by decide +kernel) h
theorem vyb_cL_push_1 {i : Nat} {b : UInt8} (h : ([0xb5, 0x00, 0x0d, 0xa7, 0x00, 0x0f, 0x3a, 0x05, 0x04, 0xac] : List UInt8)[i]? = some b) : vy_8 cL_push (10 + i) b := vy_in (n := 10) (by decide +kernel) h
theorem vyb_cL_push_2 {i : Nat} {b : UInt8} (h : ([0x3a, 0x05, 0x05, 0xac, 0x3a, 0x05, 0x06, 0xac, 0x03, 0xac] : List UInt8)[i]? = some b) : vy_8 cL_push (20 + i) b := vy_in (n := 10) (by decide +kernel) h
theorem dL_push_0 : decode cL_push 0 = Except.ok (Instr.aload 4, 2) := vyd_25 (vyb_cL_push_0 (i := 0) rfl) (vyb_cL_push_0 (i := 1) rfl) rfl
theorem dL_push_2 : decode cL_push 2 = Except.ok (Instr.aload_n 0, 1) := vyd_42 (vyb_cL_push_0 (i := 2) rfl)
theorem dL_push_3 : decode cL_push 3 = Except.ok (Instr.iload_n 1, 1) := vyd_27 (vyb_cL_push_0 (i := 3) rfl)
theorem dL_push_4 : decode cL_push 4 = Except.ok (Instr.iload_n 2, 1) := vyd_28 (vyb_cL_push_0 (i := 4) rfl)
theorem dL_push_5 : decode cL_push 5 = Except.ok (Instr.iload_n 3, 1) := vyd_29 (vyb_cL_push_0 (i := 5) rfl)
theorem dL_push_6 : decode cL_push 6 = Except.ok (Instr.invokevirtual 29, 3) := vyd_182 (vyb_cL_push_0 (i := 6) rfl) (vyb_cL_push_0 (i := 7) rfl) (vyb_cL_push_0 (i := 8) rfl) rfl
theorem dL_push_9 : decode cL_push 9 = Except.ok (Instr.i2l, 1) := vyd_133 (vyb_cL_push_0 (i := 9) rfl)
theorem dL_push_10 : decode cL_push 10 = Except.ok (Instr.putfield 13, 3) := vyd_181 (vyb_cL_push_1 (i := 0) rfl) (vyb_cL_push_1 (i := 1) rfl) (vyb_cL_push_1 (i := 2) rfl) rfl
theorem dL_push_13 : decode cL_push 13 = Except.ok (Instr.goto 15, 3) := vyd_167 (vyb_cL_push_1 (i := 3) rfl) (vyb_cL_push_1 (i := 4) rfl) (vyb_cL_push_1 (i := 5) rfl) (by decide +kernel)
theorem dL_push_16 : decode cL_push 16 = Except.ok (Instr.astore 5, 2) := vyd_58 (vyb_cL_push_1 (i := 6) rfl) (vyb_cL_push_1 (i := 7) rfl) rfl
theorem dL_push_18 : decode cL_push 18 = Except.ok (Instr.iconst 1, 1) := vyd_4 (vyb_cL_push_1 (i := 8) rfl)
theorem dL_push_19 : decode cL_push 19 = Except.ok (Instr.ireturn, 1) := vyd_172 (vyb_cL_push_1 (i := 9) rfl)
theorem dL_push_20 : decode cL_push 20 = Except.ok (Instr.astore 5, 2) := vyd_58 (vyb_cL_push_2 (i := 0) rfl) (vyb_cL_push_2 (i := 1) rfl) rfl
theorem dL_push_22 : decode cL_push 22 = Except.ok (Instr.iconst 2, 1) := vyd_5 (vyb_cL_push_2 (i := 2) rfl)
theorem dL_push_23 : decode cL_push 23 = Except.ok (Instr.ireturn, 1) := vyd_172 (vyb_cL_push_2 (i := 3) rfl)
theorem dL_push_24 : decode cL_push 24 = Except.ok (Instr.astore 5, 2) := vyd_58 (vyb_cL_push_2 (i := 4) rfl) (vyb_cL_push_2 (i := 5) rfl) rfl
theorem dL_push_26 : decode cL_push 26 = Except.ok (Instr.iconst 3, 1) := vyd_6 (vyb_cL_push_2 (i := 6) rfl)
theorem dL_push_27 : decode cL_push 27 = Except.ok (Instr.ireturn, 1) := vyd_172 (vyb_cL_push_2 (i := 7) rfl)
theorem dL_push_28 : decode cL_push 28 = Except.ok (Instr.iconst 0, 1) := vyd_3 (vyb_cL_push_2 (i := 8) rfl)
theorem dL_push_29 : decode cL_push 29 = Except.ok (Instr.ireturn, 1) := vyd_172 (vyb_cL_push_2 (i := 9) rfl)
theorem vyb_cL_append_0 {i : Nat} {b : UInt8} (h : ([0x19, 0x04, 0x2a, 0x1b, 0x1c, 0x1d, 0xb6, 0x00, 0x21, 0x85] : List UInt8)[i]? = some b) : vy_8 cL_append (0 + i) b := vy_in (n := 10) (by decide +kernel) h
theorem vyb_cL_append_1 {i : Nat} {b : UInt8} (h : ([0xb5, 0x00, 0x0d, 0xa7, 0x00, 0x0f, 0x3a, 0x05, 0x04, 0xac] : List UInt8)[i]? = some b) : vy_8 cL_append (10 + i) b := vy_in (n := 10) (by decide +kernel) h
theorem vyb_cL_append_2 {i : Nat} {b : UInt8} (h : ([0x3a, 0x05, 0x05, 0xac, 0x3a, 0x05, 0x06, 0xac, 0x03, 0xac] : List UInt8)[i]? = some b) : vy_8 cL_append (20 + i) b := vy_in (n := 10) (by decide +kernel) h
theorem dL_append_0 : decode cL_append 0 = Except.ok (Instr.aload 4, 2) := vyd_25 (vyb_cL_append_0 (i := 0) rfl) (vyb_cL_append_0 (i := 1) rfl) rfl
theorem dL_append_2 : decode cL_append 2 = Except.ok (Instr.aload_n 0, 1) := vyd_42 (vyb_cL_append_0 (i := 2) rfl)
theorem dL_append_3 : decode cL_append 3 = Except.ok (Instr.iload_n 1, 1) := vyd_27 (vyb_cL_append_0 (i := 3) rfl)
theorem dL_append_4 : decode cL_append 4 = Except.ok (Instr.iload_n 2, 1) := vyd_28 (vyb_cL_append_0 (i := 4) rfl)
theorem dL_append_5 : decode cL_append 5 = Except.ok (Instr.iload_n 3, 1) := vyd_29 (vyb_cL_append_0 (i := 5) rfl)
theorem dL_append_6 : decode cL_append 6 = Except.ok (Instr.invokevirtual 33, 3) := vyd_182 (vyb_cL_append_0 (i := 6) rfl) (vyb_cL_append_0 (i := 7) rfl) (vyb_cL_append_0 (i := 8) rfl) rfl
theorem dL_append_9 : decode cL_append 9 = Except.ok (Instr.i2l, 1) := vyd_133 (vyb_cL_append_0 (i := 9) rfl)
theorem dL_append_10 : decode cL_append 10 = Except.ok (Instr.putfield 13, 3) := vyd_181 (vyb_cL_append_1 (i := 0) rfl) (vyb_cL_append_1 (i := 1) rfl) (vyb_cL_append_1 (i := 2) rfl) rfl
theorem dL_append_13 : decode cL_append 13 = Except.ok (Instr.goto 15, 3) := vyd_167 (vyb_cL_append_1 (i := 3) rfl) (vyb_cL_append_1 (i := 4) rfl) (vyb_cL_append_1 (i := 5) rfl) (by decide +kernel)
theorem dL_append_16 : decode cL_append 16 = Except.ok (Instr.astore 5, 2) := vyd_58 (vyb_cL_append_1 (i := 6) rfl) (vyb_cL_append_1 (i := 7) rfl) rfl
theorem dL_append_18 : decode cL_append 18 = Except.ok (Instr.iconst 1, 1) := vyd_4 (vyb_cL_append_1 (i := 8) rfl)
theorem dL_append_19 : decode cL_append 19 = Except.ok (Instr.ireturn, 1) := vyd_172 (vyb_cL_append_1 (i := 9) rfl)
theorem dL_append_20 : decode cL_append 20 = Except.ok (Instr.astore 5, 2) := vyd_58 (vyb_cL_append_2 (i := 0) rfl) (vyb_cL_append_2 (i := 1) rfl) rfl
theorem dL_append_22 : decode cL_append 22 = Except.ok (Instr.iconst 2, 1) := vyd_5 (vyb_cL_append_2 (i := 2) rfl)
theorem dL_append_23 : decode cL_append 23 = Except.ok (Instr.ireturn, 1) := vyd_172 (vyb_cL_append_2 (i := 3) rfl)
theorem dL_append_24 : decode cL_append 24 = Except.ok (Instr.astore 5, 2) := vyd_58 (vyb_cL_append_2 (i := 4) rfl) (vyb_cL_append_2 (i := 5) rfl) rfl
theorem dL_append_26 : decode cL_append 26 = Except.ok (Instr.iconst 3, 1) := vyd_6 (vyb_cL_append_2 (i := 6) rfl)
theorem dL_append_27 : decode cL_append 27 = Except.ok (Instr.ireturn, 1) := vyd_172 (vyb_cL_append_2 (i := 7) rfl)
theorem dL_append_28 : decode cL_append 28 = Except.ok (Instr.iconst 0, 1) := vyd_3 (vyb_cL_append_2 (i := 8) rfl)
theorem dL_append_29 : decode cL_append 29 = Except.ok (Instr.ireturn, 1) := vyd_172 (vyb_cL_append_2 (i := 9) rfl)
theorem vyb_cL_train_0 {i : Nat} {b : UInt8} (h : ([0x19, 0x05, 0x2a, 0x1b, 0x1c, 0x1d, 0x15, 0x04, 0xb6, 0x00] : List UInt8)[i]? = some b) : vy_8 cL_train (0 + i) b := vy_in (n := 10) (by decide +kernel) h
theorem vyb_cL_train_1 {i : Nat} {b : UInt8} (h : ([0x24, 0x85, 0xb5, 0x00, 0x0d, 0xa7, 0x00, 0x0f, 0x3a, 0x06] : List UInt8)[i]? = some b) : vy_8 cL_train (10 + i) b := vy_in (n := 10) (by decide +kernel) h
theorem vyb_cL_train_2 {i : Nat} {b : UInt8} (h : ([0x04, 0xac, 0x3a, 0x06, 0x05, 0xac, 0x3a, 0x06, 0x06, 0xac] : List UInt8)[i]? = some b) : vy_8 cL_train (20 + i) b := vy_in (n := 10) (by decide +kernel) h
theorem vyb_cL_train_3 {i : Nat} {b : UInt8} (h : ([0x03, 0xac] : List UInt8)[i]? = some b) : vy_8 cL_train (30 + i) b := vy_in (n := 2) (by decide +kernel) h
theorem dL_train_0 : decode cL_train 0 = Except.ok (Instr.aload 5, 2) := vyd_25 (vyb_cL_train_0 (i := 0) rfl) (vyb_cL_train_0 (i := 1) rfl) rfl
theorem dL_train_2 : decode cL_train 2 = Except.ok (Instr.aload_n 0, 1) := vyd_42 (vyb_cL_train_0 (i := 2) rfl)
theorem dL_train_3 : decode cL_train 3 = Except.ok (Instr.iload_n 1, 1) := vyd_27 (vyb_cL_train_0 (i := 3) rfl)
theorem dL_train_4 : decode cL_train 4 = Except.ok (Instr.iload_n 2, 1) := vyd_28 (vyb_cL_train_0 (i := 4) rfl)
theorem dL_train_5 : decode cL_train 5 = Except.ok (Instr.iload_n 3, 1) := vyd_29 (vyb_cL_train_0 (i := 5) rfl)
theorem dL_train_6 : decode cL_train 6 = Except.ok (Instr.iload 4, 2) := vyd_21 (vyb_cL_train_0 (i := 6) rfl) (vyb_cL_train_0 (i := 7) rfl) rfl
theorem dL_train_8 : decode cL_train 8 = Except.ok (Instr.invokevirtual 36, 3) := vyd_182 (vyb_cL_train_0 (i := 8) rfl) (vyb_cL_train_0 (i := 9) rfl) (vyb_cL_train_1 (i := 0) rfl) rfl
theorem dL_train_11 : decode cL_train 11 = Except.ok (Instr.i2l, 1) := vyd_133 (vyb_cL_train_1 (i := 1) rfl)
theorem dL_train_12 : decode cL_train 12 = Except.ok (Instr.putfield 13, 3) := vyd_181 (vyb_cL_train_1 (i := 2) rfl) (vyb_cL_train_1 (i := 3) rfl) (vyb_cL_train_1 (i := 4) rfl) rfl
theorem dL_train_15 : decode cL_train 15 = Except.ok (Instr.goto 15, 3) := vyd_167 (vyb_cL_train_1 (i := 5) rfl) (vyb_cL_train_1 (i := 6) rfl) (vyb_cL_train_1 (i := 7) rfl) (by decide +kernel)
theorem dL_train_18 : decode cL_train 18 = Except.ok (Instr.astore 6, 2) := vyd_58 (vyb_cL_train_1 (i := 8) rfl) (vyb_cL_train_1 (i := 9) rfl) rfl
theorem dL_train_20 : decode cL_train 20 = Except.ok (Instr.iconst 1, 1) := vyd_4 (vyb_cL_train_2 (i := 0) rfl)
theorem dL_train_21 : decode cL_train 21 = Except.ok (Instr.ireturn, 1) := vyd_172 (vyb_cL_train_2 (i := 1) rfl)
theorem dL_train_22 : decode cL_train 22 = Except.ok (Instr.astore 6, 2) := vyd_58 (vyb_cL_train_2 (i := 2) rfl) (vyb_cL_train_2 (i := 3) rfl) rfl
theorem dL_train_24 : decode cL_train 24 = Except.ok (Instr.iconst 2, 1) := vyd_5 (vyb_cL_train_2 (i := 4) rfl)
theorem dL_train_25 : decode cL_train 25 = Except.ok (Instr.ireturn, 1) := vyd_172 (vyb_cL_train_2 (i := 5) rfl)
theorem dL_train_26 : decode cL_train 26 = Except.ok (Instr.astore 6, 2) := vyd_58 (vyb_cL_train_2 (i := 6) rfl) (vyb_cL_train_2 (i := 7) rfl) rfl
theorem dL_train_28 : decode cL_train 28 = Except.ok (Instr.iconst 3, 1) := vyd_6 (vyb_cL_train_2 (i := 8) rfl)
theorem dL_train_29 : decode cL_train 29 = Except.ok (Instr.ireturn, 1) := vyd_172 (vyb_cL_train_2 (i := 9) rfl)
theorem dL_train_30 : decode cL_train 30 = Except.ok (Instr.iconst 0, 1) := vyd_3 (vyb_cL_train_3 (i := 0) rfl)
theorem dL_train_31 : decode cL_train 31 = Except.ok (Instr.ireturn, 1) := vyd_172 (vyb_cL_train_3 (i := 1) rfl)
theorem vyb_cL_take_0 {i : Nat} {b : UInt8} (h : ([0x2d, 0x2a, 0x1b, 0x1c, 0xb6, 0x00, 0x28, 0x85, 0xb5, 0x00] : List UInt8)[i]? = some b) : vy_8 cL_take (0 + i) b := vy_in (n := 10) (by decide +kernel) h
theorem vyb_cL_take_1 {i : Nat} {b : UInt8} (h : ([0x0d, 0xa7, 0x00, 0x07, 0x3a, 0x04, 0x04, 0xac, 0x03, 0xac] : List UInt8)[i]? = some b) : vy_8 cL_take (10 + i) b := vy_in (n := 10) (by decide +kernel) h
theorem dL_take_0 : decode cL_take 0 = Except.ok (Instr.aload_n 3, 1) := vyd_45 (vyb_cL_take_0 (i := 0) rfl)
theorem dL_take_1 : decode cL_take 1 = Except.ok (Instr.aload_n 0, 1) := vyd_42 (vyb_cL_take_0 (i := 1) rfl)
theorem dL_take_2 : decode cL_take 2 = Except.ok (Instr.iload_n 1, 1) := vyd_27 (vyb_cL_take_0 (i := 2) rfl)
theorem dL_take_3 : decode cL_take 3 = Except.ok (Instr.iload_n 2, 1) := vyd_28 (vyb_cL_take_0 (i := 3) rfl)
theorem dL_take_4 : decode cL_take 4 = Except.ok (Instr.invokevirtual 40, 3) := vyd_182 (vyb_cL_take_0 (i := 4) rfl) (vyb_cL_take_0 (i := 5) rfl) (vyb_cL_take_0 (i := 6) rfl) rfl
theorem dL_take_7 : decode cL_take 7 = Except.ok (Instr.i2l, 1) := vyd_133 (vyb_cL_take_0 (i := 7) rfl)
theorem dL_take_8 : decode cL_take 8 = Except.ok (Instr.putfield 13, 3) := vyd_181 (vyb_cL_take_0 (i := 8) rfl) (vyb_cL_take_0 (i := 9) rfl) (vyb_cL_take_1 (i := 0) rfl) rfl
theorem dL_take_11 : decode cL_take 11 = Except.ok (Instr.goto 7, 3) := vyd_167 (vyb_cL_take_1 (i := 1) rfl) (vyb_cL_take_1 (i := 2) rfl) (vyb_cL_take_1 (i := 3) rfl) (by decide +kernel)
theorem dL_take_14 : decode cL_take 14 = Except.ok (Instr.astore 4, 2) := vyd_58 (vyb_cL_take_1 (i := 4) rfl) (vyb_cL_take_1 (i := 5) rfl) rfl
theorem dL_take_16 : decode cL_take 16 = Except.ok (Instr.iconst 1, 1) := vyd_4 (vyb_cL_take_1 (i := 6) rfl)
theorem dL_take_17 : decode cL_take 17 = Except.ok (Instr.ireturn, 1) := vyd_172 (vyb_cL_take_1 (i := 7) rfl)
theorem dL_take_18 : decode cL_take 18 = Except.ok (Instr.iconst 0, 1) := vyd_3 (vyb_cL_take_1 (i := 8) rfl)
theorem dL_take_19 : decode cL_take 19 = Except.ok (Instr.ireturn, 1) := vyd_172 (vyb_cL_take_1 (i := 9) rfl)
theorem vyb_cL_poll_0 {i : Nat} {b : UInt8} (h : ([0x2d, 0x2a, 0x1b, 0x1c, 0xb6, 0x00, 0x2c, 0x85, 0xb5, 0x00] : List UInt8)[i]? = some b) : vy_8 cL_poll (0 + i) b := vy_in (n := 10) (by decide +kernel) h
theorem vyb_cL_poll_1 {i : Nat} {b : UInt8} (h : ([0x0d, 0xa7, 0x00, 0x07, 0x3a, 0x04, 0x04, 0xac, 0x03, 0xac] : List UInt8)[i]? = some b) : vy_8 cL_poll (10 + i) b := vy_in (n := 10) (by decide +kernel) h
theorem dL_poll_0 : decode cL_poll 0 = Except.ok (Instr.aload_n 3, 1) := vyd_45 (vyb_cL_poll_0 (i := 0) rfl)
theorem dL_poll_1 : decode cL_poll 1 = Except.ok (Instr.aload_n 0, 1) := vyd_42 (vyb_cL_poll_0 (i := 1) rfl)
theorem dL_poll_2 : decode cL_poll 2 = Except.ok (Instr.iload_n 1, 1) := vyd_27 (vyb_cL_poll_0 (i := 2) rfl)
theorem dL_poll_3 : decode cL_poll 3 = Except.ok (Instr.iload_n 2, 1) := vyd_28 (vyb_cL_poll_0 (i := 3) rfl)
theorem dL_poll_4 : decode cL_poll 4 = Except.ok (Instr.invokevirtual 44, 3) := vyd_182 (vyb_cL_poll_0 (i := 4) rfl) (vyb_cL_poll_0 (i := 5) rfl) (vyb_cL_poll_0 (i := 6) rfl) rfl
theorem dL_poll_7 : decode cL_poll 7 = Except.ok (Instr.i2l, 1) := vyd_133 (vyb_cL_poll_0 (i := 7) rfl)
theorem dL_poll_8 : decode cL_poll 8 = Except.ok (Instr.putfield 13, 3) := vyd_181 (vyb_cL_poll_0 (i := 8) rfl) (vyb_cL_poll_0 (i := 9) rfl) (vyb_cL_poll_1 (i := 0) rfl) rfl
theorem dL_poll_11 : decode cL_poll 11 = Except.ok (Instr.goto 7, 3) := vyd_167 (vyb_cL_poll_1 (i := 1) rfl) (vyb_cL_poll_1 (i := 2) rfl) (vyb_cL_poll_1 (i := 3) rfl) (by decide +kernel)
theorem dL_poll_14 : decode cL_poll 14 = Except.ok (Instr.astore 4, 2) := vyd_58 (vyb_cL_poll_1 (i := 4) rfl) (vyb_cL_poll_1 (i := 5) rfl) rfl
theorem dL_poll_16 : decode cL_poll 16 = Except.ok (Instr.iconst 1, 1) := vyd_4 (vyb_cL_poll_1 (i := 6) rfl)
theorem dL_poll_17 : decode cL_poll 17 = Except.ok (Instr.ireturn, 1) := vyd_172 (vyb_cL_poll_1 (i := 7) rfl)
theorem dL_poll_18 : decode cL_poll 18 = Except.ok (Instr.iconst 0, 1) := vyd_3 (vyb_cL_poll_1 (i := 8) rfl)
theorem dL_poll_19 : decode cL_poll 19 = Except.ok (Instr.ireturn, 1) := vyd_172 (vyb_cL_poll_1 (i := 9) rfl)
theorem vyb_cL_pop_0 {i : Nat} {b : UInt8} (h : ([0x2c, 0x2a, 0x1b, 0xb6, 0x00, 0x2f, 0x85, 0xb5, 0x00, 0x0d] : List UInt8)[i]? = some b) : vy_8 cL_pop (0 + i) b := vy_in (n := 10) (by decide +kernel) h
theorem vyb_cL_pop_1 {i : Nat} {b : UInt8} (h : ([0xa7, 0x00, 0x06, 0x4e, 0x04, 0xac, 0x03, 0xac] : List UInt8)[i]? = some b) : vy_8 cL_pop (10 + i) b := vy_in (n := 8) (by decide +kernel) h
theorem dL_pop_0 : decode cL_pop 0 = Except.ok (Instr.aload_n 2, 1) := vyd_44 (vyb_cL_pop_0 (i := 0) rfl)
theorem dL_pop_1 : decode cL_pop 1 = Except.ok (Instr.aload_n 0, 1) := vyd_42 (vyb_cL_pop_0 (i := 1) rfl)
theorem dL_pop_2 : decode cL_pop 2 = Except.ok (Instr.iload_n 1, 1) := vyd_27 (vyb_cL_pop_0 (i := 2) rfl)
theorem dL_pop_3 : decode cL_pop 3 = Except.ok (Instr.invokevirtual 47, 3) := vyd_182 (vyb_cL_pop_0 (i := 3) rfl) (vyb_cL_pop_0 (i := 4) rfl) (vyb_cL_pop_0 (i := 5) rfl) rfl
theorem dL_pop_6 : decode cL_pop 6 = Except.ok (Instr.i2l, 1) := vyd_133 (vyb_cL_pop_0 (i := 6) rfl)
theorem dL_pop_7 : decode cL_pop 7 = Except.ok (Instr.putfield 13, 3) := vyd_181 (vyb_cL_pop_0 (i := 7) rfl) (vyb_cL_pop_0 (i := 8) rfl) (vyb_cL_pop_0 (i := 9) rfl) rfl
theorem dL_pop_10 : decode cL_pop 10 = Except.ok (Instr.goto 6, 3) := vyd_167 (vyb_cL_pop_1 (i := 0) rfl) (vyb_cL_pop_1 (i := 1) rfl) (vyb_cL_pop_1 (i := 2) rfl) (by decide +kernel)
theorem dL_pop_13 : decode cL_pop 13 = Except.ok (Instr.astore_n 3, 1) := vyd_78 (vyb_cL_pop_1 (i := 3) rfl)
theorem dL_pop_14 : decode cL_pop 14 = Except.ok (Instr.iconst 1, 1) := vyd_4 (vyb_cL_pop_1 (i := 4) rfl)
theorem dL_pop_15 : decode cL_pop 15 = Except.ok (Instr.ireturn, 1) := vyd_172 (vyb_cL_pop_1 (i := 5) rfl)
theorem dL_pop_16 : decode cL_pop 16 = Except.ok (Instr.iconst 0, 1) := vyd_3 (vyb_cL_pop_1 (i := 6) rfl)
theorem dL_pop_17 : decode cL_pop 17 = Except.ok (Instr.ireturn, 1) := vyd_172 (vyb_cL_pop_1 (i := 7) rfl)
theorem vyb_cL_serve_0 {i : Nat} {b : UInt8} (h : ([0x2d, 0x2a, 0x1b, 0x1c, 0xb6, 0x00, 0x33, 0x85, 0xb5, 0x00] : List UInt8)[i]? = some b) : vy_8 cL_serve (0 + i) b := vy_in (n := 10) (by decide +kernel) h
theorem vyb_cL_serve_1 {i : Nat} {b : UInt8} (h : ([0x0d, 0xa7, 0x00, 0x07, 0x3a, 0x04, 0x04, 0xac, 0x03, 0xac] : List UInt8)[i]? = some b) : vy_8 cL_serve (10 + i) b := vy_in (n := 10) (by decide +kernel) h
theorem dL_serve_0 : decode cL_serve 0 = Except.ok (Instr.aload_n 3, 1) := vyd_45 (vyb_cL_serve_0 (i := 0) rfl)
theorem dL_serve_1 : decode cL_serve 1 = Except.ok (Instr.aload_n 0, 1) := vyd_42 (vyb_cL_serve_0 (i := 1) rfl)
theorem dL_serve_2 : decode cL_serve 2 = Except.ok (Instr.iload_n 1, 1) := vyd_27 (vyb_cL_serve_0 (i := 2) rfl)
theorem dL_serve_3 : decode cL_serve 3 = Except.ok (Instr.iload_n 2, 1) := vyd_28 (vyb_cL_serve_0 (i := 3) rfl)
theorem dL_serve_4 : decode cL_serve 4 = Except.ok (Instr.invokevirtual 51, 3) := vyd_182 (vyb_cL_serve_0 (i := 4) rfl) (vyb_cL_serve_0 (i := 5) rfl) (vyb_cL_serve_0 (i := 6) rfl) rfl
theorem dL_serve_7 : decode cL_serve 7 = Except.ok (Instr.i2l, 1) := vyd_133 (vyb_cL_serve_0 (i := 7) rfl)
theorem dL_serve_8 : decode cL_serve 8 = Except.ok (Instr.putfield 13, 3) := vyd_181 (vyb_cL_serve_0 (i := 8) rfl) (vyb_cL_serve_0 (i := 9) rfl) (vyb_cL_serve_1 (i := 0) rfl) rfl
theorem dL_serve_11 : decode cL_serve 11 = Except.ok (Instr.goto 7, 3) := vyd_167 (vyb_cL_serve_1 (i := 1) rfl) (vyb_cL_serve_1 (i := 2) rfl) (vyb_cL_serve_1 (i := 3) rfl) (by decide +kernel)
theorem dL_serve_14 : decode cL_serve 14 = Except.ok (Instr.astore 4, 2) := vyd_58 (vyb_cL_serve_1 (i := 4) rfl) (vyb_cL_serve_1 (i := 5) rfl) rfl
theorem dL_serve_16 : decode cL_serve 16 = Except.ok (Instr.iconst 1, 1) := vyd_4 (vyb_cL_serve_1 (i := 6) rfl)
theorem dL_serve_17 : decode cL_serve 17 = Except.ok (Instr.ireturn, 1) := vyd_172 (vyb_cL_serve_1 (i := 7) rfl)
theorem dL_serve_18 : decode cL_serve 18 = Except.ok (Instr.iconst 0, 1) := vyd_3 (vyb_cL_serve_1 (i := 8) rfl)
theorem dL_serve_19 : decode cL_serve 19 = Except.ok (Instr.ireturn, 1) := vyd_172 (vyb_cL_serve_1 (i := 9) rfl)
theorem vyb_cL_rotate_0 {i : Nat} {b : UInt8} (h : ([0x2d, 0x2a, 0x1b, 0x1c, 0xb6, 0x00, 0x36, 0x85, 0xb5, 0x00] : List UInt8)[i]? = some b) : vy_8 cL_rotate (0 + i) b := vy_in (n := 10) (by decide +kernel) h
theorem vyb_cL_rotate_1 {i : Nat} {b : UInt8} (h : ([0x0d, 0xa7, 0x00, 0x0b, 0x3a, 0x04, 0x04, 0xac, 0x3a, 0x04] : List UInt8)[i]? = some b) : vy_8 cL_rotate (10 + i) b := vy_in (n := 10) (by decide +kernel) h
theorem vyb_cL_rotate_2 {i : Nat} {b : UInt8} (h : ([0x05, 0xac, 0x03, 0xac] : List UInt8)[i]? = some b) : vy_8 cL_rotate (20 + i) b := vy_in (n := 4) (by decide +kernel) h
theorem dL_rotate_0 : decode cL_rotate 0 = Except.ok (Instr.aload_n 3, 1) := vyd_45 (vyb_cL_rotate_0 (i := 0) rfl)
theorem dL_rotate_1 : decode cL_rotate 1 = Except.ok (Instr.aload_n 0, 1) := vyd_42 (vyb_cL_rotate_0 (i := 1) rfl)
theorem dL_rotate_2 : decode cL_rotate 2 = Except.ok (Instr.iload_n 1, 1) := vyd_27 (vyb_cL_rotate_0 (i := 2) rfl)
theorem dL_rotate_3 : decode cL_rotate 3 = Except.ok (Instr.iload_n 2, 1) := vyd_28 (vyb_cL_rotate_0 (i := 3) rfl)
theorem dL_rotate_4 : decode cL_rotate 4 = Except.ok (Instr.invokevirtual 54, 3) := vyd_182 (vyb_cL_rotate_0 (i := 4) rfl) (vyb_cL_rotate_0 (i := 5) rfl) (vyb_cL_rotate_0 (i := 6) rfl) rfl
theorem dL_rotate_7 : decode cL_rotate 7 = Except.ok (Instr.i2l, 1) := vyd_133 (vyb_cL_rotate_0 (i := 7) rfl)
theorem dL_rotate_8 : decode cL_rotate 8 = Except.ok (Instr.putfield 13, 3) := vyd_181 (vyb_cL_rotate_0 (i := 8) rfl) (vyb_cL_rotate_0 (i := 9) rfl) (vyb_cL_rotate_1 (i := 0) rfl) rfl
theorem dL_rotate_11 : decode cL_rotate 11 = Except.ok (Instr.goto 11, 3) := vyd_167 (vyb_cL_rotate_1 (i := 1) rfl) (vyb_cL_rotate_1 (i := 2) rfl) (vyb_cL_rotate_1 (i := 3) rfl) (by decide +kernel)
theorem dL_rotate_14 : decode cL_rotate 14 = Except.ok (Instr.astore 4, 2) := vyd_58 (vyb_cL_rotate_1 (i := 4) rfl) (vyb_cL_rotate_1 (i := 5) rfl) rfl
theorem dL_rotate_16 : decode cL_rotate 16 = Except.ok (Instr.iconst 1, 1) := vyd_4 (vyb_cL_rotate_1 (i := 6) rfl)
theorem dL_rotate_17 : decode cL_rotate 17 = Except.ok (Instr.ireturn, 1) := vyd_172 (vyb_cL_rotate_1 (i := 7) rfl)
theorem dL_rotate_18 : decode cL_rotate 18 = Except.ok (Instr.astore 4, 2) := vyd_58 (vyb_cL_rotate_1 (i := 8) rfl) (vyb_cL_rotate_1 (i := 9) rfl) rfl
theorem dL_rotate_20 : decode cL_rotate 20 = Except.ok (Instr.iconst 2, 1) := vyd_5 (vyb_cL_rotate_2 (i := 0) rfl)
theorem dL_rotate_21 : decode cL_rotate 21 = Except.ok (Instr.ireturn, 1) := vyd_172 (vyb_cL_rotate_2 (i := 1) rfl)
theorem dL_rotate_22 : decode cL_rotate 22 = Except.ok (Instr.iconst 0, 1) := vyd_3 (vyb_cL_rotate_2 (i := 2) rfl)
theorem dL_rotate_23 : decode cL_rotate 23 = Except.ok (Instr.ireturn, 1) := vyd_172 (vyb_cL_rotate_2 (i := 3) rfl)
theorem vyb_cL_drop_0 {i : Nat} {b : UInt8} (h : ([0x19, 0x04, 0x2a, 0x1b, 0x1c, 0x1d, 0xb6, 0x00, 0x3a, 0x99] : List UInt8)[i]? = some b) : vy_8 cL_drop (0 + i) b := vy_in (n := 10) (by decide +kernel) h
theorem vyb_cL_drop_1 {i : Nat} {b : UInt8} (h : ([0x00, 0x07, 0x0a, 0xa7, 0x00, 0x04, 0x09, 0xb5, 0x00, 0x0d] : List UInt8)[i]? = some b) : vy_8 cL_drop (10 + i) b := vy_in (n := 10) (by decide +kernel) h
theorem vyb_cL_drop_2 {i : Nat} {b : UInt8} (h : ([0xa7, 0x00, 0x0b, 0x3a, 0x05, 0x04, 0xac, 0x3a, 0x05, 0x05] : List UInt8)[i]? = some b) : vy_8 cL_drop (20 + i) b := vy_in (n := 10) (by decide +kernel) h
theorem vyb_cL_drop_3 {i : Nat} {b : UInt8} (h : ([0xac, 0x03, 0xac] : List UInt8)[i]? = some b) : vy_8 cL_drop (30 + i) b := vy_in (n := 3) (by decide +kernel) h
theorem dL_drop_0 : decode cL_drop 0 = Except.ok (Instr.aload 4, 2) := vyd_25 (vyb_cL_drop_0 (i := 0) rfl) (vyb_cL_drop_0 (i := 1) rfl) rfl
theorem dL_drop_2 : decode cL_drop 2 = Except.ok (Instr.aload_n 0, 1) := vyd_42 (vyb_cL_drop_0 (i := 2) rfl)
theorem dL_drop_3 : decode cL_drop 3 = Except.ok (Instr.iload_n 1, 1) := vyd_27 (vyb_cL_drop_0 (i := 3) rfl)
theorem dL_drop_4 : decode cL_drop 4 = Except.ok (Instr.iload_n 2, 1) := vyd_28 (vyb_cL_drop_0 (i := 4) rfl)
theorem dL_drop_5 : decode cL_drop 5 = Except.ok (Instr.iload_n 3, 1) := vyd_29 (vyb_cL_drop_0 (i := 5) rfl)
theorem dL_drop_6 : decode cL_drop 6 = Except.ok (Instr.invokevirtual 58, 3) := vyd_182 (vyb_cL_drop_0 (i := 6) rfl) (vyb_cL_drop_0 (i := 7) rfl) (vyb_cL_drop_0 (i := 8) rfl) rfl
theorem dL_drop_9 : decode cL_drop 9 = Except.ok (Instr.ifCond .eq 7, 3) := vyd_153 (vyb_cL_drop_0 (i := 9) rfl) (vyb_cL_drop_1 (i := 0) rfl) (vyb_cL_drop_1 (i := 1) rfl) (by decide +kernel)
theorem dL_drop_12 : decode cL_drop 12 = Except.ok (Instr.lconst 1, 1) := vyd_10 (vyb_cL_drop_1 (i := 2) rfl)
theorem dL_drop_13 : decode cL_drop 13 = Except.ok (Instr.goto 4, 3) := vyd_167 (vyb_cL_drop_1 (i := 3) rfl) (vyb_cL_drop_1 (i := 4) rfl) (vyb_cL_drop_1 (i := 5) rfl) (by decide +kernel)
theorem dL_drop_16 : decode cL_drop 16 = Except.ok (Instr.lconst 0, 1) := vyd_9 (vyb_cL_drop_1 (i := 6) rfl)
theorem dL_drop_17 : decode cL_drop 17 = Except.ok (Instr.putfield 13, 3) := vyd_181 (vyb_cL_drop_1 (i := 7) rfl) (vyb_cL_drop_1 (i := 8) rfl) (vyb_cL_drop_1 (i := 9) rfl) rfl
theorem dL_drop_20 : decode cL_drop 20 = Except.ok (Instr.goto 11, 3) := vyd_167 (vyb_cL_drop_2 (i := 0) rfl) (vyb_cL_drop_2 (i := 1) rfl) (vyb_cL_drop_2 (i := 2) rfl) (by decide +kernel)
theorem dL_drop_23 : decode cL_drop 23 = Except.ok (Instr.astore 5, 2) := vyd_58 (vyb_cL_drop_2 (i := 3) rfl) (vyb_cL_drop_2 (i := 4) rfl) rfl
theorem dL_drop_25 : decode cL_drop 25 = Except.ok (Instr.iconst 1, 1) := vyd_4 (vyb_cL_drop_2 (i := 5) rfl)
theorem dL_drop_26 : decode cL_drop 26 = Except.ok (Instr.ireturn, 1) := vyd_172 (vyb_cL_drop_2 (i := 6) rfl)
theorem dL_drop_27 : decode cL_drop 27 = Except.ok (Instr.astore 5, 2) := vyd_58 (vyb_cL_drop_2 (i := 7) rfl) (vyb_cL_drop_2 (i := 8) rfl) rfl
theorem dL_drop_29 : decode cL_drop 29 = Except.ok (Instr.iconst 2, 1) := vyd_5 (vyb_cL_drop_2 (i := 9) rfl)
theorem dL_drop_30 : decode cL_drop 30 = Except.ok (Instr.ireturn, 1) := vyd_172 (vyb_cL_drop_3 (i := 0) rfl)
theorem dL_drop_31 : decode cL_drop 31 = Except.ok (Instr.iconst 0, 1) := vyd_3 (vyb_cL_drop_3 (i := 1) rfl)
theorem dL_drop_32 : decode cL_drop 32 = Except.ok (Instr.ireturn, 1) := vyd_172 (vyb_cL_drop_3 (i := 2) rfl)
theorem vyb_cL_dropAll_0 {i : Nat} {b : UInt8} (h : ([0x2d, 0x2a, 0x1b, 0x1c, 0xb6, 0x00, 0x3e, 0x85, 0xb5, 0x00] : List UInt8)[i]? = some b) : vy_8 cL_dropAll (0 + i) b := vy_in (n := 10) (by decide +kernel) h
theorem vyb_cL_dropAll_1 {i : Nat} {b : UInt8} (h : ([0x0d, 0xa7, 0x00, 0x0b, 0x3a, 0x04, 0x04, 0xac, 0x3a, 0x04] : List UInt8)[i]? = some b) : vy_8 cL_dropAll (10 + i) b := vy_in (n := 10) (by decide +kernel) h
theorem vyb_cL_dropAll_2 {i : Nat} {b : UInt8} (h : ([0x05, 0xac, 0x03, 0xac] : List UInt8)[i]? = some b) : vy_8 cL_dropAll (20 + i) b := vy_in (n := 4) (by decide +kernel) h
theorem dL_dropAll_0 : decode cL_dropAll 0 = Except.ok (Instr.aload_n 3, 1) := vyd_45 (vyb_cL_dropAll_0 (i := 0) rfl)
theorem dL_dropAll_1 : decode cL_dropAll 1 = Except.ok (Instr.aload_n 0, 1) := vyd_42 (vyb_cL_dropAll_0 (i := 1) rfl)
theorem dL_dropAll_2 : decode cL_dropAll 2 = Except.ok (Instr.iload_n 1, 1) := vyd_27 (vyb_cL_dropAll_0 (i := 2) rfl)
theorem dL_dropAll_3 : decode cL_dropAll 3 = Except.ok (Instr.iload_n 2, 1) := vyd_28 (vyb_cL_dropAll_0 (i := 3) rfl)
theorem dL_dropAll_4 : decode cL_dropAll 4 = Except.ok (Instr.invokevirtual 62, 3) := vyd_182 (vyb_cL_dropAll_0 (i := 4) rfl) (vyb_cL_dropAll_0 (i := 5) rfl) (vyb_cL_dropAll_0 (i := 6) rfl) rfl
theorem dL_dropAll_7 : decode cL_dropAll 7 = Except.ok (Instr.i2l, 1) := vyd_133 (vyb_cL_dropAll_0 (i := 7) rfl)
theorem dL_dropAll_8 : decode cL_dropAll 8 = Except.ok (Instr.putfield 13, 3) := vyd_181 (vyb_cL_dropAll_0 (i := 8) rfl) (vyb_cL_dropAll_0 (i := 9) rfl) (vyb_cL_dropAll_1 (i := 0) rfl) rfl
theorem dL_dropAll_11 : decode cL_dropAll 11 = Except.ok (Instr.goto 11, 3) := vyd_167 (vyb_cL_dropAll_1 (i := 1) rfl) (vyb_cL_dropAll_1 (i := 2) rfl) (vyb_cL_dropAll_1 (i := 3) rfl) (by decide +kernel)
theorem dL_dropAll_14 : decode cL_dropAll 14 = Except.ok (Instr.astore 4, 2) := vyd_58 (vyb_cL_dropAll_1 (i := 4) rfl) (vyb_cL_dropAll_1 (i := 5) rfl) rfl
theorem dL_dropAll_16 : decode cL_dropAll 16 = Except.ok (Instr.iconst 1, 1) := vyd_4 (vyb_cL_dropAll_1 (i := 6) rfl)
theorem dL_dropAll_17 : decode cL_dropAll 17 = Except.ok (Instr.ireturn, 1) := vyd_172 (vyb_cL_dropAll_1 (i := 7) rfl)
theorem dL_dropAll_18 : decode cL_dropAll 18 = Except.ok (Instr.astore 4, 2) := vyd_58 (vyb_cL_dropAll_1 (i := 8) rfl) (vyb_cL_dropAll_1 (i := 9) rfl) rfl
theorem dL_dropAll_20 : decode cL_dropAll 20 = Except.ok (Instr.iconst 2, 1) := vyd_5 (vyb_cL_dropAll_2 (i := 0) rfl)
theorem dL_dropAll_21 : decode cL_dropAll 21 = Except.ok (Instr.ireturn, 1) := vyd_172 (vyb_cL_dropAll_2 (i := 1) rfl)
theorem dL_dropAll_22 : decode cL_dropAll 22 = Except.ok (Instr.iconst 0, 1) := vyd_3 (vyb_cL_dropAll_2 (i := 2) rfl)
theorem dL_dropAll_23 : decode cL_dropAll 23 = Except.ok (Instr.ireturn, 1) := vyd_172 (vyb_cL_dropAll_2 (i := 3) rfl)
theorem vyb_cL_shed_0 {i : Nat} {b : UInt8} (h : ([0x19, 0x05, 0x2a, 0x1b, 0x1c, 0x1d, 0x15, 0x04, 0xb6, 0x00] : List UInt8)[i]? = some b) : vy_8 cL_shed (0 + i) b := vy_in (n := 10) (by decide +kernel) h
theorem vyb_cL_shed_1 {i : Nat} {b : UInt8} (h : ([0x41, 0x85, 0xb5, 0x00, 0x0d, 0xa7, 0x00, 0x0b, 0x3a, 0x06] : List UInt8)[i]? = some b) : vy_8 cL_shed (10 + i) b := vy_in (n := 10) (by decide +kernel) h
theorem vyb_cL_shed_2 {i : Nat} {b : UInt8} (h : ([0x04, 0xac, 0x3a, 0x06, 0x05, 0xac, 0x03, 0xac] : List UInt8)[i]? = some b) : vy_8 cL_shed (20 + i) b := vy_in (n := 8) (by decide +kernel) h
theorem dL_shed_0 : decode cL_shed 0 = Except.ok (Instr.aload 5, 2) := vyd_25 (vyb_cL_shed_0 (i := 0) rfl) (vyb_cL_shed_0 (i := 1) rfl) rfl
theorem dL_shed_2 : decode cL_shed 2 = Except.ok (Instr.aload_n 0, 1) := vyd_42 (vyb_cL_shed_0 (i := 2) rfl)
theorem dL_shed_3 : decode cL_shed 3 = Except.ok (Instr.iload_n 1, 1) := vyd_27 (vyb_cL_shed_0 (i := 3) rfl)
theorem dL_shed_4 : decode cL_shed 4 = Except.ok (Instr.iload_n 2, 1) := vyd_28 (vyb_cL_shed_0 (i := 4) rfl)
theorem dL_shed_5 : decode cL_shed 5 = Except.ok (Instr.iload_n 3, 1) := vyd_29 (vyb_cL_shed_0 (i := 5) rfl)
theorem dL_shed_6 : decode cL_shed 6 = Except.ok (Instr.iload 4, 2) := vyd_21 (vyb_cL_shed_0 (i := 6) rfl) (vyb_cL_shed_0 (i := 7) rfl) rfl
theorem dL_shed_8 : decode cL_shed 8 = Except.ok (Instr.invokevirtual 65, 3) := vyd_182 (vyb_cL_shed_0 (i := 8) rfl) (vyb_cL_shed_0 (i := 9) rfl) (vyb_cL_shed_1 (i := 0) rfl) rfl
theorem dL_shed_11 : decode cL_shed 11 = Except.ok (Instr.i2l, 1) := vyd_133 (vyb_cL_shed_1 (i := 1) rfl)
theorem dL_shed_12 : decode cL_shed 12 = Except.ok (Instr.putfield 13, 3) := vyd_181 (vyb_cL_shed_1 (i := 2) rfl) (vyb_cL_shed_1 (i := 3) rfl) (vyb_cL_shed_1 (i := 4) rfl) rfl
theorem dL_shed_15 : decode cL_shed 15 = Except.ok (Instr.goto 11, 3) := vyd_167 (vyb_cL_shed_1 (i := 5) rfl) (vyb_cL_shed_1 (i := 6) rfl) (vyb_cL_shed_1 (i := 7) rfl) (by decide +kernel)
theorem dL_shed_18 : decode cL_shed 18 = Except.ok (Instr.astore 6, 2) := vyd_58 (vyb_cL_shed_1 (i := 8) rfl) (vyb_cL_shed_1 (i := 9) rfl) rfl
theorem dL_shed_20 : decode cL_shed 20 = Except.ok (Instr.iconst 1, 1) := vyd_4 (vyb_cL_shed_2 (i := 0) rfl)
theorem dL_shed_21 : decode cL_shed 21 = Except.ok (Instr.ireturn, 1) := vyd_172 (vyb_cL_shed_2 (i := 1) rfl)
theorem dL_shed_22 : decode cL_shed 22 = Except.ok (Instr.astore 6, 2) := vyd_58 (vyb_cL_shed_2 (i := 2) rfl) (vyb_cL_shed_2 (i := 3) rfl) rfl
theorem dL_shed_24 : decode cL_shed 24 = Except.ok (Instr.iconst 2, 1) := vyd_5 (vyb_cL_shed_2 (i := 4) rfl)
theorem dL_shed_25 : decode cL_shed 25 = Except.ok (Instr.ireturn, 1) := vyd_172 (vyb_cL_shed_2 (i := 5) rfl)
theorem dL_shed_26 : decode cL_shed 26 = Except.ok (Instr.iconst 0, 1) := vyd_3 (vyb_cL_shed_2 (i := 6) rfl)
theorem dL_shed_27 : decode cL_shed 27 = Except.ok (Instr.ireturn, 1) := vyd_172 (vyb_cL_shed_2 (i := 7) rfl)
theorem vyb_cL_thin_0 {i : Nat} {b : UInt8} (h : ([0x19, 0x04, 0x2a, 0x1b, 0x1c, 0x1d, 0xb6, 0x00, 0x44, 0x85] : List UInt8)[i]? = some b) : vy_8 cL_thin (0 + i) b := vy_in (n := 10) (by decide +kernel) h
theorem vyb_cL_thin_1 {i : Nat} {b : UInt8} (h : ([0xb5, 0x00, 0x0d, 0xa7, 0x00, 0x0b, 0x3a, 0x05, 0x04, 0xac] : List UInt8)[i]? = some b) : vy_8 cL_thin (10 + i) b := vy_in (n := 10) (by decide +kernel) h
theorem vyb_cL_thin_2 {i : Nat} {b : UInt8} (h : ([0x3a, 0x05, 0x05, 0xac, 0x03, 0xac] : List UInt8)[i]? = some b) : vy_8 cL_thin (20 + i) b := vy_in (n := 6) (by decide +kernel) h
theorem dL_thin_0 : decode cL_thin 0 = Except.ok (Instr.aload 4, 2) := vyd_25 (vyb_cL_thin_0 (i := 0) rfl) (vyb_cL_thin_0 (i := 1) rfl) rfl
theorem dL_thin_2 : decode cL_thin 2 = Except.ok (Instr.aload_n 0, 1) := vyd_42 (vyb_cL_thin_0 (i := 2) rfl)
theorem dL_thin_3 : decode cL_thin 3 = Except.ok (Instr.iload_n 1, 1) := vyd_27 (vyb_cL_thin_0 (i := 3) rfl)
theorem dL_thin_4 : decode cL_thin 4 = Except.ok (Instr.iload_n 2, 1) := vyd_28 (vyb_cL_thin_0 (i := 4) rfl)
theorem dL_thin_5 : decode cL_thin 5 = Except.ok (Instr.iload_n 3, 1) := vyd_29 (vyb_cL_thin_0 (i := 5) rfl)
theorem dL_thin_6 : decode cL_thin 6 = Except.ok (Instr.invokevirtual 68, 3) := vyd_182 (vyb_cL_thin_0 (i := 6) rfl) (vyb_cL_thin_0 (i := 7) rfl) (vyb_cL_thin_0 (i := 8) rfl) rfl
theorem dL_thin_9 : decode cL_thin 9 = Except.ok (Instr.i2l, 1) := vyd_133 (vyb_cL_thin_0 (i := 9) rfl)
theorem dL_thin_10 : decode cL_thin 10 = Except.ok (Instr.putfield 13, 3) := vyd_181 (vyb_cL_thin_1 (i := 0) rfl) (vyb_cL_thin_1 (i := 1) rfl) (vyb_cL_thin_1 (i := 2) rfl) rfl
theorem dL_thin_13 : decode cL_thin 13 = Except.ok (Instr.goto 11, 3) := vyd_167 (vyb_cL_thin_1 (i := 3) rfl) (vyb_cL_thin_1 (i := 4) rfl) (vyb_cL_thin_1 (i := 5) rfl) (by decide +kernel)
theorem dL_thin_16 : decode cL_thin 16 = Except.ok (Instr.astore 5, 2) := vyd_58 (vyb_cL_thin_1 (i := 6) rfl) (vyb_cL_thin_1 (i := 7) rfl) rfl
theorem dL_thin_18 : decode cL_thin 18 = Except.ok (Instr.iconst 1, 1) := vyd_4 (vyb_cL_thin_1 (i := 8) rfl)
theorem dL_thin_19 : decode cL_thin 19 = Except.ok (Instr.ireturn, 1) := vyd_172 (vyb_cL_thin_1 (i := 9) rfl)
theorem dL_thin_20 : decode cL_thin 20 = Except.ok (Instr.astore 5, 2) := vyd_58 (vyb_cL_thin_2 (i := 0) rfl) (vyb_cL_thin_2 (i := 1) rfl) rfl
theorem dL_thin_22 : decode cL_thin 22 = Except.ok (Instr.iconst 2, 1) := vyd_5 (vyb_cL_thin_2 (i := 2) rfl)
theorem dL_thin_23 : decode cL_thin 23 = Except.ok (Instr.ireturn, 1) := vyd_172 (vyb_cL_thin_2 (i := 3) rfl)
theorem dL_thin_24 : decode cL_thin 24 = Except.ok (Instr.iconst 0, 1) := vyd_3 (vyb_cL_thin_2 (i := 4) rfl)
theorem dL_thin_25 : decode cL_thin 25 = Except.ok (Instr.ireturn, 1) := vyd_172 (vyb_cL_thin_2 (i := 5) rfl)
theorem vyb_cL_turn_0 {i : Nat} {b : UInt8} (h : ([0x2c, 0x2a, 0x1b, 0xb6, 0x00, 0x48, 0x85, 0xb5, 0x00, 0x0d] : List UInt8)[i]? = some b) : vy_8 cL_turn (0 + i) b := vy_in (n := 10) (by decide +kernel) h
theorem vyb_cL_turn_1 {i : Nat} {b : UInt8} (h : ([0xa7, 0x00, 0x06, 0x4e, 0x04, 0xac, 0x03, 0xac] : List UInt8)[i]? = some b) : vy_8 cL_turn (10 + i) b := vy_in (n := 8) (by decide +kernel) h
theorem dL_turn_0 : decode cL_turn 0 = Except.ok (Instr.aload_n 2, 1) := vyd_44 (vyb_cL_turn_0 (i := 0) rfl)
theorem dL_turn_1 : decode cL_turn 1 = Except.ok (Instr.aload_n 0, 1) := vyd_42 (vyb_cL_turn_0 (i := 1) rfl)
theorem dL_turn_2 : decode cL_turn 2 = Except.ok (Instr.iload_n 1, 1) := vyd_27 (vyb_cL_turn_0 (i := 2) rfl)
theorem dL_turn_3 : decode cL_turn 3 = Except.ok (Instr.invokevirtual 72, 3) := vyd_182 (vyb_cL_turn_0 (i := 3) rfl) (vyb_cL_turn_0 (i := 4) rfl) (vyb_cL_turn_0 (i := 5) rfl) rfl
theorem dL_turn_6 : decode cL_turn 6 = Except.ok (Instr.i2l, 1) := vyd_133 (vyb_cL_turn_0 (i := 6) rfl)
theorem dL_turn_7 : decode cL_turn 7 = Except.ok (Instr.putfield 13, 3) := vyd_181 (vyb_cL_turn_0 (i := 7) rfl) (vyb_cL_turn_0 (i := 8) rfl) (vyb_cL_turn_0 (i := 9) rfl) rfl
theorem dL_turn_10 : decode cL_turn 10 = Except.ok (Instr.goto 6, 3) := vyd_167 (vyb_cL_turn_1 (i := 0) rfl) (vyb_cL_turn_1 (i := 1) rfl) (vyb_cL_turn_1 (i := 2) rfl) (by decide +kernel)
theorem dL_turn_13 : decode cL_turn 13 = Except.ok (Instr.astore_n 3, 1) := vyd_78 (vyb_cL_turn_1 (i := 3) rfl)
theorem dL_turn_14 : decode cL_turn 14 = Except.ok (Instr.iconst 1, 1) := vyd_4 (vyb_cL_turn_1 (i := 4) rfl)
theorem dL_turn_15 : decode cL_turn 15 = Except.ok (Instr.ireturn, 1) := vyd_172 (vyb_cL_turn_1 (i := 5) rfl)
theorem dL_turn_16 : decode cL_turn 16 = Except.ok (Instr.iconst 0, 1) := vyd_3 (vyb_cL_turn_1 (i := 6) rfl)
theorem dL_turn_17 : decode cL_turn 17 = Except.ok (Instr.ireturn, 1) := vyd_172 (vyb_cL_turn_1 (i := 7) rfl)
theorem vyb_cL_clear_0 {i : Nat} {b : UInt8} (h : ([0x2c, 0x2a, 0x1b, 0xb6, 0x00, 0x4b, 0x85, 0xb5, 0x00, 0x0d] : List UInt8)[i]? = some b) : vy_8 cL_clear (0 + i) b := vy_in (n := 10) (by decide +kernel) h
theorem vyb_cL_clear_1 {i : Nat} {b : UInt8} (h : ([0xa7, 0x00, 0x06, 0x4e, 0x04, 0xac, 0x03, 0xac] : List UInt8)[i]? = some b) : vy_8 cL_clear (10 + i) b := vy_in (n := 8) (by decide +kernel) h
theorem dL_clear_0 : decode cL_clear 0 = Except.ok (Instr.aload_n 2, 1) := vyd_44 (vyb_cL_clear_0 (i := 0) rfl)
theorem dL_clear_1 : decode cL_clear 1 = Except.ok (Instr.aload_n 0, 1) := vyd_42 (vyb_cL_clear_0 (i := 1) rfl)
theorem dL_clear_2 : decode cL_clear 2 = Except.ok (Instr.iload_n 1, 1) := vyd_27 (vyb_cL_clear_0 (i := 2) rfl)
theorem dL_clear_3 : decode cL_clear 3 = Except.ok (Instr.invokevirtual 75, 3) := vyd_182 (vyb_cL_clear_0 (i := 3) rfl) (vyb_cL_clear_0 (i := 4) rfl) (vyb_cL_clear_0 (i := 5) rfl) rfl
theorem dL_clear_6 : decode cL_clear 6 = Except.ok (Instr.i2l, 1) := vyd_133 (vyb_cL_clear_0 (i := 6) rfl)
theorem dL_clear_7 : decode cL_clear 7 = Except.ok (Instr.putfield 13, 3) := vyd_181 (vyb_cL_clear_0 (i := 7) rfl) (vyb_cL_clear_0 (i := 8) rfl) (vyb_cL_clear_0 (i := 9) rfl) rfl
theorem dL_clear_10 : decode cL_clear 10 = Except.ok (Instr.goto 6, 3) := vyd_167 (vyb_cL_clear_1 (i := 0) rfl) (vyb_cL_clear_1 (i := 1) rfl) (vyb_cL_clear_1 (i := 2) rfl) (by decide +kernel)
theorem dL_clear_13 : decode cL_clear 13 = Except.ok (Instr.astore_n 3, 1) := vyd_78 (vyb_cL_clear_1 (i := 3) rfl)
theorem dL_clear_14 : decode cL_clear 14 = Except.ok (Instr.iconst 1, 1) := vyd_4 (vyb_cL_clear_1 (i := 4) rfl)
theorem dL_clear_15 : decode cL_clear 15 = Except.ok (Instr.ireturn, 1) := vyd_172 (vyb_cL_clear_1 (i := 5) rfl)
theorem dL_clear_16 : decode cL_clear 16 = Except.ok (Instr.iconst 0, 1) := vyd_3 (vyb_cL_clear_1 (i := 6) rfl)
theorem dL_clear_17 : decode cL_clear 17 = Except.ok (Instr.ireturn, 1) := vyd_172 (vyb_cL_clear_1 (i := 7) rfl)
theorem vyb_cL_step_0 {i : Nat} {b : UInt8} (h : ([0x2b, 0x2a, 0xb6, 0x00, 0x4e, 0x85, 0xb5, 0x00, 0x0d, 0xa7] : List UInt8)[i]? = some b) : vy_8 cL_step (0 + i) b := vy_in (n := 10) (by decide +kernel) h
theorem vyb_cL_step_1 {i : Nat} {b : UInt8} (h : ([0x00, 0x06, 0x4d, 0x04, 0xac, 0x03, 0xac] : List UInt8)[i]? = some b) : vy_8 cL_step (10 + i) b := vy_in (n := 7) (by decide +kernel) h
theorem dL_step_0 : decode cL_step 0 = Except.ok (Instr.aload_n 1, 1) := vyd_43 (vyb_cL_step_0 (i := 0) rfl)
theorem dL_step_1 : decode cL_step 1 = Except.ok (Instr.aload_n 0, 1) := vyd_42 (vyb_cL_step_0 (i := 1) rfl)
theorem dL_step_2 : decode cL_step 2 = Except.ok (Instr.invokevirtual 78, 3) := vyd_182 (vyb_cL_step_0 (i := 2) rfl) (vyb_cL_step_0 (i := 3) rfl) (vyb_cL_step_0 (i := 4) rfl) rfl
theorem dL_step_5 : decode cL_step 5 = Except.ok (Instr.i2l, 1) := vyd_133 (vyb_cL_step_0 (i := 5) rfl)
theorem dL_step_6 : decode cL_step 6 = Except.ok (Instr.putfield 13, 3) := vyd_181 (vyb_cL_step_0 (i := 6) rfl) (vyb_cL_step_0 (i := 7) rfl) (vyb_cL_step_0 (i := 8) rfl) rfl
theorem dL_step_9 : decode cL_step 9 = Except.ok (Instr.goto 6, 3) := vyd_167 (vyb_cL_step_0 (i := 9) rfl) (vyb_cL_step_1 (i := 0) rfl) (vyb_cL_step_1 (i := 1) rfl) (by decide +kernel)
theorem dL_step_12 : decode cL_step 12 = Except.ok (Instr.astore_n 2, 1) := vyd_77 (vyb_cL_step_1 (i := 2) rfl)
theorem dL_step_13 : decode cL_step 13 = Except.ok (Instr.iconst 1, 1) := vyd_4 (vyb_cL_step_1 (i := 3) rfl)
theorem dL_step_14 : decode cL_step 14 = Except.ok (Instr.ireturn, 1) := vyd_172 (vyb_cL_step_1 (i := 4) rfl)
theorem dL_step_15 : decode cL_step 15 = Except.ok (Instr.iconst 0, 1) := vyd_3 (vyb_cL_step_1 (i := 5) rfl)
theorem dL_step_16 : decode cL_step 16 = Except.ok (Instr.ireturn, 1) := vyd_172 (vyb_cL_step_1 (i := 6) rfl)
theorem vyb_cL_pluck_0 {i : Nat} {b : UInt8} (h : ([0x2b, 0x2a, 0xb6, 0x00, 0x52, 0x85, 0xb5, 0x00, 0x0d, 0xa7] : List UInt8)[i]? = some b) : vy_8 cL_pluck (0 + i) b := vy_in (n := 10) (by decide +kernel) h
theorem vyb_cL_pluck_1 {i : Nat} {b : UInt8} (h : ([0x00, 0x06, 0x4d, 0x04, 0xac, 0x03, 0xac] : List UInt8)[i]? = some b) : vy_8 cL_pluck (10 + i) b := vy_in (n := 7) (by decide +kernel) h
theorem dL_pluck_0 : decode cL_pluck 0 = Except.ok (Instr.aload_n 1, 1) := vyd_43 (vyb_cL_pluck_0 (i := 0) rfl)
theorem dL_pluck_1 : decode cL_pluck 1 = Except.ok (Instr.aload_n 0, 1) := vyd_42 (vyb_cL_pluck_0 (i := 1) rfl)
theorem dL_pluck_2 : decode cL_pluck 2 = Except.ok (Instr.invokevirtual 82, 3) := vyd_182 (vyb_cL_pluck_0 (i := 2) rfl) (vyb_cL_pluck_0 (i := 3) rfl) (vyb_cL_pluck_0 (i := 4) rfl) rfl
theorem dL_pluck_5 : decode cL_pluck 5 = Except.ok (Instr.i2l, 1) := vyd_133 (vyb_cL_pluck_0 (i := 5) rfl)
theorem dL_pluck_6 : decode cL_pluck 6 = Except.ok (Instr.putfield 13, 3) := vyd_181 (vyb_cL_pluck_0 (i := 6) rfl) (vyb_cL_pluck_0 (i := 7) rfl) (vyb_cL_pluck_0 (i := 8) rfl) rfl
theorem dL_pluck_9 : decode cL_pluck 9 = Except.ok (Instr.goto 6, 3) := vyd_167 (vyb_cL_pluck_0 (i := 9) rfl) (vyb_cL_pluck_1 (i := 0) rfl) (vyb_cL_pluck_1 (i := 1) rfl) (by decide +kernel)
theorem dL_pluck_12 : decode cL_pluck 12 = Except.ok (Instr.astore_n 2, 1) := vyd_77 (vyb_cL_pluck_1 (i := 2) rfl)
theorem dL_pluck_13 : decode cL_pluck 13 = Except.ok (Instr.iconst 1, 1) := vyd_4 (vyb_cL_pluck_1 (i := 3) rfl)
theorem dL_pluck_14 : decode cL_pluck 14 = Except.ok (Instr.ireturn, 1) := vyd_172 (vyb_cL_pluck_1 (i := 4) rfl)
theorem dL_pluck_15 : decode cL_pluck 15 = Except.ok (Instr.iconst 0, 1) := vyd_3 (vyb_cL_pluck_1 (i := 5) rfl)
theorem dL_pluck_16 : decode cL_pluck 16 = Except.ok (Instr.ireturn, 1) := vyd_172 (vyb_cL_pluck_1 (i := 6) rfl)
theorem vyb_cL_insert_0 {i : Nat} {b : UInt8} (h : ([0x19, 0x04, 0x2a, 0x1b, 0x1c, 0x1d, 0xb6, 0x00, 0x55, 0x85] : List UInt8)[i]? = some b) : vy_8 cL_insert (0 + i) b := vy_in (n := 10) (by decide +kernel) h
theorem vyb_cL_insert_1 {i : Nat} {b : UInt8} (h : ([0xb5, 0x00, 0x0d, 0xa7, 0x00, 0x0f, 0x3a, 0x05, 0x04, 0xac] : List UInt8)[i]? = some b) : vy_8 cL_insert (10 + i) b := vy_in (n := 10) (by decide +kernel) h
theorem vyb_cL_insert_2 {i : Nat} {b : UInt8} (h : ([0x3a, 0x05, 0x05, 0xac, 0x3a, 0x05, 0x06, 0xac, 0x03, 0xac] : List UInt8)[i]? = some b) : vy_8 cL_insert (20 + i) b := vy_in (n := 10) (by decide +kernel) h
theorem dL_insert_0 : decode cL_insert 0 = Except.ok (Instr.aload 4, 2) := vyd_25 (vyb_cL_insert_0 (i := 0) rfl) (vyb_cL_insert_0 (i := 1) rfl) rfl
theorem dL_insert_2 : decode cL_insert 2 = Except.ok (Instr.aload_n 0, 1) := vyd_42 (vyb_cL_insert_0 (i := 2) rfl)
theorem dL_insert_3 : decode cL_insert 3 = Except.ok (Instr.iload_n 1, 1) := vyd_27 (vyb_cL_insert_0 (i := 3) rfl)
theorem dL_insert_4 : decode cL_insert 4 = Except.ok (Instr.iload_n 2, 1) := vyd_28 (vyb_cL_insert_0 (i := 4) rfl)
theorem dL_insert_5 : decode cL_insert 5 = Except.ok (Instr.iload_n 3, 1) := vyd_29 (vyb_cL_insert_0 (i := 5) rfl)
theorem dL_insert_6 : decode cL_insert 6 = Except.ok (Instr.invokevirtual 85, 3) := vyd_182 (vyb_cL_insert_0 (i := 6) rfl) (vyb_cL_insert_0 (i := 7) rfl) (vyb_cL_insert_0 (i := 8) rfl) rfl
theorem dL_insert_9 : decode cL_insert 9 = Except.ok (Instr.i2l, 1) := vyd_133 (vyb_cL_insert_0 (i := 9) rfl)
theorem dL_insert_10 : decode cL_insert 10 = Except.ok (Instr.putfield 13, 3) := vyd_181 (vyb_cL_insert_1 (i := 0) rfl) (vyb_cL_insert_1 (i := 1) rfl) (vyb_cL_insert_1 (i := 2) rfl) rfl
theorem dL_insert_13 : decode cL_insert 13 = Except.ok (Instr.goto 15, 3) := vyd_167 (vyb_cL_insert_1 (i := 3) rfl) (vyb_cL_insert_1 (i := 4) rfl) (vyb_cL_insert_1 (i := 5) rfl) (by decide +kernel)
theorem dL_insert_16 : decode cL_insert 16 = Except.ok (Instr.astore 5, 2) := vyd_58 (vyb_cL_insert_1 (i := 6) rfl) (vyb_cL_insert_1 (i := 7) rfl) rfl
theorem dL_insert_18 : decode cL_insert 18 = Except.ok (Instr.iconst 1, 1) := vyd_4 (vyb_cL_insert_1 (i := 8) rfl)
theorem dL_insert_19 : decode cL_insert 19 = Except.ok (Instr.ireturn, 1) := vyd_172 (vyb_cL_insert_1 (i := 9) rfl)
theorem dL_insert_20 : decode cL_insert 20 = Except.ok (Instr.astore 5, 2) := vyd_58 (vyb_cL_insert_2 (i := 0) rfl) (vyb_cL_insert_2 (i := 1) rfl) rfl
theorem dL_insert_22 : decode cL_insert 22 = Except.ok (Instr.iconst 2, 1) := vyd_5 (vyb_cL_insert_2 (i := 2) rfl)
theorem dL_insert_23 : decode cL_insert 23 = Except.ok (Instr.ireturn, 1) := vyd_172 (vyb_cL_insert_2 (i := 3) rfl)
theorem dL_insert_24 : decode cL_insert 24 = Except.ok (Instr.astore 5, 2) := vyd_58 (vyb_cL_insert_2 (i := 4) rfl) (vyb_cL_insert_2 (i := 5) rfl) rfl
theorem dL_insert_26 : decode cL_insert 26 = Except.ok (Instr.iconst 3, 1) := vyd_6 (vyb_cL_insert_2 (i := 6) rfl)
theorem dL_insert_27 : decode cL_insert 27 = Except.ok (Instr.ireturn, 1) := vyd_172 (vyb_cL_insert_2 (i := 7) rfl)
theorem dL_insert_28 : decode cL_insert 28 = Except.ok (Instr.iconst 0, 1) := vyd_3 (vyb_cL_insert_2 (i := 8) rfl)
theorem dL_insert_29 : decode cL_insert 29 = Except.ok (Instr.ireturn, 1) := vyd_172 (vyb_cL_insert_2 (i := 9) rfl)
theorem vyb_cL_cut_0 {i : Nat} {b : UInt8} (h : ([0x2c, 0x2a, 0x1b, 0xb6, 0x00, 0x58, 0x85, 0xb5, 0x00, 0x0d] : List UInt8)[i]? = some b) : vy_8 cL_cut (0 + i) b := vy_in (n := 10) (by decide +kernel) h
theorem vyb_cL_cut_1 {i : Nat} {b : UInt8} (h : ([0xa7, 0x00, 0x06, 0x4e, 0x04, 0xac, 0x03, 0xac] : List UInt8)[i]? = some b) : vy_8 cL_cut (10 + i) b := vy_in (n := 8) (by decide +kernel) h
theorem dL_cut_0 : decode cL_cut 0 = Except.ok (Instr.aload_n 2, 1) := vyd_44 (vyb_cL_cut_0 (i := 0) rfl)
theorem dL_cut_1 : decode cL_cut 1 = Except.ok (Instr.aload_n 0, 1) := vyd_42 (vyb_cL_cut_0 (i := 1) rfl)
theorem dL_cut_2 : decode cL_cut 2 = Except.ok (Instr.iload_n 1, 1) := vyd_27 (vyb_cL_cut_0 (i := 2) rfl)
theorem dL_cut_3 : decode cL_cut 3 = Except.ok (Instr.invokevirtual 88, 3) := vyd_182 (vyb_cL_cut_0 (i := 3) rfl) (vyb_cL_cut_0 (i := 4) rfl) (vyb_cL_cut_0 (i := 5) rfl) rfl
theorem dL_cut_6 : decode cL_cut 6 = Except.ok (Instr.i2l, 1) := vyd_133 (vyb_cL_cut_0 (i := 6) rfl)
theorem dL_cut_7 : decode cL_cut 7 = Except.ok (Instr.putfield 13, 3) := vyd_181 (vyb_cL_cut_0 (i := 7) rfl) (vyb_cL_cut_0 (i := 8) rfl) (vyb_cL_cut_0 (i := 9) rfl) rfl
theorem dL_cut_10 : decode cL_cut 10 = Except.ok (Instr.goto 6, 3) := vyd_167 (vyb_cL_cut_1 (i := 0) rfl) (vyb_cL_cut_1 (i := 1) rfl) (vyb_cL_cut_1 (i := 2) rfl) (by decide +kernel)
theorem dL_cut_13 : decode cL_cut 13 = Except.ok (Instr.astore_n 3, 1) := vyd_78 (vyb_cL_cut_1 (i := 3) rfl)
theorem dL_cut_14 : decode cL_cut 14 = Except.ok (Instr.iconst 1, 1) := vyd_4 (vyb_cL_cut_1 (i := 4) rfl)
theorem dL_cut_15 : decode cL_cut 15 = Except.ok (Instr.ireturn, 1) := vyd_172 (vyb_cL_cut_1 (i := 5) rfl)
theorem dL_cut_16 : decode cL_cut 16 = Except.ok (Instr.iconst 0, 1) := vyd_3 (vyb_cL_cut_1 (i := 6) rfl)
theorem dL_cut_17 : decode cL_cut 17 = Except.ok (Instr.ireturn, 1) := vyd_172 (vyb_cL_cut_1 (i := 7) rfl)
theorem vyb_cL_replace_0 {i : Nat} {b : UInt8} (h : ([0x19, 0x04, 0x2a, 0x1b, 0x1c, 0x1d, 0xb6, 0x00, 0x5b, 0x85] : List UInt8)[i]? = some b) : vy_8 cL_replace (0 + i) b := vy_in (n := 10) (by decide +kernel) h
theorem vyb_cL_replace_1 {i : Nat} {b : UInt8} (h : ([0xb5, 0x00, 0x0d, 0xa7, 0x00, 0x0b, 0x3a, 0x05, 0x04, 0xac] : List UInt8)[i]? = some b) : vy_8 cL_replace (10 + i) b := vy_in (n := 10) (by decide +kernel) h
theorem vyb_cL_replace_2 {i : Nat} {b : UInt8} (h : ([0x3a, 0x05, 0x05, 0xac, 0x03, 0xac] : List UInt8)[i]? = some b) : vy_8 cL_replace (20 + i) b := vy_in (n := 6) (by decide +kernel) h
theorem dL_replace_0 : decode cL_replace 0 = Except.ok (Instr.aload 4, 2) := vyd_25 (vyb_cL_replace_0 (i := 0) rfl) (vyb_cL_replace_0 (i := 1) rfl) rfl
theorem dL_replace_2 : decode cL_replace 2 = Except.ok (Instr.aload_n 0, 1) := vyd_42 (vyb_cL_replace_0 (i := 2) rfl)
theorem dL_replace_3 : decode cL_replace 3 = Except.ok (Instr.iload_n 1, 1) := vyd_27 (vyb_cL_replace_0 (i := 3) rfl)
theorem dL_replace_4 : decode cL_replace 4 = Except.ok (Instr.iload_n 2, 1) := vyd_28 (vyb_cL_replace_0 (i := 4) rfl)
theorem dL_replace_5 : decode cL_replace 5 = Except.ok (Instr.iload_n 3, 1) := vyd_29 (vyb_cL_replace_0 (i := 5) rfl)
theorem dL_replace_6 : decode cL_replace 6 = Except.ok (Instr.invokevirtual 91, 3) := vyd_182 (vyb_cL_replace_0 (i := 6) rfl) (vyb_cL_replace_0 (i := 7) rfl) (vyb_cL_replace_0 (i := 8) rfl) rfl
theorem dL_replace_9 : decode cL_replace 9 = Except.ok (Instr.i2l, 1) := vyd_133 (vyb_cL_replace_0 (i := 9) rfl)
theorem dL_replace_10 : decode cL_replace 10 = Except.ok (Instr.putfield 13, 3) := vyd_181 (vyb_cL_replace_1 (i := 0) rfl) (vyb_cL_replace_1 (i := 1) rfl) (vyb_cL_replace_1 (i := 2) rfl) rfl
theorem dL_replace_13 : decode cL_replace 13 = Except.ok (Instr.goto 11, 3) := vyd_167 (vyb_cL_replace_1 (i := 3) rfl) (vyb_cL_replace_1 (i := 4) rfl) (vyb_cL_replace_1 (i := 5) rfl) (by decide +kernel)
theorem dL_replace_16 : decode cL_replace 16 = Except.ok (Instr.astore 5, 2) := vyd_58 (vyb_cL_replace_1 (i := 6) rfl) (vyb_cL_replace_1 (i := 7) rfl) rfl
theorem dL_replace_18 : decode cL_replace 18 = Except.ok (Instr.iconst 1, 1) := vyd_4 (vyb_cL_replace_1 (i := 8) rfl)
theorem dL_replace_19 : decode cL_replace 19 = Except.ok (Instr.ireturn, 1) := vyd_172 (vyb_cL_replace_1 (i := 9) rfl)
theorem dL_replace_20 : decode cL_replace 20 = Except.ok (Instr.astore 5, 2) := vyd_58 (vyb_cL_replace_2 (i := 0) rfl) (vyb_cL_replace_2 (i := 1) rfl) rfl
theorem dL_replace_22 : decode cL_replace 22 = Except.ok (Instr.iconst 2, 1) := vyd_5 (vyb_cL_replace_2 (i := 2) rfl)
theorem dL_replace_23 : decode cL_replace 23 = Except.ok (Instr.ireturn, 1) := vyd_172 (vyb_cL_replace_2 (i := 3) rfl)
theorem dL_replace_24 : decode cL_replace 24 = Except.ok (Instr.iconst 0, 1) := vyd_3 (vyb_cL_replace_2 (i := 4) rfl)
theorem dL_replace_25 : decode cL_replace 25 = Except.ok (Instr.ireturn, 1) := vyd_172 (vyb_cL_replace_2 (i := 5) rfl)
theorem vyb_cL_at_0 {i : Nat} {b : UInt8} (h : ([0x2c, 0x2a, 0x1b, 0xb6, 0x00, 0x5e, 0x85, 0xb5, 0x00, 0x0d] : List UInt8)[i]? = some b) : vy_8 cL_at (0 + i) b := vy_in (n := 10) (by decide +kernel) h
theorem vyb_cL_at_1 {i : Nat} {b : UInt8} (h : ([0xa7, 0x00, 0x06, 0x4e, 0x04, 0xac, 0x03, 0xac] : List UInt8)[i]? = some b) : vy_8 cL_at (10 + i) b := vy_in (n := 8) (by decide +kernel) h
theorem dL_at_0 : decode cL_at 0 = Except.ok (Instr.aload_n 2, 1) := vyd_44 (vyb_cL_at_0 (i := 0) rfl)
theorem dL_at_1 : decode cL_at 1 = Except.ok (Instr.aload_n 0, 1) := vyd_42 (vyb_cL_at_0 (i := 1) rfl)
theorem dL_at_2 : decode cL_at 2 = Except.ok (Instr.iload_n 1, 1) := vyd_27 (vyb_cL_at_0 (i := 2) rfl)
theorem dL_at_3 : decode cL_at 3 = Except.ok (Instr.invokevirtual 94, 3) := vyd_182 (vyb_cL_at_0 (i := 3) rfl) (vyb_cL_at_0 (i := 4) rfl) (vyb_cL_at_0 (i := 5) rfl) rfl
theorem dL_at_6 : decode cL_at 6 = Except.ok (Instr.i2l, 1) := vyd_133 (vyb_cL_at_0 (i := 6) rfl)
theorem dL_at_7 : decode cL_at 7 = Except.ok (Instr.putfield 13, 3) := vyd_181 (vyb_cL_at_0 (i := 7) rfl) (vyb_cL_at_0 (i := 8) rfl) (vyb_cL_at_0 (i := 9) rfl) rfl
theorem dL_at_10 : decode cL_at 10 = Except.ok (Instr.goto 6, 3) := vyd_167 (vyb_cL_at_1 (i := 0) rfl) (vyb_cL_at_1 (i := 1) rfl) (vyb_cL_at_1 (i := 2) rfl) (by decide +kernel)
theorem dL_at_13 : decode cL_at 13 = Except.ok (Instr.astore_n 3, 1) := vyd_78 (vyb_cL_at_1 (i := 3) rfl)
theorem dL_at_14 : decode cL_at 14 = Except.ok (Instr.iconst 1, 1) := vyd_4 (vyb_cL_at_1 (i := 4) rfl)
theorem dL_at_15 : decode cL_at 15 = Except.ok (Instr.ireturn, 1) := vyd_172 (vyb_cL_at_1 (i := 5) rfl)
theorem dL_at_16 : decode cL_at 16 = Except.ok (Instr.iconst 0, 1) := vyd_3 (vyb_cL_at_1 (i := 6) rfl)
theorem dL_at_17 : decode cL_at 17 = Except.ok (Instr.ireturn, 1) := vyd_172 (vyb_cL_at_1 (i := 7) rfl)
theorem vyb_cL_find_0 {i : Nat} {b : UInt8} (h : ([0x2d, 0x2a, 0x1b, 0x1c, 0xb6, 0x00, 0x61, 0x85, 0xb5, 0x00] : List UInt8)[i]? = some b) : vy_8 cL_find (0 + i) b := vy_in (n := 10) (by decide +kernel) h
theorem vyb_cL_find_1 {i : Nat} {b : UInt8} (h : ([0x0d, 0xa7, 0x00, 0x07, 0x3a, 0x04, 0x04, 0xac, 0x03, 0xac] : List UInt8)[i]? = some b) : vy_8 cL_find (10 + i) b := vy_in (n := 10) (by decide +kernel) h
theorem dL_find_0 : decode cL_find 0 = Except.ok (Instr.aload_n 3, 1) := vyd_45 (vyb_cL_find_0 (i := 0) rfl)
theorem dL_find_1 : decode cL_find 1 = Except.ok (Instr.aload_n 0, 1) := vyd_42 (vyb_cL_find_0 (i := 1) rfl)
theorem dL_find_2 : decode cL_find 2 = Except.ok (Instr.iload_n 1, 1) := vyd_27 (vyb_cL_find_0 (i := 2) rfl)
theorem dL_find_3 : decode cL_find 3 = Except.ok (Instr.iload_n 2, 1) := vyd_28 (vyb_cL_find_0 (i := 3) rfl)
theorem dL_find_4 : decode cL_find 4 = Except.ok (Instr.invokevirtual 97, 3) := vyd_182 (vyb_cL_find_0 (i := 4) rfl) (vyb_cL_find_0 (i := 5) rfl) (vyb_cL_find_0 (i := 6) rfl) rfl
theorem dL_find_7 : decode cL_find 7 = Except.ok (Instr.i2l, 1) := vyd_133 (vyb_cL_find_0 (i := 7) rfl)
theorem dL_find_8 : decode cL_find 8 = Except.ok (Instr.putfield 13, 3) := vyd_181 (vyb_cL_find_0 (i := 8) rfl) (vyb_cL_find_0 (i := 9) rfl) (vyb_cL_find_1 (i := 0) rfl) rfl
theorem dL_find_11 : decode cL_find 11 = Except.ok (Instr.goto 7, 3) := vyd_167 (vyb_cL_find_1 (i := 1) rfl) (vyb_cL_find_1 (i := 2) rfl) (vyb_cL_find_1 (i := 3) rfl) (by decide +kernel)
theorem dL_find_14 : decode cL_find 14 = Except.ok (Instr.astore 4, 2) := vyd_58 (vyb_cL_find_1 (i := 4) rfl) (vyb_cL_find_1 (i := 5) rfl) rfl
theorem dL_find_16 : decode cL_find 16 = Except.ok (Instr.iconst 1, 1) := vyd_4 (vyb_cL_find_1 (i := 6) rfl)
theorem dL_find_17 : decode cL_find 17 = Except.ok (Instr.ireturn, 1) := vyd_172 (vyb_cL_find_1 (i := 7) rfl)
theorem dL_find_18 : decode cL_find 18 = Except.ok (Instr.iconst 0, 1) := vyd_3 (vyb_cL_find_1 (i := 8) rfl)
theorem dL_find_19 : decode cL_find 19 = Except.ok (Instr.ireturn, 1) := vyd_172 (vyb_cL_find_1 (i := 9) rfl)
theorem vyb_cL_splice_0 {i : Nat} {b : UInt8} (h : ([0x2c, 0x2a, 0x1b, 0xb6, 0x00, 0x64, 0x85, 0xb5, 0x00, 0x0d] : List UInt8)[i]? = some b) : vy_8 cL_splice (0 + i) b := vy_in (n := 10) (by decide +kernel) h
theorem vyb_cL_splice_1 {i : Nat} {b : UInt8} (h : ([0xa7, 0x00, 0x09, 0x4e, 0x04, 0xac, 0x4e, 0x05, 0xac, 0x03] : List UInt8)[i]? = some b) : vy_8 cL_splice (10 + i) b := vy_in (n := 10) (by decide +kernel) h
theorem vyb_cL_splice_2 {i : Nat} {b : UInt8} (h : ([0xac] : List UInt8)[i]? = some b) : vy_8 cL_splice (20 + i) b := vy_in (n := 1) (by decide +kernel) h
theorem dL_splice_0 : decode cL_splice 0 = Except.ok (Instr.aload_n 2, 1) := vyd_44 (vyb_cL_splice_0 (i := 0) rfl)
theorem dL_splice_1 : decode cL_splice 1 = Except.ok (Instr.aload_n 0, 1) := vyd_42 (vyb_cL_splice_0 (i := 1) rfl)
theorem dL_splice_2 : decode cL_splice 2 = Except.ok (Instr.iload_n 1, 1) := vyd_27 (vyb_cL_splice_0 (i := 2) rfl)
theorem dL_splice_3 : decode cL_splice 3 = Except.ok (Instr.invokevirtual 100, 3) := vyd_182 (vyb_cL_splice_0 (i := 3) rfl) (vyb_cL_splice_0 (i := 4) rfl) (vyb_cL_splice_0 (i := 5) rfl) rfl
theorem dL_splice_6 : decode cL_splice 6 = Except.ok (Instr.i2l, 1) := vyd_133 (vyb_cL_splice_0 (i := 6) rfl)
theorem dL_splice_7 : decode cL_splice 7 = Except.ok (Instr.putfield 13, 3) := vyd_181 (vyb_cL_splice_0 (i := 7) rfl) (vyb_cL_splice_0 (i := 8) rfl) (vyb_cL_splice_0 (i := 9) rfl) rfl
theorem dL_splice_10 : decode cL_splice 10 = Except.ok (Instr.goto 9, 3) := vyd_167 (vyb_cL_splice_1 (i := 0) rfl) (vyb_cL_splice_1 (i := 1) rfl) (vyb_cL_splice_1 (i := 2) rfl) (by decide +kernel)
theorem dL_splice_13 : decode cL_splice 13 = Except.ok (Instr.astore_n 3, 1) := vyd_78 (vyb_cL_splice_1 (i := 3) rfl)
theorem dL_splice_14 : decode cL_splice 14 = Except.ok (Instr.iconst 1, 1) := vyd_4 (vyb_cL_splice_1 (i := 4) rfl)
theorem dL_splice_15 : decode cL_splice 15 = Except.ok (Instr.ireturn, 1) := vyd_172 (vyb_cL_splice_1 (i := 5) rfl)
theorem dL_splice_16 : decode cL_splice 16 = Except.ok (Instr.astore_n 3, 1) := vyd_78 (vyb_cL_splice_1 (i := 6) rfl)
theorem dL_splice_17 : decode cL_splice 17 = Except.ok (Instr.iconst 2, 1) := vyd_5 (vyb_cL_splice_1 (i := 7) rfl)
theorem dL_splice_18 : decode cL_splice 18 = Except.ok (Instr.ireturn, 1) := vyd_172 (vyb_cL_splice_1 (i := 8) rfl)
theorem dL_splice_19 : decode cL_splice 19 = Except.ok (Instr.iconst 0, 1) := vyd_3 (vyb_cL_splice_1 (i := 9) rfl)
theorem dL_splice_20 : decode cL_splice 20 = Except.ok (Instr.ireturn, 1) := vyd_172 (vyb_cL_splice_2 (i := 0) rfl)
theorem vyb_cL_shunt_0 {i : Nat} {b : UInt8} (h : ([0x2d, 0x2a, 0x1b, 0x1c, 0xb6, 0x00, 0x67, 0x85, 0xb5, 0x00] : List UInt8)[i]? = some b) : vy_8 cL_shunt (0 + i) b := vy_in (n := 10) (by decide +kernel) h
theorem vyb_cL_shunt_1 {i : Nat} {b : UInt8} (h : ([0x0d, 0xa7, 0x00, 0x0f, 0x3a, 0x04, 0x04, 0xac, 0x3a, 0x04] : List UInt8)[i]? = some b) : vy_8 cL_shunt (10 + i) b := vy_in (n := 10) (by decide +kernel) h
theorem vyb_cL_shunt_2 {i : Nat} {b : UInt8} (h : ([0x05, 0xac, 0x3a, 0x04, 0x06, 0xac, 0x03, 0xac] : List UInt8)[i]? = some b) : vy_8 cL_shunt (20 + i) b := vy_in (n := 8) (by decide +kernel) h
theorem dL_shunt_0 : decode cL_shunt 0 = Except.ok (Instr.aload_n 3, 1) := vyd_45 (vyb_cL_shunt_0 (i := 0) rfl)
theorem dL_shunt_1 : decode cL_shunt 1 = Except.ok (Instr.aload_n 0, 1) := vyd_42 (vyb_cL_shunt_0 (i := 1) rfl)
theorem dL_shunt_2 : decode cL_shunt 2 = Except.ok (Instr.iload_n 1, 1) := vyd_27 (vyb_cL_shunt_0 (i := 2) rfl)
theorem dL_shunt_3 : decode cL_shunt 3 = Except.ok (Instr.iload_n 2, 1) := vyd_28 (vyb_cL_shunt_0 (i := 3) rfl)
theorem dL_shunt_4 : decode cL_shunt 4 = Except.ok (Instr.invokevirtual 103, 3) := vyd_182 (vyb_cL_shunt_0 (i := 4) rfl) (vyb_cL_shunt_0 (i := 5) rfl) (vyb_cL_shunt_0 (i := 6) rfl) rfl
theorem dL_shunt_7 : decode cL_shunt 7 = Except.ok (Instr.i2l, 1) := vyd_133 (vyb_cL_shunt_0 (i := 7) rfl)
theorem dL_shunt_8 : decode cL_shunt 8 = Except.ok (Instr.putfield 13, 3) := vyd_181 (vyb_cL_shunt_0 (i := 8) rfl) (vyb_cL_shunt_0 (i := 9) rfl) (vyb_cL_shunt_1 (i := 0) rfl) rfl
theorem dL_shunt_11 : decode cL_shunt 11 = Except.ok (Instr.goto 15, 3) := vyd_167 (vyb_cL_shunt_1 (i := 1) rfl) (vyb_cL_shunt_1 (i := 2) rfl) (vyb_cL_shunt_1 (i := 3) rfl) (by decide +kernel)
theorem dL_shunt_14 : decode cL_shunt 14 = Except.ok (Instr.astore 4, 2) := vyd_58 (vyb_cL_shunt_1 (i := 4) rfl) (vyb_cL_shunt_1 (i := 5) rfl) rfl
theorem dL_shunt_16 : decode cL_shunt 16 = Except.ok (Instr.iconst 1, 1) := vyd_4 (vyb_cL_shunt_1 (i := 6) rfl)
theorem dL_shunt_17 : decode cL_shunt 17 = Except.ok (Instr.ireturn, 1) := vyd_172 (vyb_cL_shunt_1 (i := 7) rfl)
theorem dL_shunt_18 : decode cL_shunt 18 = Except.ok (Instr.astore 4, 2) := vyd_58 (vyb_cL_shunt_1 (i := 8) rfl) (vyb_cL_shunt_1 (i := 9) rfl) rfl
theorem dL_shunt_20 : decode cL_shunt 20 = Except.ok (Instr.iconst 2, 1) := vyd_5 (vyb_cL_shunt_2 (i := 0) rfl)
theorem dL_shunt_21 : decode cL_shunt 21 = Except.ok (Instr.ireturn, 1) := vyd_172 (vyb_cL_shunt_2 (i := 1) rfl)
theorem dL_shunt_22 : decode cL_shunt 22 = Except.ok (Instr.astore 4, 2) := vyd_58 (vyb_cL_shunt_2 (i := 2) rfl) (vyb_cL_shunt_2 (i := 3) rfl) rfl
theorem dL_shunt_24 : decode cL_shunt 24 = Except.ok (Instr.iconst 3, 1) := vyd_6 (vyb_cL_shunt_2 (i := 4) rfl)
theorem dL_shunt_25 : decode cL_shunt 25 = Except.ok (Instr.ireturn, 1) := vyd_172 (vyb_cL_shunt_2 (i := 5) rfl)
theorem dL_shunt_26 : decode cL_shunt 26 = Except.ok (Instr.iconst 0, 1) := vyd_3 (vyb_cL_shunt_2 (i := 6) rfl)
theorem dL_shunt_27 : decode cL_shunt 27 = Except.ok (Instr.ireturn, 1) := vyd_172 (vyb_cL_shunt_2 (i := 7) rfl)
theorem vyb_cL_stand_0 {i : Nat} {b : UInt8} (h : ([0x2d, 0x2a, 0x1b, 0x1c, 0xb6, 0x00, 0x6a, 0x85, 0xb5, 0x00] : List UInt8)[i]? = some b) : vy_8 cL_stand (0 + i) b := vy_in (n := 10) (by decide +kernel) h
theorem vyb_cL_stand_1 {i : Nat} {b : UInt8} (h : ([0x0d, 0xa7, 0x00, 0x07, 0x3a, 0x04, 0x04, 0xac, 0x03, 0xac] : List UInt8)[i]? = some b) : vy_8 cL_stand (10 + i) b := vy_in (n := 10) (by decide +kernel) h
theorem dL_stand_0 : decode cL_stand 0 = Except.ok (Instr.aload_n 3, 1) := vyd_45 (vyb_cL_stand_0 (i := 0) rfl)
theorem dL_stand_1 : decode cL_stand 1 = Except.ok (Instr.aload_n 0, 1) := vyd_42 (vyb_cL_stand_0 (i := 1) rfl)
theorem dL_stand_2 : decode cL_stand 2 = Except.ok (Instr.iload_n 1, 1) := vyd_27 (vyb_cL_stand_0 (i := 2) rfl)
theorem dL_stand_3 : decode cL_stand 3 = Except.ok (Instr.iload_n 2, 1) := vyd_28 (vyb_cL_stand_0 (i := 3) rfl)
theorem dL_stand_4 : decode cL_stand 4 = Except.ok (Instr.invokevirtual 106, 3) := vyd_182 (vyb_cL_stand_0 (i := 4) rfl) (vyb_cL_stand_0 (i := 5) rfl) (vyb_cL_stand_0 (i := 6) rfl) rfl
theorem dL_stand_7 : decode cL_stand 7 = Except.ok (Instr.i2l, 1) := vyd_133 (vyb_cL_stand_0 (i := 7) rfl)
theorem dL_stand_8 : decode cL_stand 8 = Except.ok (Instr.putfield 13, 3) := vyd_181 (vyb_cL_stand_0 (i := 8) rfl) (vyb_cL_stand_0 (i := 9) rfl) (vyb_cL_stand_1 (i := 0) rfl) rfl
theorem dL_stand_11 : decode cL_stand 11 = Except.ok (Instr.goto 7, 3) := vyd_167 (vyb_cL_stand_1 (i := 1) rfl) (vyb_cL_stand_1 (i := 2) rfl) (vyb_cL_stand_1 (i := 3) rfl) (by decide +kernel)
theorem dL_stand_14 : decode cL_stand 14 = Except.ok (Instr.astore 4, 2) := vyd_58 (vyb_cL_stand_1 (i := 4) rfl) (vyb_cL_stand_1 (i := 5) rfl) rfl
theorem dL_stand_16 : decode cL_stand 16 = Except.ok (Instr.iconst 1, 1) := vyd_4 (vyb_cL_stand_1 (i := 6) rfl)
theorem dL_stand_17 : decode cL_stand 17 = Except.ok (Instr.ireturn, 1) := vyd_172 (vyb_cL_stand_1 (i := 7) rfl)
theorem dL_stand_18 : decode cL_stand 18 = Except.ok (Instr.iconst 0, 1) := vyd_3 (vyb_cL_stand_1 (i := 8) rfl)
theorem dL_stand_19 : decode cL_stand 19 = Except.ok (Instr.ireturn, 1) := vyd_172 (vyb_cL_stand_1 (i := 9) rfl)
theorem vyb_cL_forth_0 {i : Nat} {b : UInt8} (h : ([0x2c, 0x2a, 0x1b, 0xb6, 0x00, 0x6d, 0x85, 0xb5, 0x00, 0x0d] : List UInt8)[i]? = some b) : vy_8 cL_forth (0 + i) b := vy_in (n := 10) (by decide +kernel) h
theorem vyb_cL_forth_1 {i : Nat} {b : UInt8} (h : ([0xa7, 0x00, 0x09, 0x4e, 0x04, 0xac, 0x4e, 0x05, 0xac, 0x03] : List UInt8)[i]? = some b) : vy_8 cL_forth (10 + i) b := vy_in (n := 10) (by decide +kernel) h
theorem vyb_cL_forth_2 {i : Nat} {b : UInt8} (h : ([0xac] : List UInt8)[i]? = some b) : vy_8 cL_forth (20 + i) b := vy_in (n := 1) (by decide +kernel) h
theorem dL_forth_0 : decode cL_forth 0 = Except.ok (Instr.aload_n 2, 1) := vyd_44 (vyb_cL_forth_0 (i := 0) rfl)
theorem dL_forth_1 : decode cL_forth 1 = Except.ok (Instr.aload_n 0, 1) := vyd_42 (vyb_cL_forth_0 (i := 1) rfl)
theorem dL_forth_2 : decode cL_forth 2 = Except.ok (Instr.iload_n 1, 1) := vyd_27 (vyb_cL_forth_0 (i := 2) rfl)
theorem dL_forth_3 : decode cL_forth 3 = Except.ok (Instr.invokevirtual 109, 3) := vyd_182 (vyb_cL_forth_0 (i := 3) rfl) (vyb_cL_forth_0 (i := 4) rfl) (vyb_cL_forth_0 (i := 5) rfl) rfl
theorem dL_forth_6 : decode cL_forth 6 = Except.ok (Instr.i2l, 1) := vyd_133 (vyb_cL_forth_0 (i := 6) rfl)
theorem dL_forth_7 : decode cL_forth 7 = Except.ok (Instr.putfield 13, 3) := vyd_181 (vyb_cL_forth_0 (i := 7) rfl) (vyb_cL_forth_0 (i := 8) rfl) (vyb_cL_forth_0 (i := 9) rfl) rfl
theorem dL_forth_10 : decode cL_forth 10 = Except.ok (Instr.goto 9, 3) := vyd_167 (vyb_cL_forth_1 (i := 0) rfl) (vyb_cL_forth_1 (i := 1) rfl) (vyb_cL_forth_1 (i := 2) rfl) (by decide +kernel)
theorem dL_forth_13 : decode cL_forth 13 = Except.ok (Instr.astore_n 3, 1) := vyd_78 (vyb_cL_forth_1 (i := 3) rfl)
theorem dL_forth_14 : decode cL_forth 14 = Except.ok (Instr.iconst 1, 1) := vyd_4 (vyb_cL_forth_1 (i := 4) rfl)
theorem dL_forth_15 : decode cL_forth 15 = Except.ok (Instr.ireturn, 1) := vyd_172 (vyb_cL_forth_1 (i := 5) rfl)
theorem dL_forth_16 : decode cL_forth 16 = Except.ok (Instr.astore_n 3, 1) := vyd_78 (vyb_cL_forth_1 (i := 6) rfl)
theorem dL_forth_17 : decode cL_forth 17 = Except.ok (Instr.iconst 2, 1) := vyd_5 (vyb_cL_forth_1 (i := 7) rfl)
theorem dL_forth_18 : decode cL_forth 18 = Except.ok (Instr.ireturn, 1) := vyd_172 (vyb_cL_forth_1 (i := 8) rfl)
theorem dL_forth_19 : decode cL_forth 19 = Except.ok (Instr.iconst 0, 1) := vyd_3 (vyb_cL_forth_1 (i := 9) rfl)
theorem dL_forth_20 : decode cL_forth 20 = Except.ok (Instr.ireturn, 1) := vyd_172 (vyb_cL_forth_2 (i := 0) rfl)
theorem vyb_cL_back_0 {i : Nat} {b : UInt8} (h : ([0x2c, 0x2a, 0x1b, 0xb6, 0x00, 0x70, 0x85, 0xb5, 0x00, 0x0d] : List UInt8)[i]? = some b) : vy_8 cL_back (0 + i) b := vy_in (n := 10) (by decide +kernel) h
theorem vyb_cL_back_1 {i : Nat} {b : UInt8} (h : ([0xa7, 0x00, 0x09, 0x4e, 0x04, 0xac, 0x4e, 0x05, 0xac, 0x03] : List UInt8)[i]? = some b) : vy_8 cL_back (10 + i) b := vy_in (n := 10) (by decide +kernel) h
theorem vyb_cL_back_2 {i : Nat} {b : UInt8} (h : ([0xac] : List UInt8)[i]? = some b) : vy_8 cL_back (20 + i) b := vy_in (n := 1) (by decide +kernel) h
theorem dL_back_0 : decode cL_back 0 = Except.ok (Instr.aload_n 2, 1) := vyd_44 (vyb_cL_back_0 (i := 0) rfl)
theorem dL_back_1 : decode cL_back 1 = Except.ok (Instr.aload_n 0, 1) := vyd_42 (vyb_cL_back_0 (i := 1) rfl)
theorem dL_back_2 : decode cL_back 2 = Except.ok (Instr.iload_n 1, 1) := vyd_27 (vyb_cL_back_0 (i := 2) rfl)
theorem dL_back_3 : decode cL_back 3 = Except.ok (Instr.invokevirtual 112, 3) := vyd_182 (vyb_cL_back_0 (i := 3) rfl) (vyb_cL_back_0 (i := 4) rfl) (vyb_cL_back_0 (i := 5) rfl) rfl
theorem dL_back_6 : decode cL_back 6 = Except.ok (Instr.i2l, 1) := vyd_133 (vyb_cL_back_0 (i := 6) rfl)
theorem dL_back_7 : decode cL_back 7 = Except.ok (Instr.putfield 13, 3) := vyd_181 (vyb_cL_back_0 (i := 7) rfl) (vyb_cL_back_0 (i := 8) rfl) (vyb_cL_back_0 (i := 9) rfl) rfl
theorem dL_back_10 : decode cL_back 10 = Except.ok (Instr.goto 9, 3) := vyd_167 (vyb_cL_back_1 (i := 0) rfl) (vyb_cL_back_1 (i := 1) rfl) (vyb_cL_back_1 (i := 2) rfl) (by decide +kernel)
theorem dL_back_13 : decode cL_back 13 = Except.ok (Instr.astore_n 3, 1) := vyd_78 (vyb_cL_back_1 (i := 3) rfl)
theorem dL_back_14 : decode cL_back 14 = Except.ok (Instr.iconst 1, 1) := vyd_4 (vyb_cL_back_1 (i := 4) rfl)
theorem dL_back_15 : decode cL_back 15 = Except.ok (Instr.ireturn, 1) := vyd_172 (vyb_cL_back_1 (i := 5) rfl)
theorem dL_back_16 : decode cL_back 16 = Except.ok (Instr.astore_n 3, 1) := vyd_78 (vyb_cL_back_1 (i := 6) rfl)
theorem dL_back_17 : decode cL_back 17 = Except.ok (Instr.iconst 2, 1) := vyd_5 (vyb_cL_back_1 (i := 7) rfl)
theorem dL_back_18 : decode cL_back 18 = Except.ok (Instr.ireturn, 1) := vyd_172 (vyb_cL_back_1 (i := 8) rfl)
theorem dL_back_19 : decode cL_back 19 = Except.ok (Instr.iconst 0, 1) := vyd_3 (vyb_cL_back_1 (i := 9) rfl)
theorem dL_back_20 : decode cL_back 20 = Except.ok (Instr.ireturn, 1) := vyd_172 (vyb_cL_back_2 (i := 0) rfl)
theorem vyb_cL_takeHeld_0 {i : Nat} {b : UInt8} (h : ([0x2c, 0x2a, 0x1b, 0xb6, 0x00, 0x73, 0x85, 0xb5, 0x00, 0x0d] : List UInt8)[i]? = some b) : vy_8 cL_takeHeld (0 + i) b := vy_in (n := 10) (by decide +kernel) h
theorem vyb_cL_takeHeld_1 {i : Nat} {b : UInt8} (h : ([0xa7, 0x00, 0x09, 0x4e, 0x04, 0xac, 0x4e, 0x05, 0xac, 0x03] : List UInt8)[i]? = some b) : vy_8 cL_takeHeld (10 + i) b := vy_in (n := 10) (by decide +kernel) h
theorem vyb_cL_takeHeld_2 {i : Nat} {b : UInt8} (h : ([0xac] : List UInt8)[i]? = some b) : vy_8 cL_takeHeld (20 + i) b := vy_in (n := 1) (by decide +kernel) h
theorem dL_takeHeld_0 : decode cL_takeHeld 0 = Except.ok (Instr.aload_n 2, 1) := vyd_44 (vyb_cL_takeHeld_0 (i := 0) rfl)
theorem dL_takeHeld_1 : decode cL_takeHeld 1 = Except.ok (Instr.aload_n 0, 1) := vyd_42 (vyb_cL_takeHeld_0 (i := 1) rfl)
theorem dL_takeHeld_2 : decode cL_takeHeld 2 = Except.ok (Instr.iload_n 1, 1) := vyd_27 (vyb_cL_takeHeld_0 (i := 2) rfl)
theorem dL_takeHeld_3 : decode cL_takeHeld 3 = Except.ok (Instr.invokevirtual 115, 3) := vyd_182 (vyb_cL_takeHeld_0 (i := 3) rfl) (vyb_cL_takeHeld_0 (i := 4) rfl) (vyb_cL_takeHeld_0 (i := 5) rfl) rfl
theorem dL_takeHeld_6 : decode cL_takeHeld 6 = Except.ok (Instr.i2l, 1) := vyd_133 (vyb_cL_takeHeld_0 (i := 6) rfl)
theorem dL_takeHeld_7 : decode cL_takeHeld 7 = Except.ok (Instr.putfield 13, 3) := vyd_181 (vyb_cL_takeHeld_0 (i := 7) rfl) (vyb_cL_takeHeld_0 (i := 8) rfl) (vyb_cL_takeHeld_0 (i := 9) rfl) rfl
theorem dL_takeHeld_10 : decode cL_takeHeld 10 = Except.ok (Instr.goto 9, 3) := vyd_167 (vyb_cL_takeHeld_1 (i := 0) rfl) (vyb_cL_takeHeld_1 (i := 1) rfl) (vyb_cL_takeHeld_1 (i := 2) rfl) (by decide +kernel)
theorem dL_takeHeld_13 : decode cL_takeHeld 13 = Except.ok (Instr.astore_n 3, 1) := vyd_78 (vyb_cL_takeHeld_1 (i := 3) rfl)
theorem dL_takeHeld_14 : decode cL_takeHeld 14 = Except.ok (Instr.iconst 1, 1) := vyd_4 (vyb_cL_takeHeld_1 (i := 4) rfl)
theorem dL_takeHeld_15 : decode cL_takeHeld 15 = Except.ok (Instr.ireturn, 1) := vyd_172 (vyb_cL_takeHeld_1 (i := 5) rfl)
theorem dL_takeHeld_16 : decode cL_takeHeld 16 = Except.ok (Instr.astore_n 3, 1) := vyd_78 (vyb_cL_takeHeld_1 (i := 6) rfl)
theorem dL_takeHeld_17 : decode cL_takeHeld 17 = Except.ok (Instr.iconst 2, 1) := vyd_5 (vyb_cL_takeHeld_1 (i := 7) rfl)
theorem dL_takeHeld_18 : decode cL_takeHeld 18 = Except.ok (Instr.ireturn, 1) := vyd_172 (vyb_cL_takeHeld_1 (i := 8) rfl)
theorem dL_takeHeld_19 : decode cL_takeHeld 19 = Except.ok (Instr.iconst 0, 1) := vyd_3 (vyb_cL_takeHeld_1 (i := 9) rfl)
theorem dL_takeHeld_20 : decode cL_takeHeld 20 = Except.ok (Instr.ireturn, 1) := vyd_172 (vyb_cL_takeHeld_2 (i := 0) rfl)
theorem vyb_cL_setHeld_0 {i : Nat} {b : UInt8} (h : ([0x19, 0x04, 0x2a, 0x1b, 0x1c, 0x1d, 0xb6, 0x00, 0x76, 0x85] : List UInt8)[i]? = some b) : vy_8 cL_setHeld (0 + i) b := vy_in (n := 10) (by decide +kernel) h
theorem vyb_cL_setHeld_1 {i : Nat} {b : UInt8} (h : ([0xb5, 0x00, 0x0d, 0xa7, 0x00, 0x0f, 0x3a, 0x05, 0x04, 0xac] : List UInt8)[i]? = some b) : vy_8 cL_setHeld (10 + i) b := vy_in (n := 10) (by decide +kernel) h
theorem vyb_cL_setHeld_2 {i : Nat} {b : UInt8} (h : ([0x3a, 0x05, 0x05, 0xac, 0x3a, 0x05, 0x06, 0xac, 0x03, 0xac] : List UInt8)[i]? = some b) : vy_8 cL_setHeld (20 + i) b := vy_in (n := 10) (by decide +kernel) h
theorem dL_setHeld_0 : decode cL_setHeld 0 = Except.ok (Instr.aload 4, 2) := vyd_25 (vyb_cL_setHeld_0 (i := 0) rfl) (vyb_cL_setHeld_0 (i := 1) rfl) rfl
theorem dL_setHeld_2 : decode cL_setHeld 2 = Except.ok (Instr.aload_n 0, 1) := vyd_42 (vyb_cL_setHeld_0 (i := 2) rfl)
theorem dL_setHeld_3 : decode cL_setHeld 3 = Except.ok (Instr.iload_n 1, 1) := vyd_27 (vyb_cL_setHeld_0 (i := 3) rfl)
theorem dL_setHeld_4 : decode cL_setHeld 4 = Except.ok (Instr.iload_n 2, 1) := vyd_28 (vyb_cL_setHeld_0 (i := 4) rfl)
theorem dL_setHeld_5 : decode cL_setHeld 5 = Except.ok (Instr.iload_n 3, 1) := vyd_29 (vyb_cL_setHeld_0 (i := 5) rfl)
theorem dL_setHeld_6 : decode cL_setHeld 6 = Except.ok (Instr.invokevirtual 118, 3) := vyd_182 (vyb_cL_setHeld_0 (i := 6) rfl) (vyb_cL_setHeld_0 (i := 7) rfl) (vyb_cL_setHeld_0 (i := 8) rfl) rfl
theorem dL_setHeld_9 : decode cL_setHeld 9 = Except.ok (Instr.i2l, 1) := vyd_133 (vyb_cL_setHeld_0 (i := 9) rfl)
theorem dL_setHeld_10 : decode cL_setHeld 10 = Except.ok (Instr.putfield 13, 3) := vyd_181 (vyb_cL_setHeld_1 (i := 0) rfl) (vyb_cL_setHeld_1 (i := 1) rfl) (vyb_cL_setHeld_1 (i := 2) rfl) rfl
theorem dL_setHeld_13 : decode cL_setHeld 13 = Except.ok (Instr.goto 15, 3) := vyd_167 (vyb_cL_setHeld_1 (i := 3) rfl) (vyb_cL_setHeld_1 (i := 4) rfl) (vyb_cL_setHeld_1 (i := 5) rfl) (by decide +kernel)
theorem dL_setHeld_16 : decode cL_setHeld 16 = Except.ok (Instr.astore 5, 2) := vyd_58 (vyb_cL_setHeld_1 (i := 6) rfl) (vyb_cL_setHeld_1 (i := 7) rfl) rfl
theorem dL_setHeld_18 : decode cL_setHeld 18 = Except.ok (Instr.iconst 1, 1) := vyd_4 (vyb_cL_setHeld_1 (i := 8) rfl)
theorem dL_setHeld_19 : decode cL_setHeld 19 = Except.ok (Instr.ireturn, 1) := vyd_172 (vyb_cL_setHeld_1 (i := 9) rfl)
theorem dL_setHeld_20 : decode cL_setHeld 20 = Except.ok (Instr.astore 5, 2) := vyd_58 (vyb_cL_setHeld_2 (i := 0) rfl) (vyb_cL_setHeld_2 (i := 1) rfl) rfl
theorem dL_setHeld_22 : decode cL_setHeld 22 = Except.ok (Instr.iconst 2, 1) := vyd_5 (vyb_cL_setHeld_2 (i := 2) rfl)
theorem dL_setHeld_23 : decode cL_setHeld 23 = Except.ok (Instr.ireturn, 1) := vyd_172 (vyb_cL_setHeld_2 (i := 3) rfl)
theorem dL_setHeld_24 : decode cL_setHeld 24 = Except.ok (Instr.astore 5, 2) := vyd_58 (vyb_cL_setHeld_2 (i := 4) rfl) (vyb_cL_setHeld_2 (i := 5) rfl) rfl
theorem dL_setHeld_26 : decode cL_setHeld 26 = Except.ok (Instr.iconst 3, 1) := vyd_6 (vyb_cL_setHeld_2 (i := 6) rfl)
theorem dL_setHeld_27 : decode cL_setHeld 27 = Except.ok (Instr.ireturn, 1) := vyd_172 (vyb_cL_setHeld_2 (i := 7) rfl)
theorem dL_setHeld_28 : decode cL_setHeld 28 = Except.ok (Instr.iconst 0, 1) := vyd_3 (vyb_cL_setHeld_2 (i := 8) rfl)
theorem dL_setHeld_29 : decode cL_setHeld 29 = Except.ok (Instr.ireturn, 1) := vyd_172 (vyb_cL_setHeld_2 (i := 9) rfl)
theorem vyb_cL_put_0 {i : Nat} {b : UInt8} (h : ([0x19, 0x04, 0x2a, 0x1b, 0x1c, 0x1d, 0xb6, 0x00, 0x79, 0x85] : List UInt8)[i]? = some b) : vy_8 cL_put (0 + i) b := vy_in (n := 10) (by decide +kernel) h
theorem vyb_cL_put_1 {i : Nat} {b : UInt8} (h : ([0xb5, 0x00, 0x0d, 0xa7, 0x00, 0x0f, 0x3a, 0x05, 0x04, 0xac] : List UInt8)[i]? = some b) : vy_8 cL_put (10 + i) b := vy_in (n := 10) (by decide +kernel) h
theorem vyb_cL_put_2 {i : Nat} {b : UInt8} (h : ([0x3a, 0x05, 0x05, 0xac, 0x3a, 0x05, 0x06, 0xac, 0x03, 0xac] : List UInt8)[i]? = some b) : vy_8 cL_put (20 + i) b := vy_in (n := 10) (by decide +kernel) h
theorem dL_put_0 : decode cL_put 0 = Except.ok (Instr.aload 4, 2) := vyd_25 (vyb_cL_put_0 (i := 0) rfl) (vyb_cL_put_0 (i := 1) rfl) rfl
theorem dL_put_2 : decode cL_put 2 = Except.ok (Instr.aload_n 0, 1) := vyd_42 (vyb_cL_put_0 (i := 2) rfl)
theorem dL_put_3 : decode cL_put 3 = Except.ok (Instr.iload_n 1, 1) := vyd_27 (vyb_cL_put_0 (i := 3) rfl)
theorem dL_put_4 : decode cL_put 4 = Except.ok (Instr.iload_n 2, 1) := vyd_28 (vyb_cL_put_0 (i := 4) rfl)
theorem dL_put_5 : decode cL_put 5 = Except.ok (Instr.iload_n 3, 1) := vyd_29 (vyb_cL_put_0 (i := 5) rfl)
theorem dL_put_6 : decode cL_put 6 = Except.ok (Instr.invokevirtual 121, 3) := vyd_182 (vyb_cL_put_0 (i := 6) rfl) (vyb_cL_put_0 (i := 7) rfl) (vyb_cL_put_0 (i := 8) rfl) rfl
theorem dL_put_9 : decode cL_put 9 = Except.ok (Instr.i2l, 1) := vyd_133 (vyb_cL_put_0 (i := 9) rfl)
theorem dL_put_10 : decode cL_put 10 = Except.ok (Instr.putfield 13, 3) := vyd_181 (vyb_cL_put_1 (i := 0) rfl) (vyb_cL_put_1 (i := 1) rfl) (vyb_cL_put_1 (i := 2) rfl) rfl
theorem dL_put_13 : decode cL_put 13 = Except.ok (Instr.goto 15, 3) := vyd_167 (vyb_cL_put_1 (i := 3) rfl) (vyb_cL_put_1 (i := 4) rfl) (vyb_cL_put_1 (i := 5) rfl) (by decide +kernel)
theorem dL_put_16 : decode cL_put 16 = Except.ok (Instr.astore 5, 2) := vyd_58 (vyb_cL_put_1 (i := 6) rfl) (vyb_cL_put_1 (i := 7) rfl) rfl
theorem dL_put_18 : decode cL_put 18 = Except.ok (Instr.iconst 1, 1) := vyd_4 (vyb_cL_put_1 (i := 8) rfl)
theorem dL_put_19 : decode cL_put 19 = Except.ok (Instr.ireturn, 1) := vyd_172 (vyb_cL_put_1 (i := 9) rfl)
theorem dL_put_20 : decode cL_put 20 = Except.ok (Instr.astore 5, 2) := vyd_58 (vyb_cL_put_2 (i := 0) rfl) (vyb_cL_put_2 (i := 1) rfl) rfl
theorem dL_put_22 : decode cL_put 22 = Except.ok (Instr.iconst 2, 1) := vyd_5 (vyb_cL_put_2 (i := 2) rfl)
theorem dL_put_23 : decode cL_put 23 = Except.ok (Instr.ireturn, 1) := vyd_172 (vyb_cL_put_2 (i := 3) rfl)
theorem dL_put_24 : decode cL_put 24 = Except.ok (Instr.astore 5, 2) := vyd_58 (vyb_cL_put_2 (i := 4) rfl) (vyb_cL_put_2 (i := 5) rfl) rfl
theorem dL_put_26 : decode cL_put 26 = Except.ok (Instr.iconst 3, 1) := vyd_6 (vyb_cL_put_2 (i := 6) rfl)
theorem dL_put_27 : decode cL_put 27 = Except.ok (Instr.ireturn, 1) := vyd_172 (vyb_cL_put_2 (i := 7) rfl)
theorem dL_put_28 : decode cL_put 28 = Except.ok (Instr.iconst 0, 1) := vyd_3 (vyb_cL_put_2 (i := 8) rfl)
theorem dL_put_29 : decode cL_put 29 = Except.ok (Instr.ireturn, 1) := vyd_172 (vyb_cL_put_2 (i := 9) rfl)
theorem vyb_cL_where_0 {i : Nat} {b : UInt8} (h : ([0x2d, 0x2a, 0x1b, 0x1c, 0xb6, 0x00, 0x7c, 0x85, 0xb5, 0x00] : List UInt8)[i]? = some b) : vy_8 cL_where (0 + i) b := vy_in (n := 10) (by decide +kernel) h
theorem vyb_cL_where_1 {i : Nat} {b : UInt8} (h : ([0x0d, 0xa7, 0x00, 0x0f, 0x3a, 0x04, 0x04, 0xac, 0x3a, 0x04] : List UInt8)[i]? = some b) : vy_8 cL_where (10 + i) b := vy_in (n := 10) (by decide +kernel) h
theorem vyb_cL_where_2 {i : Nat} {b : UInt8} (h : ([0x05, 0xac, 0x3a, 0x04, 0x06, 0xac, 0x03, 0xac] : List UInt8)[i]? = some b) : vy_8 cL_where (20 + i) b := vy_in (n := 8) (by decide +kernel) h
theorem dL_where_0 : decode cL_where 0 = Except.ok (Instr.aload_n 3, 1) := vyd_45 (vyb_cL_where_0 (i := 0) rfl)
theorem dL_where_1 : decode cL_where 1 = Except.ok (Instr.aload_n 0, 1) := vyd_42 (vyb_cL_where_0 (i := 1) rfl)
theorem dL_where_2 : decode cL_where 2 = Except.ok (Instr.iload_n 1, 1) := vyd_27 (vyb_cL_where_0 (i := 2) rfl)
theorem dL_where_3 : decode cL_where 3 = Except.ok (Instr.iload_n 2, 1) := vyd_28 (vyb_cL_where_0 (i := 3) rfl)
theorem dL_where_4 : decode cL_where 4 = Except.ok (Instr.invokevirtual 124, 3) := vyd_182 (vyb_cL_where_0 (i := 4) rfl) (vyb_cL_where_0 (i := 5) rfl) (vyb_cL_where_0 (i := 6) rfl) rfl
theorem dL_where_7 : decode cL_where 7 = Except.ok (Instr.i2l, 1) := vyd_133 (vyb_cL_where_0 (i := 7) rfl)
theorem dL_where_8 : decode cL_where 8 = Except.ok (Instr.putfield 13, 3) := vyd_181 (vyb_cL_where_0 (i := 8) rfl) (vyb_cL_where_0 (i := 9) rfl) (vyb_cL_where_1 (i := 0) rfl) rfl
theorem dL_where_11 : decode cL_where 11 = Except.ok (Instr.goto 15, 3) := vyd_167 (vyb_cL_where_1 (i := 1) rfl) (vyb_cL_where_1 (i := 2) rfl) (vyb_cL_where_1 (i := 3) rfl) (by decide +kernel)
theorem dL_where_14 : decode cL_where 14 = Except.ok (Instr.astore 4, 2) := vyd_58 (vyb_cL_where_1 (i := 4) rfl) (vyb_cL_where_1 (i := 5) rfl) rfl
theorem dL_where_16 : decode cL_where 16 = Except.ok (Instr.iconst 1, 1) := vyd_4 (vyb_cL_where_1 (i := 6) rfl)
theorem dL_where_17 : decode cL_where 17 = Except.ok (Instr.ireturn, 1) := vyd_172 (vyb_cL_where_1 (i := 7) rfl)
theorem dL_where_18 : decode cL_where 18 = Except.ok (Instr.astore 4, 2) := vyd_58 (vyb_cL_where_1 (i := 8) rfl) (vyb_cL_where_1 (i := 9) rfl) rfl
theorem dL_where_20 : decode cL_where 20 = Except.ok (Instr.iconst 2, 1) := vyd_5 (vyb_cL_where_2 (i := 0) rfl)
theorem dL_where_21 : decode cL_where 21 = Except.ok (Instr.ireturn, 1) := vyd_172 (vyb_cL_where_2 (i := 1) rfl)
theorem dL_where_22 : decode cL_where 22 = Except.ok (Instr.astore 4, 2) := vyd_58 (vyb_cL_where_2 (i := 2) rfl) (vyb_cL_where_2 (i := 3) rfl) rfl
theorem dL_where_24 : decode cL_where 24 = Except.ok (Instr.iconst 3, 1) := vyd_6 (vyb_cL_where_2 (i := 4) rfl)
theorem dL_where_25 : decode cL_where 25 = Except.ok (Instr.ireturn, 1) := vyd_172 (vyb_cL_where_2 (i := 5) rfl)
theorem dL_where_26 : decode cL_where 26 = Except.ok (Instr.iconst 0, 1) := vyd_3 (vyb_cL_where_2 (i := 6) rfl)
theorem dL_where_27 : decode cL_where 27 = Except.ok (Instr.ireturn, 1) := vyd_172 (vyb_cL_where_2 (i := 7) rfl)
theorem vyb_cL_order_0 {i : Nat} {b : UInt8} (h : ([0x2c, 0x2a, 0x1b, 0xb6, 0x00, 0x7f, 0x85, 0xb5, 0x00, 0x0d] : List UInt8)[i]? = some b) : vy_8 cL_order (0 + i) b := vy_in (n := 10) (by decide +kernel) h
theorem vyb_cL_order_1 {i : Nat} {b : UInt8} (h : ([0xa7, 0x00, 0x09, 0x4e, 0x04, 0xac, 0x4e, 0x05, 0xac, 0x03] : List UInt8)[i]? = some b) : vy_8 cL_order (10 + i) b := vy_in (n := 10) (by decide +kernel) h
theorem vyb_cL_order_2 {i : Nat} {b : UInt8} (h : ([0xac] : List UInt8)[i]? = some b) : vy_8 cL_order (20 + i) b := vy_in (n := 1) (by decide +kernel) h
theorem dL_order_0 : decode cL_order 0 = Except.ok (Instr.aload_n 2, 1) := vyd_44 (vyb_cL_order_0 (i := 0) rfl)
theorem dL_order_1 : decode cL_order 1 = Except.ok (Instr.aload_n 0, 1) := vyd_42 (vyb_cL_order_0 (i := 1) rfl)
theorem dL_order_2 : decode cL_order 2 = Except.ok (Instr.iload_n 1, 1) := vyd_27 (vyb_cL_order_0 (i := 2) rfl)
theorem dL_order_3 : decode cL_order 3 = Except.ok (Instr.invokevirtual 127, 3) := vyd_182 (vyb_cL_order_0 (i := 3) rfl) (vyb_cL_order_0 (i := 4) rfl) (vyb_cL_order_0 (i := 5) rfl) rfl
theorem dL_order_6 : decode cL_order 6 = Except.ok (Instr.i2l, 1) := vyd_133 (vyb_cL_order_0 (i := 6) rfl)
theorem dL_order_7 : decode cL_order 7 = Except.ok (Instr.putfield 13, 3) := vyd_181 (vyb_cL_order_0 (i := 7) rfl) (vyb_cL_order_0 (i := 8) rfl) (vyb_cL_order_0 (i := 9) rfl) rfl
theorem dL_order_10 : decode cL_order 10 = Except.ok (Instr.goto 9, 3) := vyd_167 (vyb_cL_order_1 (i := 0) rfl) (vyb_cL_order_1 (i := 1) rfl) (vyb_cL_order_1 (i := 2) rfl) (by decide +kernel)
theorem dL_order_13 : decode cL_order 13 = Except.ok (Instr.astore_n 3, 1) := vyd_78 (vyb_cL_order_1 (i := 3) rfl)
theorem dL_order_14 : decode cL_order 14 = Except.ok (Instr.iconst 1, 1) := vyd_4 (vyb_cL_order_1 (i := 4) rfl)
theorem dL_order_15 : decode cL_order 15 = Except.ok (Instr.ireturn, 1) := vyd_172 (vyb_cL_order_1 (i := 5) rfl)
theorem dL_order_16 : decode cL_order 16 = Except.ok (Instr.astore_n 3, 1) := vyd_78 (vyb_cL_order_1 (i := 6) rfl)
theorem dL_order_17 : decode cL_order 17 = Except.ok (Instr.iconst 2, 1) := vyd_5 (vyb_cL_order_1 (i := 7) rfl)
theorem dL_order_18 : decode cL_order 18 = Except.ok (Instr.ireturn, 1) := vyd_172 (vyb_cL_order_1 (i := 8) rfl)
theorem dL_order_19 : decode cL_order 19 = Except.ok (Instr.iconst 0, 1) := vyd_3 (vyb_cL_order_1 (i := 9) rfl)
theorem dL_order_20 : decode cL_order 20 = Except.ok (Instr.ireturn, 1) := vyd_172 (vyb_cL_order_2 (i := 0) rfl)
theorem vyb_cL_work_0 {i : Nat} {b : UInt8} (h : ([0x2c, 0x2a, 0x1b, 0xb6, 0x00, 0x82, 0x85, 0xb5, 0x00, 0x0d] : List UInt8)[i]? = some b) : vy_8 cL_work (0 + i) b := vy_in (n := 10) (by decide +kernel) h
theorem vyb_cL_work_1 {i : Nat} {b : UInt8} (h : ([0xa7, 0x00, 0x06, 0x4e, 0x04, 0xac, 0x03, 0xac] : List UInt8)[i]? = some b) : vy_8 cL_work (10 + i) b := vy_in (n := 8) (by decide +kernel) h
theorem dL_work_0 : decode cL_work 0 = Except.ok (Instr.aload_n 2, 1) := vyd_44 (vyb_cL_work_0 (i := 0) rfl)
theorem dL_work_1 : decode cL_work 1 = Except.ok (Instr.aload_n 0, 1) := vyd_42 (vyb_cL_work_0 (i := 1) rfl)
theorem dL_work_2 : decode cL_work 2 = Except.ok (Instr.iload_n 1, 1) := vyd_27 (vyb_cL_work_0 (i := 2) rfl)
theorem dL_work_3 : decode cL_work 3 = Except.ok (Instr.invokevirtual 130, 3) := vyd_182 (vyb_cL_work_0 (i := 3) rfl) (vyb_cL_work_0 (i := 4) rfl) (vyb_cL_work_0 (i := 5) rfl) rfl
theorem dL_work_6 : decode cL_work 6 = Except.ok (Instr.i2l, 1) := vyd_133 (vyb_cL_work_0 (i := 6) rfl)
theorem dL_work_7 : decode cL_work 7 = Except.ok (Instr.putfield 13, 3) := vyd_181 (vyb_cL_work_0 (i := 7) rfl) (vyb_cL_work_0 (i := 8) rfl) (vyb_cL_work_0 (i := 9) rfl) rfl
theorem dL_work_10 : decode cL_work 10 = Except.ok (Instr.goto 6, 3) := vyd_167 (vyb_cL_work_1 (i := 0) rfl) (vyb_cL_work_1 (i := 1) rfl) (vyb_cL_work_1 (i := 2) rfl) (by decide +kernel)
theorem dL_work_13 : decode cL_work 13 = Except.ok (Instr.astore_n 3, 1) := vyd_78 (vyb_cL_work_1 (i := 3) rfl)
theorem dL_work_14 : decode cL_work 14 = Except.ok (Instr.iconst 1, 1) := vyd_4 (vyb_cL_work_1 (i := 4) rfl)
theorem dL_work_15 : decode cL_work 15 = Except.ok (Instr.ireturn, 1) := vyd_172 (vyb_cL_work_1 (i := 5) rfl)
theorem dL_work_16 : decode cL_work 16 = Except.ok (Instr.iconst 0, 1) := vyd_3 (vyb_cL_work_1 (i := 6) rfl)
theorem dL_work_17 : decode cL_work 17 = Except.ok (Instr.ireturn, 1) := vyd_172 (vyb_cL_work_1 (i := 7) rfl)
theorem vyb_cL_cancel_0 {i : Nat} {b : UInt8} (h : ([0x2d, 0x2a, 0x1b, 0x1c, 0xb6, 0x00, 0x85, 0x99, 0x00, 0x07] : List UInt8)[i]? = some b) : vy_8 cL_cancel (0 + i) b := vy_in (n := 10) (by decide +kernel) h
theorem vyb_cL_cancel_1 {i : Nat} {b : UInt8} (h : ([0x0a, 0xa7, 0x00, 0x04, 0x09, 0xb5, 0x00, 0x0d, 0xa7, 0x00] : List UInt8)[i]? = some b) : vy_8 cL_cancel (10 + i) b := vy_in (n := 10) (by decide +kernel) h
theorem vyb_cL_cancel_2 {i : Nat} {b : UInt8} (h : ([0x07, 0x3a, 0x04, 0x04, 0xac, 0x03, 0xac] : List UInt8)[i]? = some b) : vy_8 cL_cancel (20 + i) b := vy_in (n := 7) (by decide +kernel) h
theorem dL_cancel_0 : decode cL_cancel 0 = Except.ok (Instr.aload_n 3, 1) := vyd_45 (vyb_cL_cancel_0 (i := 0) rfl)
theorem dL_cancel_1 : decode cL_cancel 1 = Except.ok (Instr.aload_n 0, 1) := vyd_42 (vyb_cL_cancel_0 (i := 1) rfl)
theorem dL_cancel_2 : decode cL_cancel 2 = Except.ok (Instr.iload_n 1, 1) := vyd_27 (vyb_cL_cancel_0 (i := 2) rfl)
theorem dL_cancel_3 : decode cL_cancel 3 = Except.ok (Instr.iload_n 2, 1) := vyd_28 (vyb_cL_cancel_0 (i := 3) rfl)
theorem dL_cancel_4 : decode cL_cancel 4 = Except.ok (Instr.invokevirtual 133, 3) := vyd_182 (vyb_cL_cancel_0 (i := 4) rfl) (vyb_cL_cancel_0 (i := 5) rfl) (vyb_cL_cancel_0 (i := 6) rfl) rfl
theorem dL_cancel_7 : decode cL_cancel 7 = Except.ok (Instr.ifCond .eq 7, 3) := vyd_153 (vyb_cL_cancel_0 (i := 7) rfl) (vyb_cL_cancel_0 (i := 8) rfl) (vyb_cL_cancel_0 (i := 9) rfl) (by decide +kernel)
theorem dL_cancel_10 : decode cL_cancel 10 = Except.ok (Instr.lconst 1, 1) := vyd_10 (vyb_cL_cancel_1 (i := 0) rfl)
theorem dL_cancel_11 : decode cL_cancel 11 = Except.ok (Instr.goto 4, 3) := vyd_167 (vyb_cL_cancel_1 (i := 1) rfl) (vyb_cL_cancel_1 (i := 2) rfl) (vyb_cL_cancel_1 (i := 3) rfl) (by decide +kernel)
theorem dL_cancel_14 : decode cL_cancel 14 = Except.ok (Instr.lconst 0, 1) := vyd_9 (vyb_cL_cancel_1 (i := 4) rfl)
theorem dL_cancel_15 : decode cL_cancel 15 = Except.ok (Instr.putfield 13, 3) := vyd_181 (vyb_cL_cancel_1 (i := 5) rfl) (vyb_cL_cancel_1 (i := 6) rfl) (vyb_cL_cancel_1 (i := 7) rfl) rfl
theorem dL_cancel_18 : decode cL_cancel 18 = Except.ok (Instr.goto 7, 3) := vyd_167 (vyb_cL_cancel_1 (i := 8) rfl) (vyb_cL_cancel_1 (i := 9) rfl) (vyb_cL_cancel_2 (i := 0) rfl) (by decide +kernel)
theorem dL_cancel_21 : decode cL_cancel 21 = Except.ok (Instr.astore 4, 2) := vyd_58 (vyb_cL_cancel_2 (i := 1) rfl) (vyb_cL_cancel_2 (i := 2) rfl) rfl
theorem dL_cancel_23 : decode cL_cancel 23 = Except.ok (Instr.iconst 1, 1) := vyd_4 (vyb_cL_cancel_2 (i := 3) rfl)
theorem dL_cancel_24 : decode cL_cancel 24 = Except.ok (Instr.ireturn, 1) := vyd_172 (vyb_cL_cancel_2 (i := 4) rfl)
theorem dL_cancel_25 : decode cL_cancel 25 = Except.ok (Instr.iconst 0, 1) := vyd_3 (vyb_cL_cancel_2 (i := 5) rfl)
theorem dL_cancel_26 : decode cL_cancel 26 = Except.ok (Instr.ireturn, 1) := vyd_172 (vyb_cL_cancel_2 (i := 6) rfl)
theorem vyb_cL_ask_0 {i : Nat} {b : UInt8} (h : ([0x2d, 0x2a, 0x1b, 0x1c, 0xb6, 0x00, 0x89, 0x85, 0xb5, 0x00] : List UInt8)[i]? = some b) : vy_8 cL_ask (0 + i) b := vy_in (n := 10) (by decide +kernel) h
theorem vyb_cL_ask_1 {i : Nat} {b : UInt8} (h : ([0x0d, 0xa7, 0x00, 0x0b, 0x3a, 0x04, 0x04, 0xac, 0x3a, 0x04] : List UInt8)[i]? = some b) : vy_8 cL_ask (10 + i) b := vy_in (n := 10) (by decide +kernel) h
theorem vyb_cL_ask_2 {i : Nat} {b : UInt8} (h : ([0x05, 0xac, 0x03, 0xac] : List UInt8)[i]? = some b) : vy_8 cL_ask (20 + i) b := vy_in (n := 4) (by decide +kernel) h
theorem dL_ask_0 : decode cL_ask 0 = Except.ok (Instr.aload_n 3, 1) := vyd_45 (vyb_cL_ask_0 (i := 0) rfl)
theorem dL_ask_1 : decode cL_ask 1 = Except.ok (Instr.aload_n 0, 1) := vyd_42 (vyb_cL_ask_0 (i := 1) rfl)
theorem dL_ask_2 : decode cL_ask 2 = Except.ok (Instr.iload_n 1, 1) := vyd_27 (vyb_cL_ask_0 (i := 2) rfl)
theorem dL_ask_3 : decode cL_ask 3 = Except.ok (Instr.iload_n 2, 1) := vyd_28 (vyb_cL_ask_0 (i := 3) rfl)
theorem dL_ask_4 : decode cL_ask 4 = Except.ok (Instr.invokevirtual 137, 3) := vyd_182 (vyb_cL_ask_0 (i := 4) rfl) (vyb_cL_ask_0 (i := 5) rfl) (vyb_cL_ask_0 (i := 6) rfl) rfl
theorem dL_ask_7 : decode cL_ask 7 = Except.ok (Instr.i2l, 1) := vyd_133 (vyb_cL_ask_0 (i := 7) rfl)
theorem dL_ask_8 : decode cL_ask 8 = Except.ok (Instr.putfield 13, 3) := vyd_181 (vyb_cL_ask_0 (i := 8) rfl) (vyb_cL_ask_0 (i := 9) rfl) (vyb_cL_ask_1 (i := 0) rfl) rfl
theorem dL_ask_11 : decode cL_ask 11 = Except.ok (Instr.goto 11, 3) := vyd_167 (vyb_cL_ask_1 (i := 1) rfl) (vyb_cL_ask_1 (i := 2) rfl) (vyb_cL_ask_1 (i := 3) rfl) (by decide +kernel)
theorem dL_ask_14 : decode cL_ask 14 = Except.ok (Instr.astore 4, 2) := vyd_58 (vyb_cL_ask_1 (i := 4) rfl) (vyb_cL_ask_1 (i := 5) rfl) rfl
theorem dL_ask_16 : decode cL_ask 16 = Except.ok (Instr.iconst 1, 1) := vyd_4 (vyb_cL_ask_1 (i := 6) rfl)
theorem dL_ask_17 : decode cL_ask 17 = Except.ok (Instr.ireturn, 1) := vyd_172 (vyb_cL_ask_1 (i := 7) rfl)
theorem dL_ask_18 : decode cL_ask 18 = Except.ok (Instr.astore 4, 2) := vyd_58 (vyb_cL_ask_1 (i := 8) rfl) (vyb_cL_ask_1 (i := 9) rfl) rfl
theorem dL_ask_20 : decode cL_ask 20 = Except.ok (Instr.iconst 2, 1) := vyd_5 (vyb_cL_ask_2 (i := 0) rfl)
theorem dL_ask_21 : decode cL_ask 21 = Except.ok (Instr.ireturn, 1) := vyd_172 (vyb_cL_ask_2 (i := 1) rfl)
theorem dL_ask_22 : decode cL_ask 22 = Except.ok (Instr.iconst 0, 1) := vyd_3 (vyb_cL_ask_2 (i := 2) rfl)
theorem dL_ask_23 : decode cL_ask 23 = Except.ok (Instr.ireturn, 1) := vyd_172 (vyb_cL_ask_2 (i := 3) rfl)
theorem vyb_cL_ofTrack_0 {i : Nat} {b : UInt8} (h : ([0x2d, 0x2a, 0x1b, 0x1c, 0xb6, 0x00, 0x8c, 0x85, 0xb5, 0x00] : List UInt8)[i]? = some b) : vy_8 cL_ofTrack (0 + i) b := vy_in (n := 10) (by decide +kernel) h
theorem vyb_cL_ofTrack_1 {i : Nat} {b : UInt8} (h : ([0x0d, 0xa7, 0x00, 0x0b, 0x3a, 0x04, 0x04, 0xac, 0x3a, 0x04] : List UInt8)[i]? = some b) : vy_8 cL_ofTrack (10 + i) b := vy_in (n := 10) (by decide +kernel) h
theorem vyb_cL_ofTrack_2 {i : Nat} {b : UInt8} (h : ([0x05, 0xac, 0x03, 0xac] : List UInt8)[i]? = some b) : vy_8 cL_ofTrack (20 + i) b := vy_in (n := 4) (by decide +kernel) h
theorem dL_ofTrack_0 : decode cL_ofTrack 0 = Except.ok (Instr.aload_n 3, 1) := vyd_45 (vyb_cL_ofTrack_0 (i := 0) rfl)
theorem dL_ofTrack_1 : decode cL_ofTrack 1 = Except.ok (Instr.aload_n 0, 1) := vyd_42 (vyb_cL_ofTrack_0 (i := 1) rfl)
theorem dL_ofTrack_2 : decode cL_ofTrack 2 = Except.ok (Instr.iload_n 1, 1) := vyd_27 (vyb_cL_ofTrack_0 (i := 2) rfl)
theorem dL_ofTrack_3 : decode cL_ofTrack 3 = Except.ok (Instr.iload_n 2, 1) := vyd_28 (vyb_cL_ofTrack_0 (i := 3) rfl)
theorem dL_ofTrack_4 : decode cL_ofTrack 4 = Except.ok (Instr.invokevirtual 140, 3) := vyd_182 (vyb_cL_ofTrack_0 (i := 4) rfl) (vyb_cL_ofTrack_0 (i := 5) rfl) (vyb_cL_ofTrack_0 (i := 6) rfl) rfl
theorem dL_ofTrack_7 : decode cL_ofTrack 7 = Except.ok (Instr.i2l, 1) := vyd_133 (vyb_cL_ofTrack_0 (i := 7) rfl)
theorem dL_ofTrack_8 : decode cL_ofTrack 8 = Except.ok (Instr.putfield 13, 3) := vyd_181 (vyb_cL_ofTrack_0 (i := 8) rfl) (vyb_cL_ofTrack_0 (i := 9) rfl) (vyb_cL_ofTrack_1 (i := 0) rfl) rfl
theorem dL_ofTrack_11 : decode cL_ofTrack 11 = Except.ok (Instr.goto 11, 3) := vyd_167 (vyb_cL_ofTrack_1 (i := 1) rfl) (vyb_cL_ofTrack_1 (i := 2) rfl) (vyb_cL_ofTrack_1 (i := 3) rfl) (by decide +kernel)
theorem dL_ofTrack_14 : decode cL_ofTrack 14 = Except.ok (Instr.astore 4, 2) := vyd_58 (vyb_cL_ofTrack_1 (i := 4) rfl) (vyb_cL_ofTrack_1 (i := 5) rfl) rfl
theorem dL_ofTrack_16 : decode cL_ofTrack 16 = Except.ok (Instr.iconst 1, 1) := vyd_4 (vyb_cL_ofTrack_1 (i := 6) rfl)
theorem dL_ofTrack_17 : decode cL_ofTrack 17 = Except.ok (Instr.ireturn, 1) := vyd_172 (vyb_cL_ofTrack_1 (i := 7) rfl)
theorem dL_ofTrack_18 : decode cL_ofTrack 18 = Except.ok (Instr.astore 4, 2) := vyd_58 (vyb_cL_ofTrack_1 (i := 8) rfl) (vyb_cL_ofTrack_1 (i := 9) rfl) rfl
theorem dL_ofTrack_20 : decode cL_ofTrack 20 = Except.ok (Instr.iconst 2, 1) := vyd_5 (vyb_cL_ofTrack_2 (i := 0) rfl)
theorem dL_ofTrack_21 : decode cL_ofTrack 21 = Except.ok (Instr.ireturn, 1) := vyd_172 (vyb_cL_ofTrack_2 (i := 1) rfl)
theorem dL_ofTrack_22 : decode cL_ofTrack 22 = Except.ok (Instr.iconst 0, 1) := vyd_3 (vyb_cL_ofTrack_2 (i := 2) rfl)
theorem dL_ofTrack_23 : decode cL_ofTrack 23 = Except.ok (Instr.ireturn, 1) := vyd_172 (vyb_cL_ofTrack_2 (i := 3) rfl)
theorem vyb_cL_has_0 {i : Nat} {b : UInt8} (h : ([0x2d, 0x2a, 0x1b, 0x1c, 0xb6, 0x00, 0x8f, 0x99, 0x00, 0x07] : List UInt8)[i]? = some b) : vy_8 cL_has (0 + i) b := vy_in (n := 10) (by decide +kernel) h
theorem vyb_cL_has_1 {i : Nat} {b : UInt8} (h : ([0x0a, 0xa7, 0x00, 0x04, 0x09, 0xb5, 0x00, 0x0d, 0xa7, 0x00] : List UInt8)[i]? = some b) : vy_8 cL_has (10 + i) b := vy_in (n := 10) (by decide +kernel) h
theorem vyb_cL_has_2 {i : Nat} {b : UInt8} (h : ([0x0b, 0x3a, 0x04, 0x04, 0xac, 0x3a, 0x04, 0x05, 0xac, 0x03] : List UInt8)[i]? = some b) : vy_8 cL_has (20 + i) b := vy_in (n := 10) (by decide +kernel) h
theorem vyb_cL_has_3 {i : Nat} {b : UInt8} (h : ([0xac] : List UInt8)[i]? = some b) : vy_8 cL_has (30 + i) b := vy_in (n := 1) (by decide +kernel) h
theorem dL_has_0 : decode cL_has 0 = Except.ok (Instr.aload_n 3, 1) := vyd_45 (vyb_cL_has_0 (i := 0) rfl)
theorem dL_has_1 : decode cL_has 1 = Except.ok (Instr.aload_n 0, 1) := vyd_42 (vyb_cL_has_0 (i := 1) rfl)
theorem dL_has_2 : decode cL_has 2 = Except.ok (Instr.iload_n 1, 1) := vyd_27 (vyb_cL_has_0 (i := 2) rfl)
theorem dL_has_3 : decode cL_has 3 = Except.ok (Instr.iload_n 2, 1) := vyd_28 (vyb_cL_has_0 (i := 3) rfl)
theorem dL_has_4 : decode cL_has 4 = Except.ok (Instr.invokevirtual 143, 3) := vyd_182 (vyb_cL_has_0 (i := 4) rfl) (vyb_cL_has_0 (i := 5) rfl) (vyb_cL_has_0 (i := 6) rfl) rfl
theorem dL_has_7 : decode cL_has 7 = Except.ok (Instr.ifCond .eq 7, 3) := vyd_153 (vyb_cL_has_0 (i := 7) rfl) (vyb_cL_has_0 (i := 8) rfl) (vyb_cL_has_0 (i := 9) rfl) (by decide +kernel)
theorem dL_has_10 : decode cL_has 10 = Except.ok (Instr.lconst 1, 1) := vyd_10 (vyb_cL_has_1 (i := 0) rfl)
theorem dL_has_11 : decode cL_has 11 = Except.ok (Instr.goto 4, 3) := vyd_167 (vyb_cL_has_1 (i := 1) rfl) (vyb_cL_has_1 (i := 2) rfl) (vyb_cL_has_1 (i := 3) rfl) (by decide +kernel)
theorem dL_has_14 : decode cL_has 14 = Except.ok (Instr.lconst 0, 1) := vyd_9 (vyb_cL_has_1 (i := 4) rfl)
theorem dL_has_15 : decode cL_has 15 = Except.ok (Instr.putfield 13, 3) := vyd_181 (vyb_cL_has_1 (i := 5) rfl) (vyb_cL_has_1 (i := 6) rfl) (vyb_cL_has_1 (i := 7) rfl) rfl
theorem dL_has_18 : decode cL_has 18 = Except.ok (Instr.goto 11, 3) := vyd_167 (vyb_cL_has_1 (i := 8) rfl) (vyb_cL_has_1 (i := 9) rfl) (vyb_cL_has_2 (i := 0) rfl) (by decide +kernel)
theorem dL_has_21 : decode cL_has 21 = Except.ok (Instr.astore 4, 2) := vyd_58 (vyb_cL_has_2 (i := 1) rfl) (vyb_cL_has_2 (i := 2) rfl) rfl
theorem dL_has_23 : decode cL_has 23 = Except.ok (Instr.iconst 1, 1) := vyd_4 (vyb_cL_has_2 (i := 3) rfl)
theorem dL_has_24 : decode cL_has 24 = Except.ok (Instr.ireturn, 1) := vyd_172 (vyb_cL_has_2 (i := 4) rfl)
theorem dL_has_25 : decode cL_has 25 = Except.ok (Instr.astore 4, 2) := vyd_58 (vyb_cL_has_2 (i := 5) rfl) (vyb_cL_has_2 (i := 6) rfl) rfl
theorem dL_has_27 : decode cL_has 27 = Except.ok (Instr.iconst 2, 1) := vyd_5 (vyb_cL_has_2 (i := 7) rfl)
theorem dL_has_28 : decode cL_has 28 = Except.ok (Instr.ireturn, 1) := vyd_172 (vyb_cL_has_2 (i := 8) rfl)
theorem dL_has_29 : decode cL_has 29 = Except.ok (Instr.iconst 0, 1) := vyd_3 (vyb_cL_has_2 (i := 9) rfl)
theorem dL_has_30 : decode cL_has 30 = Except.ok (Instr.ireturn, 1) := vyd_172 (vyb_cL_has_3 (i := 0) rfl)
theorem vyb_cL_text_0 {i : Nat} {b : UInt8} (h : ([0x2d, 0x2a, 0x1b, 0x1c, 0xb6, 0x00, 0x93, 0xb5, 0x00, 0x97] : List UInt8)[i]? = some b) : vy_8 cL_text (0 + i) b := vy_in (n := 10) (by decide +kernel) h
theorem vyb_cL_text_1 {i : Nat} {b : UInt8} (h : ([0xa7, 0x00, 0x07, 0x3a, 0x04, 0x04, 0xac, 0x03, 0xac] : List UInt8)[i]? = some b) : vy_8 cL_text (10 + i) b := vy_in (n := 9) (by decide +kernel) h
theorem dL_text_0 : decode cL_text 0 = Except.ok (Instr.aload_n 3, 1) := vyd_45 (vyb_cL_text_0 (i := 0) rfl)
theorem dL_text_1 : decode cL_text 1 = Except.ok (Instr.aload_n 0, 1) := vyd_42 (vyb_cL_text_0 (i := 1) rfl)
theorem dL_text_2 : decode cL_text 2 = Except.ok (Instr.iload_n 1, 1) := vyd_27 (vyb_cL_text_0 (i := 2) rfl)
theorem dL_text_3 : decode cL_text 3 = Except.ok (Instr.iload_n 2, 1) := vyd_28 (vyb_cL_text_0 (i := 3) rfl)
theorem dL_text_4 : decode cL_text 4 = Except.ok (Instr.invokevirtual 147, 3) := vyd_182 (vyb_cL_text_0 (i := 4) rfl) (vyb_cL_text_0 (i := 5) rfl) (vyb_cL_text_0 (i := 6) rfl) rfl
theorem dL_text_7 : decode cL_text 7 = Except.ok (Instr.putfield 151, 3) := vyd_181 (vyb_cL_text_0 (i := 7) rfl) (vyb_cL_text_0 (i := 8) rfl) (vyb_cL_text_0 (i := 9) rfl) rfl
theorem dL_text_10 : decode cL_text 10 = Except.ok (Instr.goto 7, 3) := vyd_167 (vyb_cL_text_1 (i := 0) rfl) (vyb_cL_text_1 (i := 1) rfl) (vyb_cL_text_1 (i := 2) rfl) (by decide +kernel)
theorem dL_text_13 : decode cL_text 13 = Except.ok (Instr.astore 4, 2) := vyd_58 (vyb_cL_text_1 (i := 3) rfl) (vyb_cL_text_1 (i := 4) rfl) rfl
theorem dL_text_15 : decode cL_text 15 = Except.ok (Instr.iconst 1, 1) := vyd_4 (vyb_cL_text_1 (i := 5) rfl)
theorem dL_text_16 : decode cL_text 16 = Except.ok (Instr.ireturn, 1) := vyd_172 (vyb_cL_text_1 (i := 6) rfl)
theorem dL_text_17 : decode cL_text 17 = Except.ok (Instr.iconst 0, 1) := vyd_3 (vyb_cL_text_1 (i := 7) rfl)
theorem dL_text_18 : decode cL_text 18 = Except.ok (Instr.ireturn, 1) := vyd_172 (vyb_cL_text_1 (i := 8) rfl)
theorem vyb_cL_nested_0 {i : Nat} {b : UInt8} (h : ([0x2c, 0x2a, 0x1b, 0xb6, 0x00, 0x9b, 0x85, 0xb5, 0x00, 0x0d] : List UInt8)[i]? = some b) : vy_8 cL_nested (0 + i) b := vy_in (n := 10) (by decide +kernel) h
theorem vyb_cL_nested_1 {i : Nat} {b : UInt8} (h : ([0xa7, 0x00, 0x06, 0x4e, 0x04, 0xac, 0x03, 0xac] : List UInt8)[i]? = some b) : vy_8 cL_nested (10 + i) b := vy_in (n := 8) (by decide +kernel) h
theorem dL_nested_0 : decode cL_nested 0 = Except.ok (Instr.aload_n 2, 1) := vyd_44 (vyb_cL_nested_0 (i := 0) rfl)
theorem dL_nested_1 : decode cL_nested 1 = Except.ok (Instr.aload_n 0, 1) := vyd_42 (vyb_cL_nested_0 (i := 1) rfl)
theorem dL_nested_2 : decode cL_nested 2 = Except.ok (Instr.iload_n 1, 1) := vyd_27 (vyb_cL_nested_0 (i := 2) rfl)
theorem dL_nested_3 : decode cL_nested 3 = Except.ok (Instr.invokevirtual 155, 3) := vyd_182 (vyb_cL_nested_0 (i := 3) rfl) (vyb_cL_nested_0 (i := 4) rfl) (vyb_cL_nested_0 (i := 5) rfl) rfl
theorem dL_nested_6 : decode cL_nested 6 = Except.ok (Instr.i2l, 1) := vyd_133 (vyb_cL_nested_0 (i := 6) rfl)
theorem dL_nested_7 : decode cL_nested 7 = Except.ok (Instr.putfield 13, 3) := vyd_181 (vyb_cL_nested_0 (i := 7) rfl) (vyb_cL_nested_0 (i := 8) rfl) (vyb_cL_nested_0 (i := 9) rfl) rfl
theorem dL_nested_10 : decode cL_nested 10 = Except.ok (Instr.goto 6, 3) := vyd_167 (vyb_cL_nested_1 (i := 0) rfl) (vyb_cL_nested_1 (i := 1) rfl) (vyb_cL_nested_1 (i := 2) rfl) (by decide +kernel)
theorem dL_nested_13 : decode cL_nested 13 = Except.ok (Instr.astore_n 3, 1) := vyd_78 (vyb_cL_nested_1 (i := 3) rfl)
theorem dL_nested_14 : decode cL_nested 14 = Except.ok (Instr.iconst 1, 1) := vyd_4 (vyb_cL_nested_1 (i := 4) rfl)
theorem dL_nested_15 : decode cL_nested 15 = Except.ok (Instr.ireturn, 1) := vyd_172 (vyb_cL_nested_1 (i := 5) rfl)
theorem dL_nested_16 : decode cL_nested 16 = Except.ok (Instr.iconst 0, 1) := vyd_3 (vyb_cL_nested_1 (i := 6) rfl)
theorem dL_nested_17 : decode cL_nested 17 = Except.ok (Instr.ireturn, 1) := vyd_172 (vyb_cL_nested_1 (i := 7) rfl)
theorem vyb_cL_heaviest_0 {i : Nat} {b : UInt8} (h : ([0x19, 0x04, 0x2a, 0x1b, 0x1c, 0x1d, 0xb6, 0x00, 0x9e, 0x85] : List UInt8)[i]? = some b) : vy_8 cL_heaviest (0 + i) b := vy_in (n := 10) (by decide +kernel) h
theorem vyb_cL_heaviest_1 {i : Nat} {b : UInt8} (h : ([0xb5, 0x00, 0x0d, 0xa7, 0x00, 0x0b, 0x3a, 0x05, 0x04, 0xac] : List UInt8)[i]? = some b) : vy_8 cL_heaviest (10 + i) b := vy_in (n := 10) (by decide +kernel) h
theorem vyb_cL_heaviest_2 {i : Nat} {b : UInt8} (h : ([0x3a, 0x05, 0x05, 0xac, 0x03, 0xac] : List UInt8)[i]? = some b) : vy_8 cL_heaviest (20 + i) b := vy_in (n := 6) (by decide +kernel) h
theorem dL_heaviest_0 : decode cL_heaviest 0 = Except.ok (Instr.aload 4, 2) := vyd_25 (vyb_cL_heaviest_0 (i := 0) rfl) (vyb_cL_heaviest_0 (i := 1) rfl) rfl
theorem dL_heaviest_2 : decode cL_heaviest 2 = Except.ok (Instr.aload_n 0, 1) := vyd_42 (vyb_cL_heaviest_0 (i := 2) rfl)
theorem dL_heaviest_3 : decode cL_heaviest 3 = Except.ok (Instr.iload_n 1, 1) := vyd_27 (vyb_cL_heaviest_0 (i := 3) rfl)
theorem dL_heaviest_4 : decode cL_heaviest 4 = Except.ok (Instr.iload_n 2, 1) := vyd_28 (vyb_cL_heaviest_0 (i := 4) rfl)
theorem dL_heaviest_5 : decode cL_heaviest 5 = Except.ok (Instr.iload_n 3, 1) := vyd_29 (vyb_cL_heaviest_0 (i := 5) rfl)
theorem dL_heaviest_6 : decode cL_heaviest 6 = Except.ok (Instr.invokevirtual 158, 3) := vyd_182 (vyb_cL_heaviest_0 (i := 6) rfl) (vyb_cL_heaviest_0 (i := 7) rfl) (vyb_cL_heaviest_0 (i := 8) rfl) rfl
theorem dL_heaviest_9 : decode cL_heaviest 9 = Except.ok (Instr.i2l, 1) := vyd_133 (vyb_cL_heaviest_0 (i := 9) rfl)
theorem dL_heaviest_10 : decode cL_heaviest 10 = Except.ok (Instr.putfield 13, 3) := vyd_181 (vyb_cL_heaviest_1 (i := 0) rfl) (vyb_cL_heaviest_1 (i := 1) rfl) (vyb_cL_heaviest_1 (i := 2) rfl) rfl
theorem dL_heaviest_13 : decode cL_heaviest 13 = Except.ok (Instr.goto 11, 3) := vyd_167 (vyb_cL_heaviest_1 (i := 3) rfl) (vyb_cL_heaviest_1 (i := 4) rfl) (vyb_cL_heaviest_1 (i := 5) rfl) (by decide +kernel)
theorem dL_heaviest_16 : decode cL_heaviest 16 = Except.ok (Instr.astore 5, 2) := vyd_58 (vyb_cL_heaviest_1 (i := 6) rfl) (vyb_cL_heaviest_1 (i := 7) rfl) rfl
theorem dL_heaviest_18 : decode cL_heaviest 18 = Except.ok (Instr.iconst 1, 1) := vyd_4 (vyb_cL_heaviest_1 (i := 8) rfl)
theorem dL_heaviest_19 : decode cL_heaviest 19 = Except.ok (Instr.ireturn, 1) := vyd_172 (vyb_cL_heaviest_1 (i := 9) rfl)
theorem dL_heaviest_20 : decode cL_heaviest 20 = Except.ok (Instr.astore 5, 2) := vyd_58 (vyb_cL_heaviest_2 (i := 0) rfl) (vyb_cL_heaviest_2 (i := 1) rfl) rfl
theorem dL_heaviest_22 : decode cL_heaviest 22 = Except.ok (Instr.iconst 2, 1) := vyd_5 (vyb_cL_heaviest_2 (i := 2) rfl)
theorem dL_heaviest_23 : decode cL_heaviest 23 = Except.ok (Instr.ireturn, 1) := vyd_172 (vyb_cL_heaviest_2 (i := 3) rfl)
theorem dL_heaviest_24 : decode cL_heaviest 24 = Except.ok (Instr.iconst 0, 1) := vyd_3 (vyb_cL_heaviest_2 (i := 4) rfl)
theorem dL_heaviest_25 : decode cL_heaviest 25 = Except.ok (Instr.ireturn, 1) := vyd_172 (vyb_cL_heaviest_2 (i := 5) rfl)
theorem vyb_cL_ahead_0 {i : Nat} {b : UInt8} (h : ([0x2d, 0x2a, 0x1b, 0x1c, 0xb6, 0x00, 0xa1, 0x85, 0xb5, 0x00] : List UInt8)[i]? = some b) : vy_8 cL_ahead (0 + i) b := vy_in (n := 10) (by decide +kernel) h
theorem vyb_cL_ahead_1 {i : Nat} {b : UInt8} (h : ([0x0d, 0xa7, 0x00, 0x07, 0x3a, 0x04, 0x04, 0xac, 0x03, 0xac] : List UInt8)[i]? = some b) : vy_8 cL_ahead (10 + i) b := vy_in (n := 10) (by decide +kernel) h
theorem dL_ahead_0 : decode cL_ahead 0 = Except.ok (Instr.aload_n 3, 1) := vyd_45 (vyb_cL_ahead_0 (i := 0) rfl)
theorem dL_ahead_1 : decode cL_ahead 1 = Except.ok (Instr.aload_n 0, 1) := vyd_42 (vyb_cL_ahead_0 (i := 1) rfl)
theorem dL_ahead_2 : decode cL_ahead 2 = Except.ok (Instr.iload_n 1, 1) := vyd_27 (vyb_cL_ahead_0 (i := 2) rfl)
theorem dL_ahead_3 : decode cL_ahead 3 = Except.ok (Instr.iload_n 2, 1) := vyd_28 (vyb_cL_ahead_0 (i := 3) rfl)
theorem dL_ahead_4 : decode cL_ahead 4 = Except.ok (Instr.invokevirtual 161, 3) := vyd_182 (vyb_cL_ahead_0 (i := 4) rfl) (vyb_cL_ahead_0 (i := 5) rfl) (vyb_cL_ahead_0 (i := 6) rfl) rfl
theorem dL_ahead_7 : decode cL_ahead 7 = Except.ok (Instr.i2l, 1) := vyd_133 (vyb_cL_ahead_0 (i := 7) rfl)
theorem dL_ahead_8 : decode cL_ahead 8 = Except.ok (Instr.putfield 13, 3) := vyd_181 (vyb_cL_ahead_0 (i := 8) rfl) (vyb_cL_ahead_0 (i := 9) rfl) (vyb_cL_ahead_1 (i := 0) rfl) rfl
theorem dL_ahead_11 : decode cL_ahead 11 = Except.ok (Instr.goto 7, 3) := vyd_167 (vyb_cL_ahead_1 (i := 1) rfl) (vyb_cL_ahead_1 (i := 2) rfl) (vyb_cL_ahead_1 (i := 3) rfl) (by decide +kernel)
theorem dL_ahead_14 : decode cL_ahead 14 = Except.ok (Instr.astore 4, 2) := vyd_58 (vyb_cL_ahead_1 (i := 4) rfl) (vyb_cL_ahead_1 (i := 5) rfl) rfl
theorem dL_ahead_16 : decode cL_ahead 16 = Except.ok (Instr.iconst 1, 1) := vyd_4 (vyb_cL_ahead_1 (i := 6) rfl)
theorem dL_ahead_17 : decode cL_ahead 17 = Except.ok (Instr.ireturn, 1) := vyd_172 (vyb_cL_ahead_1 (i := 7) rfl)
theorem dL_ahead_18 : decode cL_ahead 18 = Except.ok (Instr.iconst 0, 1) := vyd_3 (vyb_cL_ahead_1 (i := 8) rfl)
theorem dL_ahead_19 : decode cL_ahead 19 = Except.ok (Instr.ireturn, 1) := vyd_172 (vyb_cL_ahead_1 (i := 9) rfl)
theorem vyb_cL_yard_0 {i : Nat} {b : UInt8} (h : ([0x2c, 0x2a, 0x1b, 0xb6, 0x00, 0xa4, 0x85, 0xb5, 0x00, 0x0d] : List UInt8)[i]? = some b) : vy_8 cL_yard (0 + i) b := vy_in (n := 10) (by decide +kernel) h
theorem vyb_cL_yard_1 {i : Nat} {b : UInt8} (h : ([0xa7, 0x00, 0x06, 0x4e, 0x04, 0xac, 0x03, 0xac] : List UInt8)[i]? = some b) : vy_8 cL_yard (10 + i) b := vy_in (n := 8) (by decide +kernel) h
theorem dL_yard_0 : decode cL_yard 0 = Except.ok (Instr.aload_n 2, 1) := vyd_44 (vyb_cL_yard_0 (i := 0) rfl)
theorem dL_yard_1 : decode cL_yard 1 = Except.ok (Instr.aload_n 0, 1) := vyd_42 (vyb_cL_yard_0 (i := 1) rfl)
theorem dL_yard_2 : decode cL_yard 2 = Except.ok (Instr.iload_n 1, 1) := vyd_27 (vyb_cL_yard_0 (i := 2) rfl)
theorem dL_yard_3 : decode cL_yard 3 = Except.ok (Instr.invokevirtual 164, 3) := vyd_182 (vyb_cL_yard_0 (i := 3) rfl) (vyb_cL_yard_0 (i := 4) rfl) (vyb_cL_yard_0 (i := 5) rfl) rfl
theorem dL_yard_6 : decode cL_yard 6 = Except.ok (Instr.i2l, 1) := vyd_133 (vyb_cL_yard_0 (i := 6) rfl)
theorem dL_yard_7 : decode cL_yard 7 = Except.ok (Instr.putfield 13, 3) := vyd_181 (vyb_cL_yard_0 (i := 7) rfl) (vyb_cL_yard_0 (i := 8) rfl) (vyb_cL_yard_0 (i := 9) rfl) rfl
theorem dL_yard_10 : decode cL_yard 10 = Except.ok (Instr.goto 6, 3) := vyd_167 (vyb_cL_yard_1 (i := 0) rfl) (vyb_cL_yard_1 (i := 1) rfl) (vyb_cL_yard_1 (i := 2) rfl) (by decide +kernel)
theorem dL_yard_13 : decode cL_yard 13 = Except.ok (Instr.astore_n 3, 1) := vyd_78 (vyb_cL_yard_1 (i := 3) rfl)
theorem dL_yard_14 : decode cL_yard 14 = Except.ok (Instr.iconst 1, 1) := vyd_4 (vyb_cL_yard_1 (i := 4) rfl)
theorem dL_yard_15 : decode cL_yard 15 = Except.ok (Instr.ireturn, 1) := vyd_172 (vyb_cL_yard_1 (i := 5) rfl)
theorem dL_yard_16 : decode cL_yard 16 = Except.ok (Instr.iconst 0, 1) := vyd_3 (vyb_cL_yard_1 (i := 6) rfl)
theorem dL_yard_17 : decode cL_yard 17 = Except.ok (Instr.ireturn, 1) := vyd_172 (vyb_cL_yard_1 (i := 7) rfl)
end
section
/-! the law's methods: contracts of bodies with handlers -/
/-- no exception of the three is another -/
def NCX (U : State) : Prop := ∀ i j, i < 3 → j < 3 → i ≠ j → va_Nc (xName i) (xName j) U
theorem NCX.moved {u U : State} (hvm : u.vm.Alike U.vm) (h : NCX u) : NCX U := fun i j hi hj hij => (h i j hi hj hij).moved hvm
def PrL (D : va_G) (ζ : Nat → Nat) (κ : Nat → ClassId) (sz : Nat) (L : List Nat) (F : Nat → va_E) : State → Prop := fun U => PrC D cls (ty5 κ) ζ sz L F U ∧ NCX U
theorem PrL.blind {D : va_G} {ζ : Nat → Nat} {κ : Nat → ClassId} {sz : Nat} {L : List Nat} {F : Nat → va_E} {av : List Value} : FrameBlind (va_Pc av (PrL D ζ κ sz L F)) := by
  intro a U g mk h
  obtain ⟨h1, h2, h3⟩ := h
  exact ⟨(PrC.blind a U g mk ⟨h1, h2⟩).1, (PrC.blind a U g mk ⟨h1, h2⟩).2, h3.moved (Vm.Alike.refl U.vm)⟩
def MwI (l : Launch) (D : va_G) (κ : Nat → ClassId) (ζ : Nat → Nat) (y : MethodName) (bytes : ByteArray) (n : Nat) (rt : Option FieldType) (hh : List (Nat × Nat × Nat × Nat)) (d mc ms : Nat) (av : List Value) (L : List Nat) (F : Nat → va_E) (post : Int32 → List Nat → (Nat → va_E) → Prop) : Prop := ∀ sz : Nat, Met l y (Cond.codeWith y bytes n rt hh :: Gw) (Rm d mc ms) (va_Pc av (PrL D ζ κ sz L F)) (va_Qi (S := List Nat × (Nat → va_E)) (fun r u => post r u.1 u.2) (PoW D cls sz L) (AL L sz)) mc ms (AL L sz)
theorem MwI.of {l : Launch} {D : va_G} {κ : Nat → ClassId} {ζ : Nat → Nat} {y : MethodName} {bytes : ByteArray} {n d mc ms : Nat} {rt : Option FieldType} {hh : List (Nat × Nat × Nat × Nat)} {av : List Value} {L : List Nat} {F : Nat → va_E} {post : Int32 → List Nat → (Nat → va_E) → Prop} (hy : plainName y.cls = true) (hlen : (lg_sl av).length ≤ n) (body : ∀ (p : Program) (e : Env) (s : State) (m : MethodId) (below : List Frame) (meth : Method) (c : Code), CallFix p m c bytes n s av.toArray Gw y.cls → meth.sig.returnType = rt → meth.locks = false → c.exceptionTable.toList = tableOf hh → NCX s → va_K D cls (ty5 κ) s → HW D cls L s s.heap [] L F → ST ζ (AL L s.heap.size) s s.heap → ∀ ls : Array Slot, lv_has ls n (lv_args 0 av) → W p l e (Rm d mc ms) s m av.toArray below meth c s.heap [] 0 0 (EnI D cls s below av.toArray mc ms L post) (F0 m 0 ls [])) : MwI l D κ ζ y bytes n rt hh d mc ms av L F post := by
  intro sz
  refine va_MetW (cc := bytes) (maxL := n) (ret := rt) hy rfl ?_
  intro p e s m args below meth c s₁ B hml hv
  obtain ⟨rfl, ⟨hsz, hP, hD, hK, hST⟩, hN⟩ := hv
  subst hsz
  have hts := atoms_spec (ws := Cond.codeWith y bytes n rt hh :: Gw) B.pre
  have htb := vx_table (x := y) B (hts _ List.mem_cons_self)
  have hl := lv_entry av (n := n) hlen
  rw [lg_entry_eq]
  generalize (lg_sl av ++ List.replicate (n - (lg_sl av).length) Slot.unset).toArray = ls at hl ⊢
  exact body p e s m below meth c ⟨B.exec, B.bytes, hml, findClass_of_methodNamed B.named, fun w hw => hts w (List.mem_cons_of_mem _ hw)⟩ B.returns B.notSynchronized htb hN hK ⟨hP, ⟨hD.1, fun k q hk => Or.inl (pl_mem hk)⟩, va_S.rf⟩ hST ls hl
def MCodeW (y : MethodName) (cc : ByteArray) (n : Nat) (rt : Option FieldType) (hh : List (Nat × Nat × Nat × Nat)) : Prop := Cond.codeWith y cc n rt hh ∈ Gw ∧ Cond.initialized y.cls ∈ Gw ∧ y.cls ≠ "java/lang/invoke/MethodHandle" ∧ y.cls ≠ "java/lang/invoke/VarHandle"
theorem gw_consW {y : MethodName} {cc : ByteArray} {n : Nat} {rt : Option FieldType} {hh : List (Nat × Nat × Nat × Nat)} (h : MCodeW y cc n rt hh) {pre : List Cond} (hp : ∀ w ∈ pre, w ∈ Gw) : GoodIn Gw (pre ++ (Cond.codeWith y cc n rt hh :: Gw)) := by
  have key : ∀ w ∈ pre ++ (Cond.codeWith y cc n rt hh :: Gw), w ∈ Gw := by
    intro w hw
    rcases List.mem_append.mp hw with q | q
    · exact hp w q
    · rcases List.mem_cons.mp q with rfl | q
      · exact h.1
      · exact q
  exact fun w hw => ⟨key w hw, good_of_word (gw_good w (key w hw))⟩
section CKl
variable {p : Program} {l : Launch} {e : Env} {R : Room} {s : State} {m : MethodId} {args : Array Value} {below : List Frame} {meth : Method} {c : Code} {cc : ByteArray} {nL : Nat} {own : String} {H : Heap} {locs : List Loc} {cells slots : Nat} {Q : State → Prop} {D : va_G} {cl : List vw_C} {tys : List (ClassId × FieldType)} {ζ : Nat → Nat} {pc : Nat} {ls : Array Slot} {rest st0 : List Value} {L0 L : List Nat} {F : Nat → va_E} {y : MethodName} {bytes : ByteArray} {n d mc ms index np : Nat} {rt : Option FieldType} {As : List Value}
theorem pk_cLI {κ : Nat → ClassId} (S : CallFix p m c cc nL s args Gw own) (hK : va_K D cls (ty5 κ) s) (hST : ST ζ (AL L0 s.heap.size) s s.heap) (hW : HW D cls L0 s H locs L F) {post : Int32 → List Nat → (Nat → va_E) → Prop} {hh : List (Nat × Nat × Nat × Nat)} (hN : NCX s) (hM : MwI l D κ ζ y bytes n rt hh d mc ms As L F post) (hcd : MCodeW y bytes n rt hh) (hlink : Cond.methodLink own index y ∈ Gw) (hsta : Cond.static y ∈ Gw) (hnp : (parseMethodDescriptor y.desc).map (fun d => d.parameters.length) = some np) (hlen : As.length = np) (hsize : ls.size = nL) (hstk : st0 = As.reverse ++ rest) (hcat : (rest.map fun v => v.category).sum ≤ 8) (hdg : decode cc pc = .ok (.invokestatic index, 3)) (hR : d + 1 ≤ R.frames ∧ 8 + (n + 11) + 40 * d ≤ R.locals) (hf : cells + mc ≤ R.cells ∧ slots + ms ≤ R.slots)
    (kk : ∀ (r : Int32) (L1 : List Nat) (F1 : Nat → va_E) (H1 : Heap) (locs1 : List Loc), post r L1 F1 → HW D cls L0 s H1 locs1 L1 F1 → W p l e R s m args below meth c H1 locs1 (cells + mc) (slots + ms) Q (F0 m (pc + 3) ls (.int r :: rest))) : W p l e R s m args below meth c H locs cells slots Q (F0 m pc ls st0) := by
  exact va_calli (vx_runSW (As := As) (rest := rest) S (hM H.size) (vx_cwSW np S.2.2.2.2 (gw_consW (pre := [.methodLink own index y, .static y, .initialized y.cls]) hcd (List.forall_mem_cons.mpr ⟨hlink, List.forall_mem_cons.mpr ⟨hsta, List.forall_mem_cons.mpr ⟨hcd.2.1, fun _ h => absurd h List.not_mem_nil⟩⟩⟩)) rfl rfl rfl ⟨hcd.2.2.1, hcd.2.2.2, hnp⟩ hR) ⟨PrL.blind, fun U hU hWm => ⟨rfl, PrC.of hK hW hST hU hWm, hN.moved hWm.alike⟩⟩ rfl hlen hsize hstk (lv_room hcat) hdg hf) hW.2.2 (fun q _ h => hW.sub q h) hW.sub (fun r u t H1 locs1 ht hvm hp hB hz hk hS1 => kk r u.1 u.2 H1 locs1 hp (hW.after (sz := 0) ht hB hS1))
theorem xk_callr {a : Array Value} {free A0 A1 : Nat → Prop} {H0 : Heap} {S9 SX : Type} {post : S9 → Prop} {px : SX → Prop} {B : S9 → Nat → State → Prop} {BX : String → SX → State → Prop} {AX : Nat → Prop} (hr : vx_Run p l e R s m args below meth c H locs cells slots mc ms (F0 m pc ls st0) rest (va_Qr post B A1 a) (vx_X px BX AX) free) (hS : va_S A0 H0 H locs) (hA : ∀ q, q < H.size → A1 q → A0 q) (hf : ∀ q, free q → A0 q) (hAX : ∀ q, q < H.size → AX q → A0 q)
    (kx : ∀ (E : String) (ce : Cell) (q9 : Addr) (u : SX) (t : State) (H1 : Heap) (locs1 : List Loc), t.heap = H1 → s.vm.Alike t.vm → px u → BX E u t → H.size ≤ H1.size → (∀ q : Nat, q < H.size → ¬ AX q → H1[q]? = H[q]?) → va_S A0 H0 H1 locs1 → H1[q9]? = some ce → ce.vm = .none → s.vm.findClass E = some ce.cls → vx_W p l e R s m args below meth c H1 locs1 (cells + mc) (slots + ms) Q (F0 m pc ls rest) q9)
    (kk : ∀ (u : S9) (ra : Nat) (t : State) (H1 : Heap) (locs1 : List Loc), t.heap = H1 → s.vm.Alike t.vm → post u → B u ra t → H.size ≤ H1.size → (∀ q : Nat, q < H.size → ¬ A1 q → H1[q]? = H[q]?) → va_S A0 H0 H1 locs1 → W p l e R s m args below meth c H1 locs1 (cells + mc) (slots + ms) Q (F0 m (pc + 3) ls (.ref ra :: rest))) : W p l e R s m args below meth c H locs cells slots Q (F0 m pc ls st0) := by
  intro T hT X
  rcases hr T hT X with ⟨v, st₀, t, T', L, h0, X', hL, e1, e2, ⟨⟨u, ra, hv, hp, hb⟩, hF⟩, st⟩ | ⟨q, st₀, t, T', L, E, ce, h0, X', hL, e1, e2, ⟨u, hp, hb, hF⟩, hce, hcv, hcl, st⟩
  · cases hv
    obtain ⟨k1, k2, k3⟩ := vx_keep h0 e1 hS hA hf hL hF
    obtain ⟨t2, a1, b1⟩ := kk u ra t T'.heap (locs ++ L) e1.symm (by rw [← e2]; exact X'.warmed.alike) hp hb k1 k2 k3 T' rfl X'
    exact ⟨t2, st t2 a1, b1⟩
  · obtain ⟨k1, k2, k3⟩ := vx_keep h0 e1 hS hAX hf hL hF
    obtain ⟨t2, a1, b1⟩ := kx E ce q u t T'.heap (locs ++ L) e1.symm (by rw [← e2]; exact X'.warmed.alike) hp hb k1 k2 k3 (by rw [e1]; exact hce) hcv hcl T' rfl X'
    exact ⟨t2, st.trans a1, b1⟩
theorem xk_cVR (S : CallFix p m c cc nL s args Gw own) (hK : va_K D cl tys s) (hST : ST ζ (AL L0 s.heap.size) s s.heap) (hW : HW D cl L0 s H locs L F) {post : Nat → List Nat → (Nat → va_E) → Prop} {b ci : Nat} {fs : List Value} {r0 : vw_C} {xp : String → Prop} (hM : MxR l D cl tys ζ y bytes n rt d mc ms (.ref b :: As) L F post xp) (hcd : MCode y bytes n rt) (hlink : Cond.methodLink own index y ∈ Gw) (hin : Cond.instanceMethod y ∈ Gw) (hsel : Cond.selects r0.1 y y ∈ Gw) (hyc : y.cls = r0.1) (hnp : (parseMethodDescriptor y.desc).map (fun d => d.parameters.length) = some np) (hb : b ∈ L) (he : F b = .inr (ci, fs)) (hc : cl[ci]? = some r0) (hlen : As.length = np) (hsize : ls.size = nL) (hstk : st0 = As.reverse ++ .ref b :: rest) (hcat : (rest.map fun v => v.category).sum ≤ 8) (hdg : decode cc pc = .ok (.invokevirtual index, 3)) (hR : d + 1 ≤ R.frames ∧ 8 + (n + 11) + 40 * d ≤ R.locals) (hf : cells + mc ≤ R.cells ∧ slots + ms ≤ R.slots)
    (kx : ∀ (E : String) (ce : Cell) (q9 : Addr) (H1 : Heap) (locs1 : List Loc), xp E → HW D cl L0 s H1 locs1 L F → H1[q9]? = some ce → ce.vm = .none → s.vm.findClass E = some ce.cls → vx_W p l e R s m args below meth c H1 locs1 (cells + mc) (slots + ms) Q (F0 m pc ls rest) q9)
    (kk : ∀ (r : Nat) (L1 : List Nat) (F1 : Nat → va_E) (H1 : Heap) (locs1 : List Loc), post r L1 F1 → HW D cl L0 s H1 locs1 L1 F1 → W p l e R s m args below meth c H1 locs1 (cells + mc) (slots + ms) Q (F0 m (pc + 3) ls (.ref r :: rest))) : W p l e R s m args below meth c H locs cells slots Q (F0 m pc ls st0) := by
  exact xk_callr (vx_runV (As := As) (rest := rest) S (hM H.size) (cwV np S.2.2.2.2 (gw_cons (pre := [.methodLink own index y, .instanceMethod y, .selects r0.1 y y, .initialized r0.1]) hcd (List.forall_mem_cons.mpr ⟨hlink, List.forall_mem_cons.mpr ⟨hin, List.forall_mem_cons.mpr ⟨hsel, List.forall_mem_cons.mpr ⟨hyc ▸ hcd.2.1, fun _ h => absurd h List.not_mem_nil⟩⟩⟩⟩)) rfl rfl rfl ⟨hyc, hcd.2.2.1, hcd.2.2.2, hnp⟩ hR) ⟨PrC.blind, pk_recv hK hW hb he hc, fun U hU hWm => ⟨rfl, PrC.of hK hW hST hU hWm⟩⟩ rfl hlen hsize hstk (lv_room hcat) hdg hf) hW.2.2 (fun q _ h => hW.sub q h) hW.sub (fun q _ h => hW.sub q h) (fun E ce q9 u t H1 locs1 ht hvm hp hB hz hk hS1 h1 h2 h3 => kx E ce q9 H1 locs1 hB.1 (hW.thrown (xp := xp) (E := E) ht hB.2 hS1) h1 h2 h3) (fun u r t H1 locs1 ht hvm hp hB hz hk hS1 => kk r u.1 u.2 H1 locs1 hB.1 (hW.after (sz := 0) ht hB.2 hS1))
end CKl
section PKn
variable {p : Program} {l : Launch} {e : Env} {R : Room} {s : State} {m : MethodId} {args : Array Value} {below : List Frame} {meth : Method} {c : Code} {cc : ByteArray} {nL : Nat} {Ts : List Cond} {own : String} {H : Heap} {locs : List Loc} {cells slots : Nat} {Q : State → Prop} {D : va_G} {cl : List vw_C} {tys : List (ClassId × FieldType)} {pc : Nat} {ls : Array Slot} {rest : List Value} {L0 L : List Nat} {F : Nat → va_E}
theorem pk_putN (S : CallFix p m c cc nL s args Ts own) (hK : va_K D cl tys s) (hW : HW D cl L0 s H locs L F) {a ci index N : Nat} {fs : List Value} {C : String} {T : u_T} {v : Value} {ty0 : Nat → FieldType} {ty : FieldType} (k : Nat) (ha : a ∈ L) (he : F a = .inr (ci, fs)) (hc : cl[ci]? = some (C, T, N)) (hin : ∀ w ∈ u_ws C T N, w ∈ Ts) (hty : ∀ k, k < N → parseFieldDescriptor (T k).2.2.1 = some (ty0 k)) (hnm : ∀ a, a < N → ∀ b, b < N → a ≠ b → (T a).2.1 ≠ (T b).2.1) (hk : k < N) {host : String} (hlink : (Cond.fieldLinkNest own index (T k).1 (T k).2.1 (T k).2.2.1 host).before args s = true) (hfin : (T k).2.2.2 = false) (hd : parseFieldDescriptor (T k).2.2.1 = some ty) (hn : narrow ty v = v) (hfit : fits ty v = true) (hl : k < fs.length) (hdg : decode cc pc = .ok (.putfield index, 3))
    (kk : ∀ (H1 : Heap) (locs1 : List Loc), HW D cl L0 s H1 locs1 L (va_up F a (.inr (ci, fs.set k v))) → W p l e R s m args below meth c H1 locs1 cells slots Q (F0 m (pc + 3) ls rest)) : W p l e R s m args below meth c H locs cells slots Q (F0 m pc ls (v :: .ref a :: rest)) := by
  obtain ⟨k0, hk0⟩ := pl_get (F := F) ha rfl
  exact va_putN S.1 S.2.1 S.2.2.2.2 hin ty0 hty hnm S.2.2.2.1 hK hW.1 hW.2.1 hW.2.2 k0 (by rw [← he]; exact hk0) hc k hk hlink (fun _ h => h) hfin hd hn hfit hl hdg
    (fun H1 locs1 h1 h2 h3 => kk H1 locs1 (hW.set (e0 := F a) ha _ hk0 h1 h2 h3))
end PKn
/-- the law's Out: an object of class 9 -/
def OUT (q : Nat) (L : List Nat) (F : Nat → va_E) : Prop := q ∈ L ∧ ∃ w0 w1 : Value, F q = .inr (9, [w0, w1])
theorem CI.notO {κ : Nat → ClassId} {A : Nat → Nat} {σ : CS} {L : List Nat} {F : Nat → va_E} (hI : CI κ A σ L F) {q : Nat} {w : List Value} (h : F q = .inr (9, w)) : ∀ i, i < 18 → A i ≠ q := by
  obtain ⟨h1, h2, h3, h4, h5, h6⟩ := hI
  have no : ∀ {n : Nat} {v : List Value} {a : Nat}, F a = .inr (n, v) → n ≠ 9 → a ≠ q := by
    intro n v a ha hn e
    rw [e, h] at ha
    injection ha with ha
    injection ha with ha _
    exact hn ha.symm
  intro i hi
  by_cases h0 : i = 0
  · subst h0; exact no h3 (by decide)
  by_cases h15 : i = 15
  · subst h15; exact no h5 (by decide)
  by_cases hk : 16 ≤ i
  · have := h6 (i - 16) (by omega)
    rw [show 16 + (i - 16) = i by omega] at this
    exact no this (by decide)
  have hr := h4 ((i - 1) / 2) (by omega)
  by_cases hodd : i % 2 = 1
  · rw [show 1 + 2 * ((i - 1) / 2) = i by omega] at hr
    exact no hr.1 (by decide)
  · have he : 2 + 2 * ((i - 1) / 2) = i := by omega
    rw [he] at hr
    intro e
    rw [e, h] at hr
    cases hr.2
theorem CI.keepA {κ : Nat → ClassId} {A : Nat → Nat} {σ : CS} {L L' : List Nat} {F F' : Nat → va_E} (hI : CI κ A σ L F) (hsub : ∀ x ∈ L, x ∈ L') (hm : ∀ i, i < 18 → F' (A i) = F (A i)) : CI κ A σ L' F' := by
  obtain ⟨h1, h2, h3, h4, h5, h6⟩ := hI
  exact ⟨fun i hi => hsub _ (h1 i hi), h2, (hm 0 (by omega)).trans h3, fun i hi => ⟨(hm _ (by omega)).trans (h4 i hi).1, (hm _ (by omega)).trans (h4 i hi).2⟩, (hm 15 (by omega)).trans h5, fun j hj => (hm _ (by omega)).trans (h6 j hj)⟩
/-- what a helper of the law leaves: the yard σ', the Out; r, w0 are told of at the end of a call that returned (v), or that threw -/
def LwP (κ : Nat → ClassId) (A : Nat → Nat) (q : Nat) (σ' : CS) (L : List Nat) (F : Nat → va_E) (ans : Int32 → Value → Value → Prop) (r : Int32) (L' : List Nat) (F' : Nat → va_E) : Prop :=
  (∀ x ∈ L, x ∈ L') ∧ CI κ A σ' L' F' ∧ (∃ w0 w1 : Value, F' q = .inr (9, [w0, w1]) ∧ ans r w0 w1) ∧ ∀ x ∈ L, (∀ i, i < 18 → x ≠ A i) → x ≠ q → F' x = F x
theorem mw_L_join : MCodeW yL_join cL_join 7 (some .int) [(0, 15, 18, 19), (0, 15, 22, 21), (0, 15, 26, 23)] := ⟨gw_t (tb_2 (List.mem_of_getElem? (i := 140) (by decide +kernel))) (by decide +kernel), wd_0, by decide, by decide⟩
theorem np_L_join : (parseMethodDescriptor yL_join.desc).map (fun d => d.parameters.length) = some 6 := by decide +kernel
theorem mw_L_offer : MCodeW yL_offer cL_offer 7 (some .int) [(0, 22, 25, 19), (0, 22, 29, 21), (0, 22, 33, 23)] := ⟨gw_t (tb_3 (List.mem_of_getElem? (i := 41) (by decide +kernel))) (by decide +kernel), wd_0, by decide, by decide⟩
theorem np_L_offer : (parseMethodDescriptor yL_offer.desc).map (fun d => d.parameters.length) = some 6 := by decide +kernel
theorem mw_L_push : MCodeW yL_push cL_push 6 (some .int) [(0, 13, 16, 19), (0, 13, 20, 21), (0, 13, 24, 23)] := ⟨gw_t (tb_3 (List.mem_of_getElem? (i := 48) (by decide +kernel))) (by decide +kernel), wd_0, by decide, by decide⟩
theorem np_L_push : (parseMethodDescriptor yL_push.desc).map (fun d => d.parameters.length) = some 5 := by decide +kernel
theorem mw_L_append : MCodeW yL_append cL_append 6 (some .int) [(0, 13, 16, 19), (0, 13, 20, 21), (0, 13, 24, 23)] := ⟨gw_t (tb_3 (List.mem_of_getElem? (i := 55) (by decide +kernel))) (by decide +kernel), wd_0, by decide, by decide⟩
theorem np_L_append : (parseMethodDescriptor yL_append.desc).map (fun d => d.parameters.length) = some 5 := by decide +kernel
theorem mw_L_train : MCodeW yL_train cL_train 7 (some .int) [(0, 15, 18, 19), (0, 15, 22, 21), (0, 15, 26, 23)] := ⟨gw_t (tb_3 (List.mem_of_getElem? (i := 62) (by decide +kernel))) (by decide +kernel), wd_0, by decide, by decide⟩
theorem np_L_train : (parseMethodDescriptor yL_train.desc).map (fun d => d.parameters.length) = some 6 := by decide +kernel
theorem mw_L_take : MCodeW yL_take cL_take 5 (some .int) [(0, 11, 14, 19)] := ⟨gw_t (tb_3 (List.mem_of_getElem? (i := 69) (by decide +kernel))) (by decide +kernel), wd_0, by decide, by decide⟩
theorem np_L_take : (parseMethodDescriptor yL_take.desc).map (fun d => d.parameters.length) = some 4 := by decide +kernel
theorem mw_L_poll : MCodeW yL_poll cL_poll 5 (some .int) [(0, 11, 14, 19)] := ⟨gw_t (tb_3 (List.mem_of_getElem? (i := 84) (by decide +kernel))) (by decide +kernel), wd_0, by decide, by decide⟩
theorem np_L_poll : (parseMethodDescriptor yL_poll.desc).map (fun d => d.parameters.length) = some 4 := by decide +kernel
theorem mw_L_pop : MCodeW yL_pop cL_pop 4 (some .int) [(0, 10, 13, 19)] := ⟨gw_t (tb_3 (List.mem_of_getElem? (i := 91) (by decide +kernel))) (by decide +kernel), wd_0, by decide, by decide⟩
theorem np_L_pop : (parseMethodDescriptor yL_pop.desc).map (fun d => d.parameters.length) = some 3 := by decide +kernel
theorem mw_L_serve : MCodeW yL_serve cL_serve 5 (some .int) [(0, 11, 14, 19)] := ⟨gw_t (tb_3 (List.mem_of_getElem? (i := 98) (by decide +kernel))) (by decide +kernel), wd_0, by decide, by decide⟩
theorem np_L_serve : (parseMethodDescriptor yL_serve.desc).map (fun d => d.parameters.length) = some 4 := by decide +kernel
theorem mw_L_rotate : MCodeW yL_rotate cL_rotate 5 (some .int) [(0, 11, 14, 19), (0, 11, 18, 21)] := ⟨gw_t (tb_3 (List.mem_of_getElem? (i := 105) (by decide +kernel))) (by decide +kernel), wd_0, by decide, by decide⟩
theorem np_L_rotate : (parseMethodDescriptor yL_rotate.desc).map (fun d => d.parameters.length) = some 4 := by decide +kernel
theorem mw_L_drop : MCodeW yL_drop cL_drop 6 (some .int) [(0, 20, 23, 19), (0, 20, 27, 21)] := ⟨gw_t (tb_3 (List.mem_of_getElem? (i := 115) (by decide +kernel))) (by decide +kernel), wd_0, by decide, by decide⟩
theorem np_L_drop : (parseMethodDescriptor yL_drop.desc).map (fun d => d.parameters.length) = some 5 := by decide +kernel
theorem mw_L_dropAll : MCodeW yL_dropAll cL_dropAll 5 (some .int) [(0, 11, 14, 19), (0, 11, 18, 21)] := ⟨gw_t (tb_3 (List.mem_of_getElem? (i := 125) (by decide +kernel))) (by decide +kernel), wd_0, by decide, by decide⟩
theorem np_L_dropAll : (parseMethodDescriptor yL_dropAll.desc).map (fun d => d.parameters.length) = some 4 := by decide +kernel
theorem mw_L_shed : MCodeW yL_shed cL_shed 7 (some .int) [(0, 15, 18, 19), (0, 15, 22, 21)] := ⟨gw_t (tb_3 (List.mem_of_getElem? (i := 132) (by decide +kernel))) (by decide +kernel), wd_0, by decide, by decide⟩
theorem np_L_shed : (parseMethodDescriptor yL_shed.desc).map (fun d => d.parameters.length) = some 6 := by decide +kernel
theorem mw_L_thin : MCodeW yL_thin cL_thin 6 (some .int) [(0, 13, 16, 19), (0, 13, 20, 21)] := ⟨gw_t (tb_3 (List.mem_of_getElem? (i := 139) (by decide +kernel))) (by decide +kernel), wd_0, by decide, by decide⟩
theorem np_L_thin : (parseMethodDescriptor yL_thin.desc).map (fun d => d.parameters.length) = some 5 := by decide +kernel
theorem mw_L_turn : MCodeW yL_turn cL_turn 4 (some .int) [(0, 10, 13, 19)] := ⟨gw_t (tb_3 (List.mem_of_getElem? (i := 146) (by decide +kernel))) (by decide +kernel), wd_0, by decide, by decide⟩
theorem np_L_turn : (parseMethodDescriptor yL_turn.desc).map (fun d => d.parameters.length) = some 3 := by decide +kernel
theorem mw_L_clear : MCodeW yL_clear cL_clear 4 (some .int) [(0, 10, 13, 19)] := ⟨gw_t (tb_3 (List.mem_of_getElem? (i := 154) (by decide +kernel))) (by decide +kernel), wd_0, by decide, by decide⟩
theorem np_L_clear : (parseMethodDescriptor yL_clear.desc).map (fun d => d.parameters.length) = some 3 := by decide +kernel
theorem mw_L_step : MCodeW yL_step cL_step 3 (some .int) [(0, 9, 12, 23)] := ⟨gw_t (tb_3 (List.mem_of_getElem? (i := 161) (by decide +kernel))) (by decide +kernel), wd_0, by decide, by decide⟩
theorem np_L_step : (parseMethodDescriptor yL_step.desc).map (fun d => d.parameters.length) = some 2 := by decide +kernel
theorem mw_L_pluck : MCodeW yL_pluck cL_pluck 3 (some .int) [(0, 9, 12, 23)] := ⟨gw_t (tb_3 (List.mem_of_getElem? (i := 177) (by decide +kernel))) (by decide +kernel), wd_0, by decide, by decide⟩
theorem np_L_pluck : (parseMethodDescriptor yL_pluck.desc).map (fun d => d.parameters.length) = some 2 := by decide +kernel
theorem mw_L_insert : MCodeW yL_insert cL_insert 6 (some .int) [(0, 13, 16, 19), (0, 13, 20, 21), (0, 13, 24, 23)] := ⟨gw_t (tb_3 (List.mem_of_getElem? (i := 188) (by decide +kernel))) (by decide +kernel), wd_0, by decide, by decide⟩
theorem np_L_insert : (parseMethodDescriptor yL_insert.desc).map (fun d => d.parameters.length) = some 5 := by decide +kernel
theorem mw_L_cut : MCodeW yL_cut cL_cut 4 (some .int) [(0, 10, 13, 19)] := ⟨gw_t (tb_3 (List.mem_of_getElem? (i := 199) (by decide +kernel))) (by decide +kernel), wd_0, by decide, by decide⟩
theorem np_L_cut : (parseMethodDescriptor yL_cut.desc).map (fun d => d.parameters.length) = some 3 := by decide +kernel
theorem mw_L_replace : MCodeW yL_replace cL_replace 6 (some .int) [(0, 13, 16, 19), (0, 13, 20, 21)] := ⟨gw_t (tb_3 (List.mem_of_getElem? (i := 206) (by decide +kernel))) (by decide +kernel), wd_0, by decide, by decide⟩
theorem np_L_replace : (parseMethodDescriptor yL_replace.desc).map (fun d => d.parameters.length) = some 5 := by decide +kernel
theorem mw_L_at : MCodeW yL_at cL_at 4 (some .int) [(0, 10, 13, 19)] := ⟨gw_t (tb_3 (List.mem_of_getElem? (i := 217) (by decide +kernel))) (by decide +kernel), wd_0, by decide, by decide⟩
theorem np_L_at : (parseMethodDescriptor yL_at.desc).map (fun d => d.parameters.length) = some 3 := by decide +kernel
theorem mw_L_find : MCodeW yL_find cL_find 5 (some .int) [(0, 11, 14, 21)] := ⟨gw_t (tb_3 (List.mem_of_getElem? (i := 224) (by decide +kernel))) (by decide +kernel), wd_0, by decide, by decide⟩
theorem np_L_find : (parseMethodDescriptor yL_find.desc).map (fun d => d.parameters.length) = some 4 := by decide +kernel
theorem mw_L_splice : MCodeW yL_splice cL_splice 4 (some .int) [(0, 10, 13, 19), (0, 10, 16, 23)] := ⟨gw_t (tb_3 (List.mem_of_getElem? (i := 231) (by decide +kernel))) (by decide +kernel), wd_0, by decide, by decide⟩
theorem np_L_splice : (parseMethodDescriptor yL_splice.desc).map (fun d => d.parameters.length) = some 3 := by decide +kernel
theorem mw_L_shunt : MCodeW yL_shunt cL_shunt 5 (some .int) [(0, 11, 14, 19), (0, 11, 18, 21), (0, 11, 22, 23)] := ⟨gw_t (tb_3 (List.mem_of_getElem? (i := 238) (by decide +kernel))) (by decide +kernel), wd_0, by decide, by decide⟩
theorem np_L_shunt : (parseMethodDescriptor yL_shunt.desc).map (fun d => d.parameters.length) = some 4 := by decide +kernel
theorem mw_L_stand : MCodeW yL_stand cL_stand 5 (some .int) [(0, 11, 14, 19)] := ⟨gw_t (tb_4 (List.mem_of_getElem? (i := 8) (by decide +kernel))) (by decide +kernel), wd_0, by decide, by decide⟩
theorem np_L_stand : (parseMethodDescriptor yL_stand.desc).map (fun d => d.parameters.length) = some 4 := by decide +kernel
theorem mw_L_forth : MCodeW yL_forth cL_forth 4 (some .int) [(0, 10, 13, 19), (0, 10, 16, 23)] := ⟨gw_t (tb_4 (List.mem_of_getElem? (i := 23) (by decide +kernel))) (by decide +kernel), wd_0, by decide, by decide⟩
theorem np_L_forth : (parseMethodDescriptor yL_forth.desc).map (fun d => d.parameters.length) = some 3 := by decide +kernel
theorem mw_L_back : MCodeW yL_back cL_back 4 (some .int) [(0, 10, 13, 19), (0, 10, 16, 23)] := ⟨gw_t (tb_4 (List.mem_of_getElem? (i := 39) (by decide +kernel))) (by decide +kernel), wd_0, by decide, by decide⟩
theorem np_L_back : (parseMethodDescriptor yL_back.desc).map (fun d => d.parameters.length) = some 3 := by decide +kernel
theorem mw_L_takeHeld : MCodeW yL_takeHeld cL_takeHeld 4 (some .int) [(0, 10, 13, 19), (0, 10, 16, 23)] := ⟨gw_t (tb_4 (List.mem_of_getElem? (i := 50) (by decide +kernel))) (by decide +kernel), wd_0, by decide, by decide⟩
theorem np_L_takeHeld : (parseMethodDescriptor yL_takeHeld.desc).map (fun d => d.parameters.length) = some 3 := by decide +kernel
theorem mw_L_setHeld : MCodeW yL_setHeld cL_setHeld 6 (some .int) [(0, 13, 16, 19), (0, 13, 20, 21), (0, 13, 24, 23)] := ⟨gw_t (tb_4 (List.mem_of_getElem? (i := 70) (by decide +kernel))) (by decide +kernel), wd_0, by decide, by decide⟩
theorem np_L_setHeld : (parseMethodDescriptor yL_setHeld.desc).map (fun d => d.parameters.length) = some 5 := by decide +kernel
theorem mw_L_put : MCodeW yL_put cL_put 6 (some .int) [(0, 13, 16, 19), (0, 13, 20, 21), (0, 13, 24, 23)] := ⟨gw_t (tb_4 (List.mem_of_getElem? (i := 77) (by decide +kernel))) (by decide +kernel), wd_0, by decide, by decide⟩
theorem np_L_put : (parseMethodDescriptor yL_put.desc).map (fun d => d.parameters.length) = some 5 := by decide +kernel
theorem mw_L_where : MCodeW yL_where cL_where 5 (some .int) [(0, 11, 14, 19), (0, 11, 18, 21), (0, 11, 22, 23)] := ⟨gw_t (tb_4 (List.mem_of_getElem? (i := 88) (by decide +kernel))) (by decide +kernel), wd_0, by decide, by decide⟩
theorem np_L_where : (parseMethodDescriptor yL_where.desc).map (fun d => d.parameters.length) = some 4 := by decide +kernel
theorem mw_L_order : MCodeW yL_order cL_order 4 (some .int) [(0, 10, 13, 21), (0, 10, 16, 23)] := ⟨gw_t (tb_4 (List.mem_of_getElem? (i := 96) (by decide +kernel))) (by decide +kernel), wd_0, by decide, by decide⟩
theorem np_L_order : (parseMethodDescriptor yL_order.desc).map (fun d => d.parameters.length) = some 3 := by decide +kernel
theorem mw_L_work : MCodeW yL_work cL_work 4 (some .int) [(0, 10, 13, 21)] := ⟨gw_t (tb_4 (List.mem_of_getElem? (i := 104) (by decide +kernel))) (by decide +kernel), wd_0, by decide, by decide⟩
theorem np_L_work : (parseMethodDescriptor yL_work.desc).map (fun d => d.parameters.length) = some 3 := by decide +kernel
theorem mw_L_cancel : MCodeW yL_cancel cL_cancel 5 (some .int) [(0, 18, 21, 21)] := ⟨gw_t (tb_4 (List.mem_of_getElem? (i := 128) (by decide +kernel))) (by decide +kernel), wd_0, by decide, by decide⟩
theorem np_L_cancel : (parseMethodDescriptor yL_cancel.desc).map (fun d => d.parameters.length) = some 4 := by decide +kernel
theorem mw_L_ask : MCodeW yL_ask cL_ask 5 (some .int) [(0, 11, 14, 19), (0, 11, 18, 21)] := ⟨gw_t (tb_4 (List.mem_of_getElem? (i := 139) (by decide +kernel))) (by decide +kernel), wd_0, by decide, by decide⟩
theorem np_L_ask : (parseMethodDescriptor yL_ask.desc).map (fun d => d.parameters.length) = some 4 := by decide +kernel
theorem mw_L_ofTrack : MCodeW yL_ofTrack cL_ofTrack 5 (some .int) [(0, 11, 14, 19), (0, 11, 18, 21)] := ⟨gw_t (tb_4 (List.mem_of_getElem? (i := 146) (by decide +kernel))) (by decide +kernel), wd_0, by decide, by decide⟩
theorem np_L_ofTrack : (parseMethodDescriptor yL_ofTrack.desc).map (fun d => d.parameters.length) = some 4 := by decide +kernel
theorem mw_L_has : MCodeW yL_has cL_has 5 (some .int) [(0, 18, 21, 19), (0, 18, 25, 21)] := ⟨gw_t (tb_4 (List.mem_of_getElem? (i := 153) (by decide +kernel))) (by decide +kernel), wd_0, by decide, by decide⟩
theorem np_L_has : (parseMethodDescriptor yL_has.desc).map (fun d => d.parameters.length) = some 4 := by decide +kernel
theorem mw_L_text : MCodeW yL_text cL_text 5 (some .int) [(0, 10, 13, 19)] := ⟨gw_t (tb_4 (List.mem_of_getElem? (i := 160) (by decide +kernel))) (by decide +kernel), wd_0, by decide, by decide⟩
theorem np_L_text : (parseMethodDescriptor yL_text.desc).map (fun d => d.parameters.length) = some 4 := by decide +kernel
theorem mw_L_nested : MCodeW yL_nested cL_nested 4 (some .int) [(0, 10, 13, 19)] := ⟨gw_t (tb_5 (List.mem_of_getElem? (i := 188) (by decide +kernel))) (by decide +kernel), wd_0, by decide, by decide⟩
theorem np_L_nested : (parseMethodDescriptor yL_nested.desc).map (fun d => d.parameters.length) = some 3 := by decide +kernel
theorem mw_L_heaviest : MCodeW yL_heaviest cL_heaviest 6 (some .int) [(0, 13, 16, 19), (0, 13, 20, 21)] := ⟨gw_t (tb_5 (List.mem_of_getElem? (i := 195) (by decide +kernel))) (by decide +kernel), wd_0, by decide, by decide⟩
theorem np_L_heaviest : (parseMethodDescriptor yL_heaviest.desc).map (fun d => d.parameters.length) = some 5 := by decide +kernel
theorem mw_L_ahead : MCodeW yL_ahead cL_ahead 5 (some .int) [(0, 11, 14, 19)] := ⟨gw_t (tb_5 (List.mem_of_getElem? (i := 202) (by decide +kernel))) (by decide +kernel), wd_0, by decide, by decide⟩
theorem np_L_ahead : (parseMethodDescriptor yL_ahead.desc).map (fun d => d.parameters.length) = some 4 := by decide +kernel
theorem mw_L_yard : MCodeW yL_yard cL_yard 4 (some .int) [(0, 10, 13, 21)] := ⟨gw_t (tb_5 (List.mem_of_getElem? (i := 209) (by decide +kernel))) (by decide +kernel), wd_0, by decide, by decide⟩
theorem np_L_yard : (parseMethodDescriptor yL_yard.desc).map (fun d => d.parameters.length) = some 3 := by decide +kernel
end
