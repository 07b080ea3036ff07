/-! decode rows by lists: one check a list, a row by its place -/
def vl_ok (c : ByteArray) (l : List (Nat × Instr × Nat)) : Bool := l.all fun r => decide (decode c r.1 = .ok r.2)
theorem vl_at {c : ByteArray} {l : List (Nat × Instr × Nat)} (h : vl_ok c l = true) {i pc n : Nat} {I : Instr} (hi : l[i]? = some (pc, I, n)) : decode c pc = .ok (I, n) := by
  unfold vl_ok at h
  have h1 := List.all_eq_true.mp h (pc, I, n) (List.mem_of_getElem? hi)
  have h2 : decode c (pc, I, n).1 = .ok (pc, I, n).2 := of_decide_eq_true h1
  exact h2
noncomputable def vl_cX0_init_0 : List (Nat × Instr × Nat) := [(0, .aload_n 0, 1), (1, .invokespecial 3, 3), (4, .aload_n 0, 1), (5, .iload_n 1, 1), (6, .ifCond .le 7, 3), (9, .iload_n 1, 1), (10, .goto 4, 3), (14, .newarray .int, 2), (16, .putfield 9, 3), (19, .aload_n 0, 1), (20, .iconst 0, 1), (21, .putfield 15, 3), (24, .return_, 1)]
theorem vq_cX0_init_0 : vl_ok cX0_init vl_cX0_init_0 = true := by decide +kernel
theorem dX0_init_0 : decode cX0_init 0 = .ok (.aload_n 0, 1) := vl_at vq_cX0_init_0 (i := 0) rfl
theorem dX0_init_1 : decode cX0_init 1 = .ok (.invokespecial 3, 3) := vl_at vq_cX0_init_0 (i := 1) rfl
theorem dX0_init_4 : decode cX0_init 4 = .ok (.aload_n 0, 1) := vl_at vq_cX0_init_0 (i := 2) rfl
theorem dX0_init_5 : decode cX0_init 5 = .ok (.iload_n 1, 1) := vl_at vq_cX0_init_0 (i := 3) rfl
theorem dX0_init_6 : decode cX0_init 6 = .ok (.ifCond .le 7, 3) := vl_at vq_cX0_init_0 (i := 4) rfl
theorem dX0_init_9 : decode cX0_init 9 = .ok (.iload_n 1, 1) := vl_at vq_cX0_init_0 (i := 5) rfl
theorem dX0_init_10 : decode cX0_init 10 = .ok (.goto 4, 3) := vl_at vq_cX0_init_0 (i := 6) rfl
theorem dX0_init_14 : decode cX0_init 14 = .ok (.newarray .int, 2) := vl_at vq_cX0_init_0 (i := 7) rfl
theorem dX0_init_16 : decode cX0_init 16 = .ok (.putfield 9, 3) := vl_at vq_cX0_init_0 (i := 8) rfl
theorem dX0_init_19 : decode cX0_init 19 = .ok (.aload_n 0, 1) := vl_at vq_cX0_init_0 (i := 9) rfl
theorem dX0_init_20 : decode cX0_init 20 = .ok (.iconst 0, 1) := vl_at vq_cX0_init_0 (i := 10) rfl
theorem dX0_init_21 : decode cX0_init 21 = .ok (.putfield 15, 3) := vl_at vq_cX0_init_0 (i := 11) rfl
theorem dX0_init_24 : decode cX0_init 24 = .ok (.return_, 1) := vl_at vq_cX0_init_0 (i := 12) rfl
noncomputable def vl_cX0_size_0 : List (Nat × Instr × Nat) := [(0, .aload_n 0, 1), (1, .getfield 15, 3), (4, .ireturn, 1)]
theorem vq_cX0_size_0 : vl_ok cX0_size vl_cX0_size_0 = true := by decide +kernel
theorem dX0_size_0 : decode cX0_size 0 = .ok (.aload_n 0, 1) := vl_at vq_cX0_size_0 (i := 0) rfl
theorem dX0_size_1 : decode cX0_size 1 = .ok (.getfield 15, 3) := vl_at vq_cX0_size_0 (i := 1) rfl
theorem dX0_size_4 : decode cX0_size 4 = .ok (.ireturn, 1) := vl_at vq_cX0_size_0 (i := 2) rfl
noncomputable def vl_cX0_isEmpty_0 : List (Nat × Instr × Nat) := [(0, .aload_n 0, 1), (1, .getfield 15, 3), (4, .ifCond .ne 7, 3), (7, .iconst 1, 1), (8, .goto 4, 3), (11, .iconst 0, 1), (12, .ireturn, 1)]
theorem vq_cX0_isEmpty_0 : vl_ok cX0_isEmpty vl_cX0_isEmpty_0 = true := by decide +kernel
theorem dX0_isEmpty_0 : decode cX0_isEmpty 0 = .ok (.aload_n 0, 1) := vl_at vq_cX0_isEmpty_0 (i := 0) rfl
theorem dX0_isEmpty_1 : decode cX0_isEmpty 1 = .ok (.getfield 15, 3) := vl_at vq_cX0_isEmpty_0 (i := 1) rfl
theorem dX0_isEmpty_4 : decode cX0_isEmpty 4 = .ok (.ifCond .ne 7, 3) := vl_at vq_cX0_isEmpty_0 (i := 2) rfl
theorem dX0_isEmpty_7 : decode cX0_isEmpty 7 = .ok (.iconst 1, 1) := vl_at vq_cX0_isEmpty_0 (i := 3) rfl
theorem dX0_isEmpty_8 : decode cX0_isEmpty 8 = .ok (.goto 4, 3) := vl_at vq_cX0_isEmpty_0 (i := 4) rfl
theorem dX0_isEmpty_11 : decode cX0_isEmpty 11 = .ok (.iconst 0, 1) := vl_at vq_cX0_isEmpty_0 (i := 5) rfl
theorem dX0_isEmpty_12 : decode cX0_isEmpty 12 = .ok (.ireturn, 1) := vl_at vq_cX0_isEmpty_0 (i := 6) rfl
noncomputable def vl_cX0_isFull_0 : List (Nat × Instr × Nat) := [(0, .aload_n 0, 1), (1, .getfield 15, 3), (4, .aload_n 0, 1), (5, .getfield 9, 3), (8, .arraylength, 1), (9, .if_icmp .lt 7, 3), (12, .iconst 1, 1), (13, .goto 4, 3), (16, .iconst 0, 1), (17, .ireturn, 1)]
theorem vq_cX0_isFull_0 : vl_ok cX0_isFull vl_cX0_isFull_0 = true := by decide +kernel
theorem dX0_isFull_0 : decode cX0_isFull 0 = .ok (.aload_n 0, 1) := vl_at vq_cX0_isFull_0 (i := 0) rfl
theorem dX0_isFull_1 : decode cX0_isFull 1 = .ok (.getfield 15, 3) := vl_at vq_cX0_isFull_0 (i := 1) rfl
theorem dX0_isFull_4 : decode cX0_isFull 4 = .ok (.aload_n 0, 1) := vl_at vq_cX0_isFull_0 (i := 2) rfl
theorem dX0_isFull_5 : decode cX0_isFull 5 = .ok (.getfield 9, 3) := vl_at vq_cX0_isFull_0 (i := 3) rfl
theorem dX0_isFull_8 : decode cX0_isFull 8 = .ok (.arraylength, 1) := vl_at vq_cX0_isFull_0 (i := 4) rfl
theorem dX0_isFull_9 : decode cX0_isFull 9 = .ok (.if_icmp .lt 7, 3) := vl_at vq_cX0_isFull_0 (i := 5) rfl
theorem dX0_isFull_12 : decode cX0_isFull 12 = .ok (.iconst 1, 1) := vl_at vq_cX0_isFull_0 (i := 6) rfl
theorem dX0_isFull_13 : decode cX0_isFull 13 = .ok (.goto 4, 3) := vl_at vq_cX0_isFull_0 (i := 7) rfl
theorem dX0_isFull_16 : decode cX0_isFull 16 = .ok (.iconst 0, 1) := vl_at vq_cX0_isFull_0 (i := 8) rfl
theorem dX0_isFull_17 : decode cX0_isFull 17 = .ok (.ireturn, 1) := vl_at vq_cX0_isFull_0 (i := 9) rfl
noncomputable def vl_cX0_read_0 : List (Nat × Instr × Nat) := [(0, .iload_n 1, 1), (1, .ifCond .lt 29, 3), (4, .iload_n 1, 1), (5, .aload_n 0, 1), (6, .getfield 15, 3), (9, .if_icmp .ge 21, 3), (12, .iload_n 1, 1), (13, .aload_n 0, 1), (14, .getfield 9, 3), (17, .arraylength, 1), (18, .if_icmp .ge 12, 3), (21, .aload_n 0, 1), (22, .getfield 9, 3), (25, .iload_n 1, 1), (26, .iaload, 1), (27, .goto 4, 3), (30, .iconst 0, 1), (31, .ireturn, 1)]
theorem vq_cX0_read_0 : vl_ok cX0_read vl_cX0_read_0 = true := by decide +kernel
theorem dX0_read_0 : decode cX0_read 0 = .ok (.iload_n 1, 1) := vl_at vq_cX0_read_0 (i := 0) rfl
theorem dX0_read_1 : decode cX0_read 1 = .ok (.ifCond .lt 29, 3) := vl_at vq_cX0_read_0 (i := 1) rfl
theorem dX0_read_4 : decode cX0_read 4 = .ok (.iload_n 1, 1) := vl_at vq_cX0_read_0 (i := 2) rfl
theorem dX0_read_5 : decode cX0_read 5 = .ok (.aload_n 0, 1) := vl_at vq_cX0_read_0 (i := 3) rfl
theorem dX0_read_6 : decode cX0_read 6 = .ok (.getfield 15, 3) := vl_at vq_cX0_read_0 (i := 4) rfl
theorem dX0_read_9 : decode cX0_read 9 = .ok (.if_icmp .ge 21, 3) := vl_at vq_cX0_read_0 (i := 5) rfl
theorem dX0_read_12 : decode cX0_read 12 = .ok (.iload_n 1, 1) := vl_at vq_cX0_read_0 (i := 6) rfl
theorem dX0_read_13 : decode cX0_read 13 = .ok (.aload_n 0, 1) := vl_at vq_cX0_read_0 (i := 7) rfl
theorem dX0_read_14 : decode cX0_read 14 = .ok (.getfield 9, 3) := vl_at vq_cX0_read_0 (i := 8) rfl
theorem dX0_read_17 : decode cX0_read 17 = .ok (.arraylength, 1) := vl_at vq_cX0_read_0 (i := 9) rfl
theorem dX0_read_18 : decode cX0_read 18 = .ok (.if_icmp .ge 12, 3) := vl_at vq_cX0_read_0 (i := 10) rfl
theorem dX0_read_21 : decode cX0_read 21 = .ok (.aload_n 0, 1) := vl_at vq_cX0_read_0 (i := 11) rfl
theorem dX0_read_22 : decode cX0_read 22 = .ok (.getfield 9, 3) := vl_at vq_cX0_read_0 (i := 12) rfl
theorem dX0_read_25 : decode cX0_read 25 = .ok (.iload_n 1, 1) := vl_at vq_cX0_read_0 (i := 13) rfl
theorem dX0_read_26 : decode cX0_read 26 = .ok (.iaload, 1) := vl_at vq_cX0_read_0 (i := 14) rfl
theorem dX0_read_27 : decode cX0_read 27 = .ok (.goto 4, 3) := vl_at vq_cX0_read_0 (i := 15) rfl
theorem dX0_read_30 : decode cX0_read 30 = .ok (.iconst 0, 1) := vl_at vq_cX0_read_0 (i := 16) rfl
theorem dX0_read_31 : decode cX0_read 31 = .ok (.ireturn, 1) := vl_at vq_cX0_read_0 (i := 17) rfl
noncomputable def vl_cX0_readFrom_0 : List (Nat × Instr × Nat) := [(0, .aload_n 0, 1), (1, .iload_n 1, 1), (2, .ifCond .eq 14, 3), (5, .aload_n 0, 1), (6, .getfield 15, 3), (9, .iconst 1, 1), (10, .isub, 1), (11, .iload_n 2, 1), (12, .isub, 1), (13, .goto 4, 3), (16, .iload_n 2, 1), (17, .invokevirtual 19, 3), (20, .ireturn, 1)]
theorem vq_cX0_readFrom_0 : vl_ok cX0_readFrom vl_cX0_readFrom_0 = true := by decide +kernel
theorem dX0_readFrom_0 : decode cX0_readFrom 0 = .ok (.aload_n 0, 1) := vl_at vq_cX0_readFrom_0 (i := 0) rfl
theorem dX0_readFrom_1 : decode cX0_readFrom 1 = .ok (.iload_n 1, 1) := vl_at vq_cX0_readFrom_0 (i := 1) rfl
theorem dX0_readFrom_2 : decode cX0_readFrom 2 = .ok (.ifCond .eq 14, 3) := vl_at vq_cX0_readFrom_0 (i := 2) rfl
theorem dX0_readFrom_5 : decode cX0_readFrom 5 = .ok (.aload_n 0, 1) := vl_at vq_cX0_readFrom_0 (i := 3) rfl
theorem dX0_readFrom_6 : decode cX0_readFrom 6 = .ok (.getfield 15, 3) := vl_at vq_cX0_readFrom_0 (i := 4) rfl
theorem dX0_readFrom_9 : decode cX0_readFrom 9 = .ok (.iconst 1, 1) := vl_at vq_cX0_readFrom_0 (i := 5) rfl
theorem dX0_readFrom_10 : decode cX0_readFrom 10 = .ok (.isub, 1) := vl_at vq_cX0_readFrom_0 (i := 6) rfl
theorem dX0_readFrom_11 : decode cX0_readFrom 11 = .ok (.iload_n 2, 1) := vl_at vq_cX0_readFrom_0 (i := 7) rfl
theorem dX0_readFrom_12 : decode cX0_readFrom 12 = .ok (.isub, 1) := vl_at vq_cX0_readFrom_0 (i := 8) rfl
theorem dX0_readFrom_13 : decode cX0_readFrom 13 = .ok (.goto 4, 3) := vl_at vq_cX0_readFrom_0 (i := 9) rfl
theorem dX0_readFrom_16 : decode cX0_readFrom 16 = .ok (.iload_n 2, 1) := vl_at vq_cX0_readFrom_0 (i := 10) rfl
theorem dX0_readFrom_17 : decode cX0_readFrom 17 = .ok (.invokevirtual 19, 3) := vl_at vq_cX0_readFrom_0 (i := 11) rfl
theorem dX0_readFrom_20 : decode cX0_readFrom 20 = .ok (.ireturn, 1) := vl_at vq_cX0_readFrom_0 (i := 12) rfl
noncomputable def vl_cX0_overwrite_0 : List (Nat × Instr × Nat) := [(0, .iload_n 1, 1), (1, .ifCond .lt 27, 3), (4, .iload_n 1, 1), (5, .aload_n 0, 1), (6, .getfield 15, 3), (9, .if_icmp .ge 19, 3), (12, .iload_n 1, 1), (13, .aload_n 0, 1), (14, .getfield 9, 3), (17, .arraylength, 1), (18, .if_icmp .ge 10, 3), (21, .aload_n 0, 1), (22, .getfield 9, 3), (25, .iload_n 1, 1), (26, .iload_n 2, 1), (27, .iastore, 1), (28, .return_, 1)]
theorem vq_cX0_overwrite_0 : vl_ok cX0_overwrite vl_cX0_overwrite_0 = true := by decide +kernel
theorem dX0_overwrite_0 : decode cX0_overwrite 0 = .ok (.iload_n 1, 1) := vl_at vq_cX0_overwrite_0 (i := 0) rfl
theorem dX0_overwrite_1 : decode cX0_overwrite 1 = .ok (.ifCond .lt 27, 3) := vl_at vq_cX0_overwrite_0 (i := 1) rfl
theorem dX0_overwrite_4 : decode cX0_overwrite 4 = .ok (.iload_n 1, 1) := vl_at vq_cX0_overwrite_0 (i := 2) rfl
theorem dX0_overwrite_5 : decode cX0_overwrite 5 = .ok (.aload_n 0, 1) := vl_at vq_cX0_overwrite_0 (i := 3) rfl
theorem dX0_overwrite_6 : decode cX0_overwrite 6 = .ok (.getfield 15, 3) := vl_at vq_cX0_overwrite_0 (i := 4) rfl
theorem dX0_overwrite_9 : decode cX0_overwrite 9 = .ok (.if_icmp .ge 19, 3) := vl_at vq_cX0_overwrite_0 (i := 5) rfl
theorem dX0_overwrite_12 : decode cX0_overwrite 12 = .ok (.iload_n 1, 1) := vl_at vq_cX0_overwrite_0 (i := 6) rfl
theorem dX0_overwrite_13 : decode cX0_overwrite 13 = .ok (.aload_n 0, 1) := vl_at vq_cX0_overwrite_0 (i := 7) rfl
theorem dX0_overwrite_14 : decode cX0_overwrite 14 = .ok (.getfield 9, 3) := vl_at vq_cX0_overwrite_0 (i := 8) rfl
theorem dX0_overwrite_17 : decode cX0_overwrite 17 = .ok (.arraylength, 1) := vl_at vq_cX0_overwrite_0 (i := 9) rfl
theorem dX0_overwrite_18 : decode cX0_overwrite 18 = .ok (.if_icmp .ge 10, 3) := vl_at vq_cX0_overwrite_0 (i := 10) rfl
theorem dX0_overwrite_21 : decode cX0_overwrite 21 = .ok (.aload_n 0, 1) := vl_at vq_cX0_overwrite_0 (i := 11) rfl
theorem dX0_overwrite_22 : decode cX0_overwrite 22 = .ok (.getfield 9, 3) := vl_at vq_cX0_overwrite_0 (i := 12) rfl
theorem dX0_overwrite_25 : decode cX0_overwrite 25 = .ok (.iload_n 1, 1) := vl_at vq_cX0_overwrite_0 (i := 13) rfl
theorem dX0_overwrite_26 : decode cX0_overwrite 26 = .ok (.iload_n 2, 1) := vl_at vq_cX0_overwrite_0 (i := 14) rfl
theorem dX0_overwrite_27 : decode cX0_overwrite 27 = .ok (.iastore, 1) := vl_at vq_cX0_overwrite_0 (i := 15) rfl
theorem dX0_overwrite_28 : decode cX0_overwrite 28 = .ok (.return_, 1) := vl_at vq_cX0_overwrite_0 (i := 16) rfl
noncomputable def vl_cX0_enter_0 : List (Nat × Instr × Nat) := [(0, .aload_n 0, 1), (1, .invokevirtual 23, 3), (4, .ifCond .ne 15, 3), (7, .iload_n 1, 1), (8, .ifCond .lt 11, 3), (11, .iload_n 1, 1), (12, .aload_n 0, 1), (13, .getfield 15, 3), (16, .if_icmp .le 4, 3), (19, .return_, 1), (20, .aload_n 0, 1), (21, .dup, 1), (22, .getfield 15, 3), (25, .iconst 1, 1), (26, .iadd, 1), (27, .putfield 15, 3), (30, .aload_n 0, 1), (31, .getfield 15, 3), (34, .iconst 1, 1), (35, .isub, 1), (36, .istore_n 3, 1), (37, .iload_n 3, 1), (38, .iload_n 1, 1), (39, .if_icmp .le 21, 3), (42, .aload_n 0, 1), (43, .iload_n 3, 1), (44, .aload_n 0, 1), (45, .iload_n 3, 1), (46, .iconst 1, 1), (47, .isub, 1), (48, .invokevirtual 19, 3), (51, .invokevirtual 27, 3), (54, .iinc 3 (-1), 3), (57, .goto (-20), 3), (60, .aload_n 0, 1), (61, .iload_n 1, 1), (62, .iload_n 2, 1), (63, .invokevirtual 27, 3), (66, .return_, 1)]
theorem vq_cX0_enter_0 : vl_ok cX0_enter vl_cX0_enter_0 = true := by decide +kernel
theorem dX0_enter_0 : decode cX0_enter 0 = .ok (.aload_n 0, 1) := vl_at vq_cX0_enter_0 (i := 0) rfl
theorem dX0_enter_1 : decode cX0_enter 1 = .ok (.invokevirtual 23, 3) := vl_at vq_cX0_enter_0 (i := 1) rfl
theorem dX0_enter_4 : decode cX0_enter 4 = .ok (.ifCond .ne 15, 3) := vl_at vq_cX0_enter_0 (i := 2) rfl
theorem dX0_enter_7 : decode cX0_enter 7 = .ok (.iload_n 1, 1) := vl_at vq_cX0_enter_0 (i := 3) rfl
theorem dX0_enter_8 : decode cX0_enter 8 = .ok (.ifCond .lt 11, 3) := vl_at vq_cX0_enter_0 (i := 4) rfl
theorem dX0_enter_11 : decode cX0_enter 11 = .ok (.iload_n 1, 1) := vl_at vq_cX0_enter_0 (i := 5) rfl
theorem dX0_enter_12 : decode cX0_enter 12 = .ok (.aload_n 0, 1) := vl_at vq_cX0_enter_0 (i := 6) rfl
theorem dX0_enter_13 : decode cX0_enter 13 = .ok (.getfield 15, 3) := vl_at vq_cX0_enter_0 (i := 7) rfl
theorem dX0_enter_16 : decode cX0_enter 16 = .ok (.if_icmp .le 4, 3) := vl_at vq_cX0_enter_0 (i := 8) rfl
theorem dX0_enter_19 : decode cX0_enter 19 = .ok (.return_, 1) := vl_at vq_cX0_enter_0 (i := 9) rfl
theorem dX0_enter_20 : decode cX0_enter 20 = .ok (.aload_n 0, 1) := vl_at vq_cX0_enter_0 (i := 10) rfl
theorem dX0_enter_21 : decode cX0_enter 21 = .ok (.dup, 1) := vl_at vq_cX0_enter_0 (i := 11) rfl
theorem dX0_enter_22 : decode cX0_enter 22 = .ok (.getfield 15, 3) := vl_at vq_cX0_enter_0 (i := 12) rfl
theorem dX0_enter_25 : decode cX0_enter 25 = .ok (.iconst 1, 1) := vl_at vq_cX0_enter_0 (i := 13) rfl
theorem dX0_enter_26 : decode cX0_enter 26 = .ok (.iadd, 1) := vl_at vq_cX0_enter_0 (i := 14) rfl
theorem dX0_enter_27 : decode cX0_enter 27 = .ok (.putfield 15, 3) := vl_at vq_cX0_enter_0 (i := 15) rfl
theorem dX0_enter_30 : decode cX0_enter 30 = .ok (.aload_n 0, 1) := vl_at vq_cX0_enter_0 (i := 16) rfl
theorem dX0_enter_31 : decode cX0_enter 31 = .ok (.getfield 15, 3) := vl_at vq_cX0_enter_0 (i := 17) rfl
theorem dX0_enter_34 : decode cX0_enter 34 = .ok (.iconst 1, 1) := vl_at vq_cX0_enter_0 (i := 18) rfl
theorem dX0_enter_35 : decode cX0_enter 35 = .ok (.isub, 1) := vl_at vq_cX0_enter_0 (i := 19) rfl
theorem dX0_enter_36 : decode cX0_enter 36 = .ok (.istore_n 3, 1) := vl_at vq_cX0_enter_0 (i := 20) rfl
theorem dX0_enter_37 : decode cX0_enter 37 = .ok (.iload_n 3, 1) := vl_at vq_cX0_enter_0 (i := 21) rfl
theorem dX0_enter_38 : decode cX0_enter 38 = .ok (.iload_n 1, 1) := vl_at vq_cX0_enter_0 (i := 22) rfl
theorem dX0_enter_39 : decode cX0_enter 39 = .ok (.if_icmp .le 21, 3) := vl_at vq_cX0_enter_0 (i := 23) rfl
theorem dX0_enter_42 : decode cX0_enter 42 = .ok (.aload_n 0, 1) := vl_at vq_cX0_enter_0 (i := 24) rfl
theorem dX0_enter_43 : decode cX0_enter 43 = .ok (.iload_n 3, 1) := vl_at vq_cX0_enter_0 (i := 25) rfl
theorem dX0_enter_44 : decode cX0_enter 44 = .ok (.aload_n 0, 1) := vl_at vq_cX0_enter_0 (i := 26) rfl
theorem dX0_enter_45 : decode cX0_enter 45 = .ok (.iload_n 3, 1) := vl_at vq_cX0_enter_0 (i := 27) rfl
theorem dX0_enter_46 : decode cX0_enter 46 = .ok (.iconst 1, 1) := vl_at vq_cX0_enter_0 (i := 28) rfl
theorem dX0_enter_47 : decode cX0_enter 47 = .ok (.isub, 1) := vl_at vq_cX0_enter_0 (i := 29) rfl
theorem dX0_enter_48 : decode cX0_enter 48 = .ok (.invokevirtual 19, 3) := vl_at vq_cX0_enter_0 (i := 30) rfl
theorem dX0_enter_51 : decode cX0_enter 51 = .ok (.invokevirtual 27, 3) := vl_at vq_cX0_enter_0 (i := 31) rfl
theorem dX0_enter_54 : decode cX0_enter 54 = .ok (.iinc 3 (-1), 3) := vl_at vq_cX0_enter_0 (i := 32) rfl
theorem dX0_enter_57 : decode cX0_enter 57 = .ok (.goto (-20), 3) := vl_at vq_cX0_enter_0 (i := 33) rfl
theorem dX0_enter_60 : decode cX0_enter 60 = .ok (.aload_n 0, 1) := vl_at vq_cX0_enter_0 (i := 34) rfl
theorem dX0_enter_61 : decode cX0_enter 61 = .ok (.iload_n 1, 1) := vl_at vq_cX0_enter_0 (i := 35) rfl
theorem dX0_enter_62 : decode cX0_enter 62 = .ok (.iload_n 2, 1) := vl_at vq_cX0_enter_0 (i := 36) rfl
theorem dX0_enter_63 : decode cX0_enter 63 = .ok (.invokevirtual 27, 3) := vl_at vq_cX0_enter_0 (i := 37) rfl
theorem dX0_enter_66 : decode cX0_enter 66 = .ok (.return_, 1) := vl_at vq_cX0_enter_0 (i := 38) rfl
noncomputable def vl_cX0_enterLast_0 : List (Nat × Instr × Nat) := [(0, .aload_n 0, 1), (1, .aload_n 0, 1), (2, .getfield 15, 3), (5, .iload_n 1, 1), (6, .invokevirtual 31, 3), (9, .return_, 1)]
theorem vq_cX0_enterLast_0 : vl_ok cX0_enterLast vl_cX0_enterLast_0 = true := by decide +kernel
theorem dX0_enterLast_0 : decode cX0_enterLast 0 = .ok (.aload_n 0, 1) := vl_at vq_cX0_enterLast_0 (i := 0) rfl
theorem dX0_enterLast_1 : decode cX0_enterLast 1 = .ok (.aload_n 0, 1) := vl_at vq_cX0_enterLast_0 (i := 1) rfl
theorem dX0_enterLast_2 : decode cX0_enterLast 2 = .ok (.getfield 15, 3) := vl_at vq_cX0_enterLast_0 (i := 2) rfl
theorem dX0_enterLast_5 : decode cX0_enterLast 5 = .ok (.iload_n 1, 1) := vl_at vq_cX0_enterLast_0 (i := 3) rfl
theorem dX0_enterLast_6 : decode cX0_enterLast 6 = .ok (.invokevirtual 31, 3) := vl_at vq_cX0_enterLast_0 (i := 4) rfl
theorem dX0_enterLast_9 : decode cX0_enterLast 9 = .ok (.return_, 1) := vl_at vq_cX0_enterLast_0 (i := 5) rfl
noncomputable def vl_cX0_leave_0 : List (Nat × Instr × Nat) := [(0, .iload_n 1, 1), (1, .ifCond .lt 11, 3), (4, .iload_n 1, 1), (5, .aload_n 0, 1), (6, .getfield 15, 3), (9, .if_icmp .lt 5, 3), (12, .iconst 0, 1), (13, .ireturn, 1), (14, .aload_n 0, 1), (15, .iload_n 1, 1), (16, .invokevirtual 19, 3), (19, .istore_n 2, 1), (20, .iload_n 1, 1), (21, .istore_n 3, 1), (22, .iload_n 3, 1), (23, .aload_n 0, 1), (24, .getfield 15, 3), (27, .iconst 1, 1), (28, .isub, 1), (29, .if_icmp .ge 21, 3), (32, .aload_n 0, 1), (33, .iload_n 3, 1), (34, .aload_n 0, 1), (35, .iload_n 3, 1), (36, .iconst 1, 1), (37, .iadd, 1), (38, .invokevirtual 19, 3), (41, .invokevirtual 27, 3), (44, .iinc 3 1, 3), (47, .goto (-25), 3), (50, .aload_n 0, 1), (51, .dup, 1), (52, .getfield 15, 3), (55, .iconst 1, 1), (56, .isub, 1), (57, .putfield 15, 3), (60, .iload_n 2, 1), (61, .ireturn, 1)]
theorem vq_cX0_leave_0 : vl_ok cX0_leave vl_cX0_leave_0 = true := by decide +kernel
theorem dX0_leave_0 : decode cX0_leave 0 = .ok (.iload_n 1, 1) := vl_at vq_cX0_leave_0 (i := 0) rfl
theorem dX0_leave_1 : decode cX0_leave 1 = .ok (.ifCond .lt 11, 3) := vl_at vq_cX0_leave_0 (i := 1) rfl
theorem dX0_leave_4 : decode cX0_leave 4 = .ok (.iload_n 1, 1) := vl_at vq_cX0_leave_0 (i := 2) rfl
theorem dX0_leave_5 : decode cX0_leave 5 = .ok (.aload_n 0, 1) := vl_at vq_cX0_leave_0 (i := 3) rfl
theorem dX0_leave_6 : decode cX0_leave 6 = .ok (.getfield 15, 3) := vl_at vq_cX0_leave_0 (i := 4) rfl
theorem dX0_leave_9 : decode cX0_leave 9 = .ok (.if_icmp .lt 5, 3) := vl_at vq_cX0_leave_0 (i := 5) rfl
theorem dX0_leave_12 : decode cX0_leave 12 = .ok (.iconst 0, 1) := vl_at vq_cX0_leave_0 (i := 6) rfl
theorem dX0_leave_13 : decode cX0_leave 13 = .ok (.ireturn, 1) := vl_at vq_cX0_leave_0 (i := 7) rfl
theorem dX0_leave_14 : decode cX0_leave 14 = .ok (.aload_n 0, 1) := vl_at vq_cX0_leave_0 (i := 8) rfl
theorem dX0_leave_15 : decode cX0_leave 15 = .ok (.iload_n 1, 1) := vl_at vq_cX0_leave_0 (i := 9) rfl
theorem dX0_leave_16 : decode cX0_leave 16 = .ok (.invokevirtual 19, 3) := vl_at vq_cX0_leave_0 (i := 10) rfl
theorem dX0_leave_19 : decode cX0_leave 19 = .ok (.istore_n 2, 1) := vl_at vq_cX0_leave_0 (i := 11) rfl
theorem dX0_leave_20 : decode cX0_leave 20 = .ok (.iload_n 1, 1) := vl_at vq_cX0_leave_0 (i := 12) rfl
theorem dX0_leave_21 : decode cX0_leave 21 = .ok (.istore_n 3, 1) := vl_at vq_cX0_leave_0 (i := 13) rfl
theorem dX0_leave_22 : decode cX0_leave 22 = .ok (.iload_n 3, 1) := vl_at vq_cX0_leave_0 (i := 14) rfl
theorem dX0_leave_23 : decode cX0_leave 23 = .ok (.aload_n 0, 1) := vl_at vq_cX0_leave_0 (i := 15) rfl
theorem dX0_leave_24 : decode cX0_leave 24 = .ok (.getfield 15, 3) := vl_at vq_cX0_leave_0 (i := 16) rfl
theorem dX0_leave_27 : decode cX0_leave 27 = .ok (.iconst 1, 1) := vl_at vq_cX0_leave_0 (i := 17) rfl
theorem dX0_leave_28 : decode cX0_leave 28 = .ok (.isub, 1) := vl_at vq_cX0_leave_0 (i := 18) rfl
theorem dX0_leave_29 : decode cX0_leave 29 = .ok (.if_icmp .ge 21, 3) := vl_at vq_cX0_leave_0 (i := 19) rfl
theorem dX0_leave_32 : decode cX0_leave 32 = .ok (.aload_n 0, 1) := vl_at vq_cX0_leave_0 (i := 20) rfl
theorem dX0_leave_33 : decode cX0_leave 33 = .ok (.iload_n 3, 1) := vl_at vq_cX0_leave_0 (i := 21) rfl
theorem dX0_leave_34 : decode cX0_leave 34 = .ok (.aload_n 0, 1) := vl_at vq_cX0_leave_0 (i := 22) rfl
theorem dX0_leave_35 : decode cX0_leave 35 = .ok (.iload_n 3, 1) := vl_at vq_cX0_leave_0 (i := 23) rfl
theorem dX0_leave_36 : decode cX0_leave 36 = .ok (.iconst 1, 1) := vl_at vq_cX0_leave_0 (i := 24) rfl
theorem dX0_leave_37 : decode cX0_leave 37 = .ok (.iadd, 1) := vl_at vq_cX0_leave_0 (i := 25) rfl
theorem dX0_leave_38 : decode cX0_leave 38 = .ok (.invokevirtual 19, 3) := vl_at vq_cX0_leave_0 (i := 26) rfl
theorem dX0_leave_41 : decode cX0_leave 41 = .ok (.invokevirtual 27, 3) := vl_at vq_cX0_leave_0 (i := 27) rfl
theorem dX0_leave_44 : decode cX0_leave 44 = .ok (.iinc 3 1, 3) := vl_at vq_cX0_leave_0 (i := 28) rfl
theorem dX0_leave_47 : decode cX0_leave 47 = .ok (.goto (-25), 3) := vl_at vq_cX0_leave_0 (i := 29) rfl
theorem dX0_leave_50 : decode cX0_leave 50 = .ok (.aload_n 0, 1) := vl_at vq_cX0_leave_0 (i := 30) rfl
theorem dX0_leave_51 : decode cX0_leave 51 = .ok (.dup, 1) := vl_at vq_cX0_leave_0 (i := 31) rfl
theorem dX0_leave_52 : decode cX0_leave 52 = .ok (.getfield 15, 3) := vl_at vq_cX0_leave_0 (i := 32) rfl
theorem dX0_leave_55 : decode cX0_leave 55 = .ok (.iconst 1, 1) := vl_at vq_cX0_leave_0 (i := 33) rfl
theorem dX0_leave_56 : decode cX0_leave 56 = .ok (.isub, 1) := vl_at vq_cX0_leave_0 (i := 34) rfl
theorem dX0_leave_57 : decode cX0_leave 57 = .ok (.putfield 15, 3) := vl_at vq_cX0_leave_0 (i := 35) rfl
theorem dX0_leave_60 : decode cX0_leave 60 = .ok (.iload_n 2, 1) := vl_at vq_cX0_leave_0 (i := 36) rfl
theorem dX0_leave_61 : decode cX0_leave 61 = .ok (.ireturn, 1) := vl_at vq_cX0_leave_0 (i := 37) rfl
noncomputable def vl_cX0_empty_0 : List (Nat × Instr × Nat) := [(0, .aload_n 0, 1), (1, .iconst 0, 1), (2, .putfield 15, 3), (5, .return_, 1)]
theorem vq_cX0_empty_0 : vl_ok cX0_empty vl_cX0_empty_0 = true := by decide +kernel
theorem dX0_empty_0 : decode cX0_empty 0 = .ok (.aload_n 0, 1) := vl_at vq_cX0_empty_0 (i := 0) rfl
theorem dX0_empty_1 : decode cX0_empty 1 = .ok (.iconst 0, 1) := vl_at vq_cX0_empty_0 (i := 1) rfl
theorem dX0_empty_2 : decode cX0_empty 2 = .ok (.putfield 15, 3) := vl_at vq_cX0_empty_0 (i := 2) rfl
theorem dX0_empty_5 : decode cX0_empty 5 = .ok (.return_, 1) := vl_at vq_cX0_empty_0 (i := 3) rfl
noncomputable def vl_cX0_copyFrom_0 : List (Nat × Instr × Nat) := [(0, .aload_n 0, 1), (1, .invokevirtual 34, 3), (4, .iconst 0, 1), (5, .istore_n 2, 1), (6, .iload_n 2, 1), (7, .aload_n 1, 1), (8, .invokevirtual 37, 3), (11, .if_icmp .ge 18, 3), (14, .aload_n 0, 1), (15, .aload_n 1, 1), (16, .iload_n 2, 1), (17, .invokevirtual 19, 3), (20, .invokevirtual 41, 3), (23, .iinc 2 1, 3), (26, .goto (-20), 3), (29, .return_, 1)]
theorem vq_cX0_copyFrom_0 : vl_ok cX0_copyFrom vl_cX0_copyFrom_0 = true := by decide +kernel
theorem dX0_copyFrom_0 : decode cX0_copyFrom 0 = .ok (.aload_n 0, 1) := vl_at vq_cX0_copyFrom_0 (i := 0) rfl
theorem dX0_copyFrom_1 : decode cX0_copyFrom 1 = .ok (.invokevirtual 34, 3) := vl_at vq_cX0_copyFrom_0 (i := 1) rfl
theorem dX0_copyFrom_4 : decode cX0_copyFrom 4 = .ok (.iconst 0, 1) := vl_at vq_cX0_copyFrom_0 (i := 2) rfl
theorem dX0_copyFrom_5 : decode cX0_copyFrom 5 = .ok (.istore_n 2, 1) := vl_at vq_cX0_copyFrom_0 (i := 3) rfl
theorem dX0_copyFrom_6 : decode cX0_copyFrom 6 = .ok (.iload_n 2, 1) := vl_at vq_cX0_copyFrom_0 (i := 4) rfl
theorem dX0_copyFrom_7 : decode cX0_copyFrom 7 = .ok (.aload_n 1, 1) := vl_at vq_cX0_copyFrom_0 (i := 5) rfl
theorem dX0_copyFrom_8 : decode cX0_copyFrom 8 = .ok (.invokevirtual 37, 3) := vl_at vq_cX0_copyFrom_0 (i := 6) rfl
theorem dX0_copyFrom_11 : decode cX0_copyFrom 11 = .ok (.if_icmp .ge 18, 3) := vl_at vq_cX0_copyFrom_0 (i := 7) rfl
theorem dX0_copyFrom_14 : decode cX0_copyFrom 14 = .ok (.aload_n 0, 1) := vl_at vq_cX0_copyFrom_0 (i := 8) rfl
theorem dX0_copyFrom_15 : decode cX0_copyFrom 15 = .ok (.aload_n 1, 1) := vl_at vq_cX0_copyFrom_0 (i := 9) rfl
theorem dX0_copyFrom_16 : decode cX0_copyFrom 16 = .ok (.iload_n 2, 1) := vl_at vq_cX0_copyFrom_0 (i := 10) rfl
theorem dX0_copyFrom_17 : decode cX0_copyFrom 17 = .ok (.invokevirtual 19, 3) := vl_at vq_cX0_copyFrom_0 (i := 11) rfl
theorem dX0_copyFrom_20 : decode cX0_copyFrom 20 = .ok (.invokevirtual 41, 3) := vl_at vq_cX0_copyFrom_0 (i := 12) rfl
theorem dX0_copyFrom_23 : decode cX0_copyFrom 23 = .ok (.iinc 2 1, 3) := vl_at vq_cX0_copyFrom_0 (i := 13) rfl
theorem dX0_copyFrom_26 : decode cX0_copyFrom 26 = .ok (.goto (-20), 3) := vl_at vq_cX0_copyFrom_0 (i := 14) rfl
theorem dX0_copyFrom_29 : decode cX0_copyFrom 29 = .ok (.return_, 1) := vl_at vq_cX0_copyFrom_0 (i := 15) rfl
noncomputable def vl_cX0_endPlace_0 : List (Nat × Instr × Nat) := [(0, .iload_n 1, 1), (1, .ifCond .ne 10, 3), (4, .aload_n 0, 1), (5, .getfield 15, 3), (8, .ifCond .ne 12, 3), (11, .aload_n 0, 1), (12, .getfield 15, 3), (15, .iconst 1, 1), (16, .isub, 1), (17, .goto 4, 3), (20, .iconst 0, 1), (21, .ireturn, 1)]
theorem vq_cX0_endPlace_0 : vl_ok cX0_endPlace vl_cX0_endPlace_0 = true := by decide +kernel
theorem dX0_endPlace_0 : decode cX0_endPlace 0 = .ok (.iload_n 1, 1) := vl_at vq_cX0_endPlace_0 (i := 0) rfl
theorem dX0_endPlace_1 : decode cX0_endPlace 1 = .ok (.ifCond .ne 10, 3) := vl_at vq_cX0_endPlace_0 (i := 1) rfl
theorem dX0_endPlace_4 : decode cX0_endPlace 4 = .ok (.aload_n 0, 1) := vl_at vq_cX0_endPlace_0 (i := 2) rfl
theorem dX0_endPlace_5 : decode cX0_endPlace 5 = .ok (.getfield 15, 3) := vl_at vq_cX0_endPlace_0 (i := 3) rfl
theorem dX0_endPlace_8 : decode cX0_endPlace 8 = .ok (.ifCond .ne 12, 3) := vl_at vq_cX0_endPlace_0 (i := 4) rfl
theorem dX0_endPlace_11 : decode cX0_endPlace 11 = .ok (.aload_n 0, 1) := vl_at vq_cX0_endPlace_0 (i := 5) rfl
theorem dX0_endPlace_12 : decode cX0_endPlace 12 = .ok (.getfield 15, 3) := vl_at vq_cX0_endPlace_0 (i := 6) rfl
theorem dX0_endPlace_15 : decode cX0_endPlace 15 = .ok (.iconst 1, 1) := vl_at vq_cX0_endPlace_0 (i := 7) rfl
theorem dX0_endPlace_16 : decode cX0_endPlace 16 = .ok (.isub, 1) := vl_at vq_cX0_endPlace_0 (i := 8) rfl
theorem dX0_endPlace_17 : decode cX0_endPlace 17 = .ok (.goto 4, 3) := vl_at vq_cX0_endPlace_0 (i := 9) rfl
theorem dX0_endPlace_20 : decode cX0_endPlace 20 = .ok (.iconst 0, 1) := vl_at vq_cX0_endPlace_0 (i := 10) rfl
theorem dX0_endPlace_21 : decode cX0_endPlace 21 = .ok (.ireturn, 1) := vl_at vq_cX0_endPlace_0 (i := 11) rfl
noncomputable def vl_cX0_placeOf_0 : List (Nat × Instr × Nat) := [(0, .iconst (-1), 1), (1, .istore_n 3, 1), (2, .iconst 0, 1), (3, .istore 4, 2), (5, .iload 4, 2), (7, .aload_n 0, 1), (8, .getfield 15, 3), (11, .if_icmp .ge 31, 3), (14, .aload_n 0, 1), (15, .iload 4, 2), (17, .invokevirtual 19, 3), (20, .iload_n 1, 1), (21, .if_icmp .ne 15, 3), (24, .iload_n 2, 1), (25, .ifCond .ne 8, 3), (28, .iload_n 3, 1), (29, .iconst (-1), 1), (30, .if_icmp .ne 6, 3), (33, .iload 4, 2), (35, .istore_n 3, 1), (36, .iinc 4 1, 3), (39, .goto (-34), 3), (42, .iload_n 3, 1), (43, .ireturn, 1)]
theorem vq_cX0_placeOf_0 : vl_ok cX0_placeOf vl_cX0_placeOf_0 = true := by decide +kernel
theorem dX0_placeOf_0 : decode cX0_placeOf 0 = .ok (.iconst (-1), 1) := vl_at vq_cX0_placeOf_0 (i := 0) rfl
theorem dX0_placeOf_1 : decode cX0_placeOf 1 = .ok (.istore_n 3, 1) := vl_at vq_cX0_placeOf_0 (i := 1) rfl
theorem dX0_placeOf_2 : decode cX0_placeOf 2 = .ok (.iconst 0, 1) := vl_at vq_cX0_placeOf_0 (i := 2) rfl
theorem dX0_placeOf_3 : decode cX0_placeOf 3 = .ok (.istore 4, 2) := vl_at vq_cX0_placeOf_0 (i := 3) rfl
theorem dX0_placeOf_5 : decode cX0_placeOf 5 = .ok (.iload 4, 2) := vl_at vq_cX0_placeOf_0 (i := 4) rfl
theorem dX0_placeOf_7 : decode cX0_placeOf 7 = .ok (.aload_n 0, 1) := vl_at vq_cX0_placeOf_0 (i := 5) rfl
theorem dX0_placeOf_8 : decode cX0_placeOf 8 = .ok (.getfield 15, 3) := vl_at vq_cX0_placeOf_0 (i := 6) rfl
theorem dX0_placeOf_11 : decode cX0_placeOf 11 = .ok (.if_icmp .ge 31, 3) := vl_at vq_cX0_placeOf_0 (i := 7) rfl
theorem dX0_placeOf_14 : decode cX0_placeOf 14 = .ok (.aload_n 0, 1) := vl_at vq_cX0_placeOf_0 (i := 8) rfl
theorem dX0_placeOf_15 : decode cX0_placeOf 15 = .ok (.iload 4, 2) := vl_at vq_cX0_placeOf_0 (i := 9) rfl
theorem dX0_placeOf_17 : decode cX0_placeOf 17 = .ok (.invokevirtual 19, 3) := vl_at vq_cX0_placeOf_0 (i := 10) rfl
theorem dX0_placeOf_20 : decode cX0_placeOf 20 = .ok (.iload_n 1, 1) := vl_at vq_cX0_placeOf_0 (i := 11) rfl
theorem dX0_placeOf_21 : decode cX0_placeOf 21 = .ok (.if_icmp .ne 15, 3) := vl_at vq_cX0_placeOf_0 (i := 12) rfl
theorem dX0_placeOf_24 : decode cX0_placeOf 24 = .ok (.iload_n 2, 1) := vl_at vq_cX0_placeOf_0 (i := 13) rfl
theorem dX0_placeOf_25 : decode cX0_placeOf 25 = .ok (.ifCond .ne 8, 3) := vl_at vq_cX0_placeOf_0 (i := 14) rfl
theorem dX0_placeOf_28 : decode cX0_placeOf 28 = .ok (.iload_n 3, 1) := vl_at vq_cX0_placeOf_0 (i := 15) rfl
theorem dX0_placeOf_29 : decode cX0_placeOf 29 = .ok (.iconst (-1), 1) := vl_at vq_cX0_placeOf_0 (i := 16) rfl
theorem dX0_placeOf_30 : decode cX0_placeOf 30 = .ok (.if_icmp .ne 6, 3) := vl_at vq_cX0_placeOf_0 (i := 17) rfl
theorem dX0_placeOf_33 : decode cX0_placeOf 33 = .ok (.iload 4, 2) := vl_at vq_cX0_placeOf_0 (i := 18) rfl
theorem dX0_placeOf_35 : decode cX0_placeOf 35 = .ok (.istore_n 3, 1) := vl_at vq_cX0_placeOf_0 (i := 19) rfl
theorem dX0_placeOf_36 : decode cX0_placeOf 36 = .ok (.iinc 4 1, 3) := vl_at vq_cX0_placeOf_0 (i := 20) rfl
theorem dX0_placeOf_39 : decode cX0_placeOf 39 = .ok (.goto (-34), 3) := vl_at vq_cX0_placeOf_0 (i := 21) rfl
theorem dX0_placeOf_42 : decode cX0_placeOf 42 = .ok (.iload_n 3, 1) := vl_at vq_cX0_placeOf_0 (i := 22) rfl
theorem dX0_placeOf_43 : decode cX0_placeOf 43 = .ok (.ireturn, 1) := vl_at vq_cX0_placeOf_0 (i := 23) rfl
noncomputable def vl_cX0_placeOfKind_0 : List (Nat × Instr × Nat) := [(0, .iconst (-1), 1), (1, .istore_n 3, 1), (2, .iconst 0, 1), (3, .istore 4, 2), (5, .iload 4, 2), (7, .aload_n 0, 1), (8, .getfield 15, 3), (11, .if_icmp .ge 34, 3), (14, .aload_n 0, 1), (15, .iload 4, 2), (17, .invokevirtual 19, 3), (20, .invokestatic 45, 3), (23, .iload_n 1, 1), (24, .if_icmp .ne 15, 3), (27, .iload_n 2, 1), (28, .ifCond .ne 8, 3), (31, .iload_n 3, 1), (32, .iconst (-1), 1), (33, .if_icmp .ne 6, 3), (36, .iload 4, 2), (38, .istore_n 3, 1), (39, .iinc 4 1, 3), (42, .goto (-37), 3), (45, .iload_n 3, 1), (46, .ireturn, 1)]
theorem vq_cX0_placeOfKind_0 : vl_ok cX0_placeOfKind vl_cX0_placeOfKind_0 = true := by decide +kernel
theorem dX0_placeOfKind_0 : decode cX0_placeOfKind 0 = .ok (.iconst (-1), 1) := vl_at vq_cX0_placeOfKind_0 (i := 0) rfl
theorem dX0_placeOfKind_1 : decode cX0_placeOfKind 1 = .ok (.istore_n 3, 1) := vl_at vq_cX0_placeOfKind_0 (i := 1) rfl
theorem dX0_placeOfKind_2 : decode cX0_placeOfKind 2 = .ok (.iconst 0, 1) := vl_at vq_cX0_placeOfKind_0 (i := 2) rfl
theorem dX0_placeOfKind_3 : decode cX0_placeOfKind 3 = .ok (.istore 4, 2) := vl_at vq_cX0_placeOfKind_0 (i := 3) rfl
theorem dX0_placeOfKind_5 : decode cX0_placeOfKind 5 = .ok (.iload 4, 2) := vl_at vq_cX0_placeOfKind_0 (i := 4) rfl
theorem dX0_placeOfKind_7 : decode cX0_placeOfKind 7 = .ok (.aload_n 0, 1) := vl_at vq_cX0_placeOfKind_0 (i := 5) rfl
theorem dX0_placeOfKind_8 : decode cX0_placeOfKind 8 = .ok (.getfield 15, 3) := vl_at vq_cX0_placeOfKind_0 (i := 6) rfl
theorem dX0_placeOfKind_11 : decode cX0_placeOfKind 11 = .ok (.if_icmp .ge 34, 3) := vl_at vq_cX0_placeOfKind_0 (i := 7) rfl
theorem dX0_placeOfKind_14 : decode cX0_placeOfKind 14 = .ok (.aload_n 0, 1) := vl_at vq_cX0_placeOfKind_0 (i := 8) rfl
theorem dX0_placeOfKind_15 : decode cX0_placeOfKind 15 = .ok (.iload 4, 2) := vl_at vq_cX0_placeOfKind_0 (i := 9) rfl
theorem dX0_placeOfKind_17 : decode cX0_placeOfKind 17 = .ok (.invokevirtual 19, 3) := vl_at vq_cX0_placeOfKind_0 (i := 10) rfl
theorem dX0_placeOfKind_20 : decode cX0_placeOfKind 20 = .ok (.invokestatic 45, 3) := vl_at vq_cX0_placeOfKind_0 (i := 11) rfl
theorem dX0_placeOfKind_23 : decode cX0_placeOfKind 23 = .ok (.iload_n 1, 1) := vl_at vq_cX0_placeOfKind_0 (i := 12) rfl
theorem dX0_placeOfKind_24 : decode cX0_placeOfKind 24 = .ok (.if_icmp .ne 15, 3) := vl_at vq_cX0_placeOfKind_0 (i := 13) rfl
theorem dX0_placeOfKind_27 : decode cX0_placeOfKind 27 = .ok (.iload_n 2, 1) := vl_at vq_cX0_placeOfKind_0 (i := 14) rfl
theorem dX0_placeOfKind_28 : decode cX0_placeOfKind 28 = .ok (.ifCond .ne 8, 3) := vl_at vq_cX0_placeOfKind_0 (i := 15) rfl
theorem dX0_placeOfKind_31 : decode cX0_placeOfKind 31 = .ok (.iload_n 3, 1) := vl_at vq_cX0_placeOfKind_0 (i := 16) rfl
theorem dX0_placeOfKind_32 : decode cX0_placeOfKind 32 = .ok (.iconst (-1), 1) := vl_at vq_cX0_placeOfKind_0 (i := 17) rfl
theorem dX0_placeOfKind_33 : decode cX0_placeOfKind 33 = .ok (.if_icmp .ne 6, 3) := vl_at vq_cX0_placeOfKind_0 (i := 18) rfl
theorem dX0_placeOfKind_36 : decode cX0_placeOfKind 36 = .ok (.iload 4, 2) := vl_at vq_cX0_placeOfKind_0 (i := 19) rfl
theorem dX0_placeOfKind_38 : decode cX0_placeOfKind 38 = .ok (.istore_n 3, 1) := vl_at vq_cX0_placeOfKind_0 (i := 20) rfl
theorem dX0_placeOfKind_39 : decode cX0_placeOfKind 39 = .ok (.iinc 4 1, 3) := vl_at vq_cX0_placeOfKind_0 (i := 21) rfl
theorem dX0_placeOfKind_42 : decode cX0_placeOfKind 42 = .ok (.goto (-37), 3) := vl_at vq_cX0_placeOfKind_0 (i := 22) rfl
theorem dX0_placeOfKind_45 : decode cX0_placeOfKind 45 = .ok (.iload_n 3, 1) := vl_at vq_cX0_placeOfKind_0 (i := 23) rfl
theorem dX0_placeOfKind_46 : decode cX0_placeOfKind 46 = .ok (.ireturn, 1) := vl_at vq_cX0_placeOfKind_0 (i := 24) rfl
noncomputable def vl_cX1_init_0 : List (Nat × Instr × Nat) := [(0, .aload_n 0, 1), (1, .invokespecial 3, 3), (4, .aload_n 0, 1), (5, .iconst 0, 1), (6, .putfield 9, 3), (9, .aload_n 0, 1), (10, .iconst 0, 1), (11, .putfield 15, 3), (14, .aload_n 0, 1), (15, .iconst 0, 1), (16, .putfield 18, 3), (19, .aload_n 0, 1), (20, .iconst (-1), 1), (21, .putfield 22, 3), (24, .return_, 1)]
theorem vq_cX1_init_0 : vl_ok cX1_init vl_cX1_init_0 = true := by decide +kernel
theorem dX1_init_0 : decode cX1_init 0 = .ok (.aload_n 0, 1) := vl_at vq_cX1_init_0 (i := 0) rfl
theorem dX1_init_1 : decode cX1_init 1 = .ok (.invokespecial 3, 3) := vl_at vq_cX1_init_0 (i := 1) rfl
theorem dX1_init_4 : decode cX1_init 4 = .ok (.aload_n 0, 1) := vl_at vq_cX1_init_0 (i := 2) rfl
theorem dX1_init_5 : decode cX1_init 5 = .ok (.iconst 0, 1) := vl_at vq_cX1_init_0 (i := 3) rfl
theorem dX1_init_6 : decode cX1_init 6 = .ok (.putfield 9, 3) := vl_at vq_cX1_init_0 (i := 4) rfl
theorem dX1_init_9 : decode cX1_init 9 = .ok (.aload_n 0, 1) := vl_at vq_cX1_init_0 (i := 5) rfl
theorem dX1_init_10 : decode cX1_init 10 = .ok (.iconst 0, 1) := vl_at vq_cX1_init_0 (i := 6) rfl
theorem dX1_init_11 : decode cX1_init 11 = .ok (.putfield 15, 3) := vl_at vq_cX1_init_0 (i := 7) rfl
theorem dX1_init_14 : decode cX1_init 14 = .ok (.aload_n 0, 1) := vl_at vq_cX1_init_0 (i := 8) rfl
theorem dX1_init_15 : decode cX1_init 15 = .ok (.iconst 0, 1) := vl_at vq_cX1_init_0 (i := 9) rfl
theorem dX1_init_16 : decode cX1_init 16 = .ok (.putfield 18, 3) := vl_at vq_cX1_init_0 (i := 10) rfl
theorem dX1_init_19 : decode cX1_init 19 = .ok (.aload_n 0, 1) := vl_at vq_cX1_init_0 (i := 11) rfl
theorem dX1_init_20 : decode cX1_init 20 = .ok (.iconst (-1), 1) := vl_at vq_cX1_init_0 (i := 12) rfl
theorem dX1_init_21 : decode cX1_init 21 = .ok (.putfield 22, 3) := vl_at vq_cX1_init_0 (i := 13) rfl
theorem dX1_init_24 : decode cX1_init 24 = .ok (.return_, 1) := vl_at vq_cX1_init_0 (i := 14) rfl
noncomputable def vl_cX1_begin_0 : List (Nat × Instr × Nat) := [(0, .aload_n 0, 1), (1, .iconst 1, 1), (2, .putfield 9, 3), (5, .aload_n 0, 1), (6, .iload_n 1, 1), (7, .putfield 15, 3), (10, .aload_n 0, 1), (11, .iload_n 1, 1), (12, .ifCond .eq 9, 3), (15, .iload_n 2, 1), (16, .iconst 1, 1), (17, .isub, 1), (18, .goto 4, 3), (21, .iconst 0, 1), (22, .putfield 18, 3), (25, .aload_n 0, 1), (26, .iconst (-1), 1), (27, .putfield 22, 3), (30, .return_, 1)]
theorem vq_cX1_begin_0 : vl_ok cX1_begin vl_cX1_begin_0 = true := by decide +kernel
theorem dX1_begin_0 : decode cX1_begin 0 = .ok (.aload_n 0, 1) := vl_at vq_cX1_begin_0 (i := 0) rfl
theorem dX1_begin_1 : decode cX1_begin 1 = .ok (.iconst 1, 1) := vl_at vq_cX1_begin_0 (i := 1) rfl
theorem dX1_begin_2 : decode cX1_begin 2 = .ok (.putfield 9, 3) := vl_at vq_cX1_begin_0 (i := 2) rfl
theorem dX1_begin_5 : decode cX1_begin 5 = .ok (.aload_n 0, 1) := vl_at vq_cX1_begin_0 (i := 3) rfl
theorem dX1_begin_6 : decode cX1_begin 6 = .ok (.iload_n 1, 1) := vl_at vq_cX1_begin_0 (i := 4) rfl
theorem dX1_begin_7 : decode cX1_begin 7 = .ok (.putfield 15, 3) := vl_at vq_cX1_begin_0 (i := 5) rfl
theorem dX1_begin_10 : decode cX1_begin 10 = .ok (.aload_n 0, 1) := vl_at vq_cX1_begin_0 (i := 6) rfl
theorem dX1_begin_11 : decode cX1_begin 11 = .ok (.iload_n 1, 1) := vl_at vq_cX1_begin_0 (i := 7) rfl
theorem dX1_begin_12 : decode cX1_begin 12 = .ok (.ifCond .eq 9, 3) := vl_at vq_cX1_begin_0 (i := 8) rfl
theorem dX1_begin_15 : decode cX1_begin 15 = .ok (.iload_n 2, 1) := vl_at vq_cX1_begin_0 (i := 9) rfl
theorem dX1_begin_16 : decode cX1_begin 16 = .ok (.iconst 1, 1) := vl_at vq_cX1_begin_0 (i := 10) rfl
theorem dX1_begin_17 : decode cX1_begin 17 = .ok (.isub, 1) := vl_at vq_cX1_begin_0 (i := 11) rfl
theorem dX1_begin_18 : decode cX1_begin 18 = .ok (.goto 4, 3) := vl_at vq_cX1_begin_0 (i := 12) rfl
theorem dX1_begin_21 : decode cX1_begin 21 = .ok (.iconst 0, 1) := vl_at vq_cX1_begin_0 (i := 13) rfl
theorem dX1_begin_22 : decode cX1_begin 22 = .ok (.putfield 18, 3) := vl_at vq_cX1_begin_0 (i := 14) rfl
theorem dX1_begin_25 : decode cX1_begin 25 = .ok (.aload_n 0, 1) := vl_at vq_cX1_begin_0 (i := 15) rfl
theorem dX1_begin_26 : decode cX1_begin 26 = .ok (.iconst (-1), 1) := vl_at vq_cX1_begin_0 (i := 16) rfl
theorem dX1_begin_27 : decode cX1_begin 27 = .ok (.putfield 22, 3) := vl_at vq_cX1_begin_0 (i := 17) rfl
theorem dX1_begin_30 : decode cX1_begin 30 = .ok (.return_, 1) := vl_at vq_cX1_begin_0 (i := 18) rfl
noncomputable def vl_cX1_end_0 : List (Nat × Instr × Nat) := [(0, .aload_n 0, 1), (1, .iconst 0, 1), (2, .putfield 9, 3), (5, .aload_n 0, 1), (6, .iconst (-1), 1), (7, .putfield 22, 3), (10, .return_, 1)]
theorem vq_cX1_end_0 : vl_ok cX1_end vl_cX1_end_0 = true := by decide +kernel
theorem dX1_end_0 : decode cX1_end 0 = .ok (.aload_n 0, 1) := vl_at vq_cX1_end_0 (i := 0) rfl
theorem dX1_end_1 : decode cX1_end 1 = .ok (.iconst 0, 1) := vl_at vq_cX1_end_0 (i := 1) rfl
theorem dX1_end_2 : decode cX1_end 2 = .ok (.putfield 9, 3) := vl_at vq_cX1_end_0 (i := 2) rfl
theorem dX1_end_5 : decode cX1_end 5 = .ok (.aload_n 0, 1) := vl_at vq_cX1_end_0 (i := 3) rfl
theorem dX1_end_6 : decode cX1_end 6 = .ok (.iconst (-1), 1) := vl_at vq_cX1_end_0 (i := 4) rfl
theorem dX1_end_7 : decode cX1_end 7 = .ok (.putfield 22, 3) := vl_at vq_cX1_end_0 (i := 5) rfl
theorem dX1_end_10 : decode cX1_end 10 = .ok (.return_, 1) := vl_at vq_cX1_end_0 (i := 6) rfl
noncomputable def vl_cX1_hasNext_0 : List (Nat × Instr × Nat) := [(0, .aload_n 0, 1), (1, .getfield 9, 3), (4, .ifCond .eq 22, 3), (7, .aload_n 0, 1), (8, .getfield 18, 3), (11, .ifCond .lt 15, 3), (14, .aload_n 0, 1), (15, .getfield 18, 3), (18, .iload_n 1, 1), (19, .if_icmp .ge 7, 3), (22, .iconst 1, 1), (23, .goto 4, 3), (26, .iconst 0, 1), (27, .ireturn, 1)]
theorem vq_cX1_hasNext_0 : vl_ok cX1_hasNext vl_cX1_hasNext_0 = true := by decide +kernel
theorem dX1_hasNext_0 : decode cX1_hasNext 0 = .ok (.aload_n 0, 1) := vl_at vq_cX1_hasNext_0 (i := 0) rfl
theorem dX1_hasNext_1 : decode cX1_hasNext 1 = .ok (.getfield 9, 3) := vl_at vq_cX1_hasNext_0 (i := 1) rfl
theorem dX1_hasNext_4 : decode cX1_hasNext 4 = .ok (.ifCond .eq 22, 3) := vl_at vq_cX1_hasNext_0 (i := 2) rfl
theorem dX1_hasNext_7 : decode cX1_hasNext 7 = .ok (.aload_n 0, 1) := vl_at vq_cX1_hasNext_0 (i := 3) rfl
theorem dX1_hasNext_8 : decode cX1_hasNext 8 = .ok (.getfield 18, 3) := vl_at vq_cX1_hasNext_0 (i := 4) rfl
theorem dX1_hasNext_11 : decode cX1_hasNext 11 = .ok (.ifCond .lt 15, 3) := vl_at vq_cX1_hasNext_0 (i := 5) rfl
theorem dX1_hasNext_14 : decode cX1_hasNext 14 = .ok (.aload_n 0, 1) := vl_at vq_cX1_hasNext_0 (i := 6) rfl
theorem dX1_hasNext_15 : decode cX1_hasNext 15 = .ok (.getfield 18, 3) := vl_at vq_cX1_hasNext_0 (i := 7) rfl
theorem dX1_hasNext_18 : decode cX1_hasNext 18 = .ok (.iload_n 1, 1) := vl_at vq_cX1_hasNext_0 (i := 8) rfl
theorem dX1_hasNext_19 : decode cX1_hasNext 19 = .ok (.if_icmp .ge 7, 3) := vl_at vq_cX1_hasNext_0 (i := 9) rfl
theorem dX1_hasNext_22 : decode cX1_hasNext 22 = .ok (.iconst 1, 1) := vl_at vq_cX1_hasNext_0 (i := 10) rfl
theorem dX1_hasNext_23 : decode cX1_hasNext 23 = .ok (.goto 4, 3) := vl_at vq_cX1_hasNext_0 (i := 11) rfl
theorem dX1_hasNext_26 : decode cX1_hasNext 26 = .ok (.iconst 0, 1) := vl_at vq_cX1_hasNext_0 (i := 12) rfl
theorem dX1_hasNext_27 : decode cX1_hasNext 27 = .ok (.ireturn, 1) := vl_at vq_cX1_hasNext_0 (i := 13) rfl
noncomputable def vl_cX1_goOn_0 : List (Nat × Instr × Nat) := [(0, .aload_n 0, 1), (1, .aload_n 0, 1), (2, .getfield 18, 3), (5, .putfield 22, 3), (8, .aload_n 0, 1), (9, .dup, 1), (10, .getfield 18, 3), (13, .aload_n 0, 1), (14, .getfield 15, 3), (17, .ifCond .eq 7, 3), (20, .iconst (-1), 1), (21, .goto 4, 3), (24, .iconst 1, 1), (25, .iadd, 1), (26, .putfield 18, 3), (29, .return_, 1)]
theorem vq_cX1_goOn_0 : vl_ok cX1_goOn vl_cX1_goOn_0 = true := by decide +kernel
theorem dX1_goOn_0 : decode cX1_goOn 0 = .ok (.aload_n 0, 1) := vl_at vq_cX1_goOn_0 (i := 0) rfl
theorem dX1_goOn_1 : decode cX1_goOn 1 = .ok (.aload_n 0, 1) := vl_at vq_cX1_goOn_0 (i := 1) rfl
theorem dX1_goOn_2 : decode cX1_goOn 2 = .ok (.getfield 18, 3) := vl_at vq_cX1_goOn_0 (i := 2) rfl
theorem dX1_goOn_5 : decode cX1_goOn 5 = .ok (.putfield 22, 3) := vl_at vq_cX1_goOn_0 (i := 3) rfl
theorem dX1_goOn_8 : decode cX1_goOn 8 = .ok (.aload_n 0, 1) := vl_at vq_cX1_goOn_0 (i := 4) rfl
theorem dX1_goOn_9 : decode cX1_goOn 9 = .ok (.dup, 1) := vl_at vq_cX1_goOn_0 (i := 5) rfl
theorem dX1_goOn_10 : decode cX1_goOn 10 = .ok (.getfield 18, 3) := vl_at vq_cX1_goOn_0 (i := 6) rfl
theorem dX1_goOn_13 : decode cX1_goOn 13 = .ok (.aload_n 0, 1) := vl_at vq_cX1_goOn_0 (i := 7) rfl
theorem dX1_goOn_14 : decode cX1_goOn 14 = .ok (.getfield 15, 3) := vl_at vq_cX1_goOn_0 (i := 8) rfl
theorem dX1_goOn_17 : decode cX1_goOn 17 = .ok (.ifCond .eq 7, 3) := vl_at vq_cX1_goOn_0 (i := 9) rfl
theorem dX1_goOn_20 : decode cX1_goOn 20 = .ok (.iconst (-1), 1) := vl_at vq_cX1_goOn_0 (i := 10) rfl
theorem dX1_goOn_21 : decode cX1_goOn 21 = .ok (.goto 4, 3) := vl_at vq_cX1_goOn_0 (i := 11) rfl
theorem dX1_goOn_24 : decode cX1_goOn 24 = .ok (.iconst 1, 1) := vl_at vq_cX1_goOn_0 (i := 12) rfl
theorem dX1_goOn_25 : decode cX1_goOn 25 = .ok (.iadd, 1) := vl_at vq_cX1_goOn_0 (i := 13) rfl
theorem dX1_goOn_26 : decode cX1_goOn 26 = .ok (.putfield 18, 3) := vl_at vq_cX1_goOn_0 (i := 14) rfl
theorem dX1_goOn_29 : decode cX1_goOn 29 = .ok (.return_, 1) := vl_at vq_cX1_goOn_0 (i := 15) rfl
noncomputable def vl_cX1_letGo_0 : List (Nat × Instr × Nat) := [(0, .aload_n 0, 1), (1, .getfield 15, 3), (4, .ifCond .ne 11, 3), (7, .aload_n 0, 1), (8, .aload_n 0, 1), (9, .getfield 22, 3), (12, .putfield 18, 3), (15, .aload_n 0, 1), (16, .iconst (-1), 1), (17, .putfield 22, 3), (20, .return_, 1)]
theorem vq_cX1_letGo_0 : vl_ok cX1_letGo vl_cX1_letGo_0 = true := by decide +kernel
theorem dX1_letGo_0 : decode cX1_letGo 0 = .ok (.aload_n 0, 1) := vl_at vq_cX1_letGo_0 (i := 0) rfl
theorem dX1_letGo_1 : decode cX1_letGo 1 = .ok (.getfield 15, 3) := vl_at vq_cX1_letGo_0 (i := 1) rfl
theorem dX1_letGo_4 : decode cX1_letGo 4 = .ok (.ifCond .ne 11, 3) := vl_at vq_cX1_letGo_0 (i := 2) rfl
theorem dX1_letGo_7 : decode cX1_letGo 7 = .ok (.aload_n 0, 1) := vl_at vq_cX1_letGo_0 (i := 3) rfl
theorem dX1_letGo_8 : decode cX1_letGo 8 = .ok (.aload_n 0, 1) := vl_at vq_cX1_letGo_0 (i := 4) rfl
theorem dX1_letGo_9 : decode cX1_letGo 9 = .ok (.getfield 22, 3) := vl_at vq_cX1_letGo_0 (i := 5) rfl
theorem dX1_letGo_12 : decode cX1_letGo 12 = .ok (.putfield 18, 3) := vl_at vq_cX1_letGo_0 (i := 6) rfl
theorem dX1_letGo_15 : decode cX1_letGo 15 = .ok (.aload_n 0, 1) := vl_at vq_cX1_letGo_0 (i := 7) rfl
theorem dX1_letGo_16 : decode cX1_letGo 16 = .ok (.iconst (-1), 1) := vl_at vq_cX1_letGo_0 (i := 8) rfl
theorem dX1_letGo_17 : decode cX1_letGo 17 = .ok (.putfield 22, 3) := vl_at vq_cX1_letGo_0 (i := 9) rfl
theorem dX1_letGo_20 : decode cX1_letGo 20 = .ok (.return_, 1) := vl_at vq_cX1_letGo_0 (i := 10) rfl
noncomputable def vl_cX2_init_0 : List (Nat × Instr × Nat) := [(0, .aload_n 0, 1), (1, .invokespecial 3, 3), (4, .aload_n 0, 1), (5, .iconst 0, 1), (6, .putfield 9, 3), (9, .aload_n 0, 1), (10, .iconst 0, 1), (11, .putfield 15, 3), (14, .aload_n 0, 1), (15, .iconst (-1), 1), (16, .putfield 18, 3), (19, .return_, 1)]
theorem vq_cX2_init_0 : vl_ok cX2_init vl_cX2_init_0 = true := by decide +kernel
theorem dX2_init_0 : decode cX2_init 0 = .ok (.aload_n 0, 1) := vl_at vq_cX2_init_0 (i := 0) rfl
theorem dX2_init_1 : decode cX2_init 1 = .ok (.invokespecial 3, 3) := vl_at vq_cX2_init_0 (i := 1) rfl
theorem dX2_init_4 : decode cX2_init 4 = .ok (.aload_n 0, 1) := vl_at vq_cX2_init_0 (i := 2) rfl
theorem dX2_init_5 : decode cX2_init 5 = .ok (.iconst 0, 1) := vl_at vq_cX2_init_0 (i := 3) rfl
theorem dX2_init_6 : decode cX2_init 6 = .ok (.putfield 9, 3) := vl_at vq_cX2_init_0 (i := 4) rfl
theorem dX2_init_9 : decode cX2_init 9 = .ok (.aload_n 0, 1) := vl_at vq_cX2_init_0 (i := 5) rfl
theorem dX2_init_10 : decode cX2_init 10 = .ok (.iconst 0, 1) := vl_at vq_cX2_init_0 (i := 6) rfl
theorem dX2_init_11 : decode cX2_init 11 = .ok (.putfield 15, 3) := vl_at vq_cX2_init_0 (i := 7) rfl
theorem dX2_init_14 : decode cX2_init 14 = .ok (.aload_n 0, 1) := vl_at vq_cX2_init_0 (i := 8) rfl
theorem dX2_init_15 : decode cX2_init 15 = .ok (.iconst (-1), 1) := vl_at vq_cX2_init_0 (i := 9) rfl
theorem dX2_init_16 : decode cX2_init 16 = .ok (.putfield 18, 3) := vl_at vq_cX2_init_0 (i := 10) rfl
theorem dX2_init_19 : decode cX2_init 19 = .ok (.return_, 1) := vl_at vq_cX2_init_0 (i := 11) rfl
noncomputable def vl_cX2_standAt_0 : List (Nat × Instr × Nat) := [(0, .aload_n 0, 1), (1, .iconst 1, 1), (2, .putfield 9, 3), (5, .aload_n 0, 1), (6, .iload_n 1, 1), (7, .putfield 15, 3), (10, .aload_n 0, 1), (11, .iconst (-1), 1), (12, .putfield 18, 3), (15, .return_, 1)]
theorem vq_cX2_standAt_0 : vl_ok cX2_standAt vl_cX2_standAt_0 = true := by decide +kernel
theorem dX2_standAt_0 : decode cX2_standAt 0 = .ok (.aload_n 0, 1) := vl_at vq_cX2_standAt_0 (i := 0) rfl
theorem dX2_standAt_1 : decode cX2_standAt 1 = .ok (.iconst 1, 1) := vl_at vq_cX2_standAt_0 (i := 1) rfl
theorem dX2_standAt_2 : decode cX2_standAt 2 = .ok (.putfield 9, 3) := vl_at vq_cX2_standAt_0 (i := 2) rfl
theorem dX2_standAt_5 : decode cX2_standAt 5 = .ok (.aload_n 0, 1) := vl_at vq_cX2_standAt_0 (i := 3) rfl
theorem dX2_standAt_6 : decode cX2_standAt 6 = .ok (.iload_n 1, 1) := vl_at vq_cX2_standAt_0 (i := 4) rfl
theorem dX2_standAt_7 : decode cX2_standAt 7 = .ok (.putfield 15, 3) := vl_at vq_cX2_standAt_0 (i := 5) rfl
theorem dX2_standAt_10 : decode cX2_standAt 10 = .ok (.aload_n 0, 1) := vl_at vq_cX2_standAt_0 (i := 6) rfl
theorem dX2_standAt_11 : decode cX2_standAt 11 = .ok (.iconst (-1), 1) := vl_at vq_cX2_standAt_0 (i := 7) rfl
theorem dX2_standAt_12 : decode cX2_standAt 12 = .ok (.putfield 18, 3) := vl_at vq_cX2_standAt_0 (i := 8) rfl
theorem dX2_standAt_15 : decode cX2_standAt 15 = .ok (.return_, 1) := vl_at vq_cX2_standAt_0 (i := 9) rfl
noncomputable def vl_cX2_growStale_0 : List (Nat × Instr × Nat) := [(0, .aload_n 0, 1), (1, .getfield 9, 3), (4, .ifCond .eq 8, 3), (7, .aload_n 0, 1), (8, .iconst 2, 1), (9, .putfield 9, 3), (12, .return_, 1)]
theorem vq_cX2_growStale_0 : vl_ok cX2_growStale vl_cX2_growStale_0 = true := by decide +kernel
theorem dX2_growStale_0 : decode cX2_growStale 0 = .ok (.aload_n 0, 1) := vl_at vq_cX2_growStale_0 (i := 0) rfl
theorem dX2_growStale_1 : decode cX2_growStale 1 = .ok (.getfield 9, 3) := vl_at vq_cX2_growStale_0 (i := 1) rfl
theorem dX2_growStale_4 : decode cX2_growStale 4 = .ok (.ifCond .eq 8, 3) := vl_at vq_cX2_growStale_0 (i := 2) rfl
theorem dX2_growStale_7 : decode cX2_growStale 7 = .ok (.aload_n 0, 1) := vl_at vq_cX2_growStale_0 (i := 3) rfl
theorem dX2_growStale_8 : decode cX2_growStale 8 = .ok (.iconst 2, 1) := vl_at vq_cX2_growStale_0 (i := 4) rfl
theorem dX2_growStale_9 : decode cX2_growStale 9 = .ok (.putfield 9, 3) := vl_at vq_cX2_growStale_0 (i := 5) rfl
theorem dX2_growStale_12 : decode cX2_growStale 12 = .ok (.return_, 1) := vl_at vq_cX2_growStale_0 (i := 6) rfl
noncomputable def vl_cX2_isFresh_0 : List (Nat × Instr × Nat) := [(0, .aload_n 0, 1), (1, .getfield 9, 3), (4, .iconst 1, 1), (5, .if_icmp .ne 7, 3), (8, .iconst 1, 1), (9, .goto 4, 3), (12, .iconst 0, 1), (13, .ireturn, 1)]
theorem vq_cX2_isFresh_0 : vl_ok cX2_isFresh vl_cX2_isFresh_0 = true := by decide +kernel
theorem dX2_isFresh_0 : decode cX2_isFresh 0 = .ok (.aload_n 0, 1) := vl_at vq_cX2_isFresh_0 (i := 0) rfl
theorem dX2_isFresh_1 : decode cX2_isFresh 1 = .ok (.getfield 9, 3) := vl_at vq_cX2_isFresh_0 (i := 1) rfl
theorem dX2_isFresh_4 : decode cX2_isFresh 4 = .ok (.iconst 1, 1) := vl_at vq_cX2_isFresh_0 (i := 2) rfl
theorem dX2_isFresh_5 : decode cX2_isFresh 5 = .ok (.if_icmp .ne 7, 3) := vl_at vq_cX2_isFresh_0 (i := 3) rfl
theorem dX2_isFresh_8 : decode cX2_isFresh 8 = .ok (.iconst 1, 1) := vl_at vq_cX2_isFresh_0 (i := 4) rfl
theorem dX2_isFresh_9 : decode cX2_isFresh 9 = .ok (.goto 4, 3) := vl_at vq_cX2_isFresh_0 (i := 5) rfl
theorem dX2_isFresh_12 : decode cX2_isFresh 12 = .ok (.iconst 0, 1) := vl_at vq_cX2_isFresh_0 (i := 6) rfl
theorem dX2_isFresh_13 : decode cX2_isFresh 13 = .ok (.ireturn, 1) := vl_at vq_cX2_isFresh_0 (i := 7) rfl
noncomputable def vl_cX2_holds_0 : List (Nat × Instr × Nat) := [(0, .aload_n 0, 1), (1, .invokevirtual 21, 3), (4, .ifCond .eq 15, 3), (7, .aload_n 0, 1), (8, .getfield 18, 3), (11, .iconst (-1), 1), (12, .if_icmp .eq 7, 3), (15, .iconst 1, 1), (16, .goto 4, 3), (19, .iconst 0, 1), (20, .ireturn, 1)]
theorem vq_cX2_holds_0 : vl_ok cX2_holds vl_cX2_holds_0 = true := by decide +kernel
theorem dX2_holds_0 : decode cX2_holds 0 = .ok (.aload_n 0, 1) := vl_at vq_cX2_holds_0 (i := 0) rfl
theorem dX2_holds_1 : decode cX2_holds 1 = .ok (.invokevirtual 21, 3) := vl_at vq_cX2_holds_0 (i := 1) rfl
theorem dX2_holds_4 : decode cX2_holds 4 = .ok (.ifCond .eq 15, 3) := vl_at vq_cX2_holds_0 (i := 2) rfl
theorem dX2_holds_7 : decode cX2_holds 7 = .ok (.aload_n 0, 1) := vl_at vq_cX2_holds_0 (i := 3) rfl
theorem dX2_holds_8 : decode cX2_holds 8 = .ok (.getfield 18, 3) := vl_at vq_cX2_holds_0 (i := 4) rfl
theorem dX2_holds_11 : decode cX2_holds 11 = .ok (.iconst (-1), 1) := vl_at vq_cX2_holds_0 (i := 5) rfl
theorem dX2_holds_12 : decode cX2_holds 12 = .ok (.if_icmp .eq 7, 3) := vl_at vq_cX2_holds_0 (i := 6) rfl
theorem dX2_holds_15 : decode cX2_holds 15 = .ok (.iconst 1, 1) := vl_at vq_cX2_holds_0 (i := 7) rfl
theorem dX2_holds_16 : decode cX2_holds 16 = .ok (.goto 4, 3) := vl_at vq_cX2_holds_0 (i := 8) rfl
theorem dX2_holds_19 : decode cX2_holds 19 = .ok (.iconst 0, 1) := vl_at vq_cX2_holds_0 (i := 9) rfl
theorem dX2_holds_20 : decode cX2_holds 20 = .ok (.ireturn, 1) := vl_at vq_cX2_holds_0 (i := 10) rfl
noncomputable def vl_cX2_goForth_0 : List (Nat × Instr × Nat) := [(0, .aload_n 0, 1), (1, .aload_n 0, 1), (2, .getfield 15, 3), (5, .putfield 18, 3), (8, .aload_n 0, 1), (9, .dup, 1), (10, .getfield 15, 3), (13, .iconst 1, 1), (14, .iadd, 1), (15, .putfield 15, 3), (18, .return_, 1)]
theorem vq_cX2_goForth_0 : vl_ok cX2_goForth vl_cX2_goForth_0 = true := by decide +kernel
theorem dX2_goForth_0 : decode cX2_goForth 0 = .ok (.aload_n 0, 1) := vl_at vq_cX2_goForth_0 (i := 0) rfl
theorem dX2_goForth_1 : decode cX2_goForth 1 = .ok (.aload_n 0, 1) := vl_at vq_cX2_goForth_0 (i := 1) rfl
theorem dX2_goForth_2 : decode cX2_goForth 2 = .ok (.getfield 15, 3) := vl_at vq_cX2_goForth_0 (i := 2) rfl
theorem dX2_goForth_5 : decode cX2_goForth 5 = .ok (.putfield 18, 3) := vl_at vq_cX2_goForth_0 (i := 3) rfl
theorem dX2_goForth_8 : decode cX2_goForth 8 = .ok (.aload_n 0, 1) := vl_at vq_cX2_goForth_0 (i := 4) rfl
theorem dX2_goForth_9 : decode cX2_goForth 9 = .ok (.dup, 1) := vl_at vq_cX2_goForth_0 (i := 5) rfl
theorem dX2_goForth_10 : decode cX2_goForth 10 = .ok (.getfield 15, 3) := vl_at vq_cX2_goForth_0 (i := 6) rfl
theorem dX2_goForth_13 : decode cX2_goForth 13 = .ok (.iconst 1, 1) := vl_at vq_cX2_goForth_0 (i := 7) rfl
theorem dX2_goForth_14 : decode cX2_goForth 14 = .ok (.iadd, 1) := vl_at vq_cX2_goForth_0 (i := 8) rfl
theorem dX2_goForth_15 : decode cX2_goForth 15 = .ok (.putfield 15, 3) := vl_at vq_cX2_goForth_0 (i := 9) rfl
theorem dX2_goForth_18 : decode cX2_goForth 18 = .ok (.return_, 1) := vl_at vq_cX2_goForth_0 (i := 10) rfl
noncomputable def vl_cX2_goBack_0 : List (Nat × Instr × Nat) := [(0, .aload_n 0, 1), (1, .dup, 1), (2, .getfield 15, 3), (5, .iconst 1, 1), (6, .isub, 1), (7, .putfield 15, 3), (10, .aload_n 0, 1), (11, .aload_n 0, 1), (12, .getfield 15, 3), (15, .putfield 18, 3), (18, .return_, 1)]
theorem vq_cX2_goBack_0 : vl_ok cX2_goBack vl_cX2_goBack_0 = true := by decide +kernel
theorem dX2_goBack_0 : decode cX2_goBack 0 = .ok (.aload_n 0, 1) := vl_at vq_cX2_goBack_0 (i := 0) rfl
theorem dX2_goBack_1 : decode cX2_goBack 1 = .ok (.dup, 1) := vl_at vq_cX2_goBack_0 (i := 1) rfl
theorem dX2_goBack_2 : decode cX2_goBack 2 = .ok (.getfield 15, 3) := vl_at vq_cX2_goBack_0 (i := 2) rfl
theorem dX2_goBack_5 : decode cX2_goBack 5 = .ok (.iconst 1, 1) := vl_at vq_cX2_goBack_0 (i := 3) rfl
theorem dX2_goBack_6 : decode cX2_goBack 6 = .ok (.isub, 1) := vl_at vq_cX2_goBack_0 (i := 4) rfl
theorem dX2_goBack_7 : decode cX2_goBack 7 = .ok (.putfield 15, 3) := vl_at vq_cX2_goBack_0 (i := 5) rfl
theorem dX2_goBack_10 : decode cX2_goBack 10 = .ok (.aload_n 0, 1) := vl_at vq_cX2_goBack_0 (i := 6) rfl
theorem dX2_goBack_11 : decode cX2_goBack 11 = .ok (.aload_n 0, 1) := vl_at vq_cX2_goBack_0 (i := 7) rfl
theorem dX2_goBack_12 : decode cX2_goBack 12 = .ok (.getfield 15, 3) := vl_at vq_cX2_goBack_0 (i := 8) rfl
theorem dX2_goBack_15 : decode cX2_goBack 15 = .ok (.putfield 18, 3) := vl_at vq_cX2_goBack_0 (i := 9) rfl
theorem dX2_goBack_18 : decode cX2_goBack 18 = .ok (.return_, 1) := vl_at vq_cX2_goBack_0 (i := 10) rfl
noncomputable def vl_cX2_loseHeld_0 : List (Nat × Instr × Nat) := [(0, .aload_n 0, 1), (1, .getfield 18, 3), (4, .aload_n 0, 1), (5, .getfield 15, 3), (8, .if_icmp .ge 13, 3), (11, .aload_n 0, 1), (12, .dup, 1), (13, .getfield 15, 3), (16, .iconst 1, 1), (17, .isub, 1), (18, .putfield 15, 3), (21, .aload_n 0, 1), (22, .iconst (-1), 1), (23, .putfield 18, 3), (26, .return_, 1)]
theorem vq_cX2_loseHeld_0 : vl_ok cX2_loseHeld vl_cX2_loseHeld_0 = true := by decide +kernel
theorem dX2_loseHeld_0 : decode cX2_loseHeld 0 = .ok (.aload_n 0, 1) := vl_at vq_cX2_loseHeld_0 (i := 0) rfl
theorem dX2_loseHeld_1 : decode cX2_loseHeld 1 = .ok (.getfield 18, 3) := vl_at vq_cX2_loseHeld_0 (i := 1) rfl
theorem dX2_loseHeld_4 : decode cX2_loseHeld 4 = .ok (.aload_n 0, 1) := vl_at vq_cX2_loseHeld_0 (i := 2) rfl
theorem dX2_loseHeld_5 : decode cX2_loseHeld 5 = .ok (.getfield 15, 3) := vl_at vq_cX2_loseHeld_0 (i := 3) rfl
theorem dX2_loseHeld_8 : decode cX2_loseHeld 8 = .ok (.if_icmp .ge 13, 3) := vl_at vq_cX2_loseHeld_0 (i := 4) rfl
theorem dX2_loseHeld_11 : decode cX2_loseHeld 11 = .ok (.aload_n 0, 1) := vl_at vq_cX2_loseHeld_0 (i := 5) rfl
theorem dX2_loseHeld_12 : decode cX2_loseHeld 12 = .ok (.dup, 1) := vl_at vq_cX2_loseHeld_0 (i := 6) rfl
theorem dX2_loseHeld_13 : decode cX2_loseHeld 13 = .ok (.getfield 15, 3) := vl_at vq_cX2_loseHeld_0 (i := 7) rfl
theorem dX2_loseHeld_16 : decode cX2_loseHeld 16 = .ok (.iconst 1, 1) := vl_at vq_cX2_loseHeld_0 (i := 8) rfl
theorem dX2_loseHeld_17 : decode cX2_loseHeld 17 = .ok (.isub, 1) := vl_at vq_cX2_loseHeld_0 (i := 9) rfl
theorem dX2_loseHeld_18 : decode cX2_loseHeld 18 = .ok (.putfield 15, 3) := vl_at vq_cX2_loseHeld_0 (i := 10) rfl
theorem dX2_loseHeld_21 : decode cX2_loseHeld 21 = .ok (.aload_n 0, 1) := vl_at vq_cX2_loseHeld_0 (i := 11) rfl
theorem dX2_loseHeld_22 : decode cX2_loseHeld 22 = .ok (.iconst (-1), 1) := vl_at vq_cX2_loseHeld_0 (i := 12) rfl
theorem dX2_loseHeld_23 : decode cX2_loseHeld 23 = .ok (.putfield 18, 3) := vl_at vq_cX2_loseHeld_0 (i := 13) rfl
theorem dX2_loseHeld_26 : decode cX2_loseHeld 26 = .ok (.return_, 1) := vl_at vq_cX2_loseHeld_0 (i := 14) rfl
noncomputable def vl_cX2_passNew_0 : List (Nat × Instr × Nat) := [(0, .aload_n 0, 1), (1, .dup, 1), (2, .getfield 15, 3), (5, .iconst 1, 1), (6, .iadd, 1), (7, .putfield 15, 3), (10, .aload_n 0, 1), (11, .iconst (-1), 1), (12, .putfield 18, 3), (15, .return_, 1)]
theorem vq_cX2_passNew_0 : vl_ok cX2_passNew vl_cX2_passNew_0 = true := by decide +kernel
theorem dX2_passNew_0 : decode cX2_passNew 0 = .ok (.aload_n 0, 1) := vl_at vq_cX2_passNew_0 (i := 0) rfl
theorem dX2_passNew_1 : decode cX2_passNew 1 = .ok (.dup, 1) := vl_at vq_cX2_passNew_0 (i := 1) rfl
theorem dX2_passNew_2 : decode cX2_passNew 2 = .ok (.getfield 15, 3) := vl_at vq_cX2_passNew_0 (i := 2) rfl
theorem dX2_passNew_5 : decode cX2_passNew 5 = .ok (.iconst 1, 1) := vl_at vq_cX2_passNew_0 (i := 3) rfl
theorem dX2_passNew_6 : decode cX2_passNew 6 = .ok (.iadd, 1) := vl_at vq_cX2_passNew_0 (i := 4) rfl
theorem dX2_passNew_7 : decode cX2_passNew 7 = .ok (.putfield 15, 3) := vl_at vq_cX2_passNew_0 (i := 5) rfl
theorem dX2_passNew_10 : decode cX2_passNew 10 = .ok (.aload_n 0, 1) := vl_at vq_cX2_passNew_0 (i := 6) rfl
theorem dX2_passNew_11 : decode cX2_passNew 11 = .ok (.iconst (-1), 1) := vl_at vq_cX2_passNew_0 (i := 7) rfl
theorem dX2_passNew_12 : decode cX2_passNew 12 = .ok (.putfield 18, 3) := vl_at vq_cX2_passNew_0 (i := 8) rfl
theorem dX2_passNew_15 : decode cX2_passNew 15 = .ok (.return_, 1) := vl_at vq_cX2_passNew_0 (i := 9) rfl
noncomputable def vl_cX3_init_0 : List (Nat × Instr × Nat) := [(0, .aload_n 0, 1), (1, .invokespecial 1, 3), (4, .aload_n 0, 1), (5, .new 7, 3), (8, .dup, 1), (9, .bipush 20, 2), (11, .invokespecial 11, 3), (14, .putfield 14, 3), (17, .aload_n 0, 1), (18, .new 7, 3), (21, .dup, 1), (22, .bipush 20, 2), (24, .invokespecial 11, 3), (27, .putfield 18, 3), (30, .aload_n 0, 1), (31, .new 7, 3), (34, .dup, 1), (35, .bipush 12, 2), (37, .invokespecial 11, 3), (40, .putfield 21, 3), (43, .aload_n 0, 1), (44, .new 7, 3), (47, .dup, 1), (48, .bipush 10, 2), (50, .invokespecial 11, 3), (53, .putfield 24, 3), (56, .aload_n 0, 1), (57, .new 27, 3), (60, .dup, 1), (61, .invokespecial 29, 3), (64, .putfield 30, 3), (67, .aload_n 0, 1), (68, .new 34, 3), (71, .dup, 1), (72, .invokespecial 36, 3), (75, .putfield 37, 3), (78, .aload_n 0, 1), (79, .new 34, 3), (82, .dup, 1), (83, .invokespecial 36, 3)]
theorem vq_cX3_init_0 : vl_ok cX3_init vl_cX3_init_0 = true := by decide +kernel
theorem dX3_init_0 : decode cX3_init 0 = .ok (.aload_n 0, 1) := vl_at vq_cX3_init_0 (i := 0) rfl
theorem dX3_init_1 : decode cX3_init 1 = .ok (.invokespecial 1, 3) := vl_at vq_cX3_init_0 (i := 1) rfl
theorem dX3_init_4 : decode cX3_init 4 = .ok (.aload_n 0, 1) := vl_at vq_cX3_init_0 (i := 2) rfl
theorem dX3_init_5 : decode cX3_init 5 = .ok (.new 7, 3) := vl_at vq_cX3_init_0 (i := 3) rfl
theorem dX3_init_8 : decode cX3_init 8 = .ok (.dup, 1) := vl_at vq_cX3_init_0 (i := 4) rfl
theorem dX3_init_9 : decode cX3_init 9 = .ok (.bipush 20, 2) := vl_at vq_cX3_init_0 (i := 5) rfl
theorem dX3_init_11 : decode cX3_init 11 = .ok (.invokespecial 11, 3) := vl_at vq_cX3_init_0 (i := 6) rfl
theorem dX3_init_14 : decode cX3_init 14 = .ok (.putfield 14, 3) := vl_at vq_cX3_init_0 (i := 7) rfl
theorem dX3_init_17 : decode cX3_init 17 = .ok (.aload_n 0, 1) := vl_at vq_cX3_init_0 (i := 8) rfl
theorem dX3_init_18 : decode cX3_init 18 = .ok (.new 7, 3) := vl_at vq_cX3_init_0 (i := 9) rfl
theorem dX3_init_21 : decode cX3_init 21 = .ok (.dup, 1) := vl_at vq_cX3_init_0 (i := 10) rfl
theorem dX3_init_22 : decode cX3_init 22 = .ok (.bipush 20, 2) := vl_at vq_cX3_init_0 (i := 11) rfl
theorem dX3_init_24 : decode cX3_init 24 = .ok (.invokespecial 11, 3) := vl_at vq_cX3_init_0 (i := 12) rfl
theorem dX3_init_27 : decode cX3_init 27 = .ok (.putfield 18, 3) := vl_at vq_cX3_init_0 (i := 13) rfl
theorem dX3_init_30 : decode cX3_init 30 = .ok (.aload_n 0, 1) := vl_at vq_cX3_init_0 (i := 14) rfl
theorem dX3_init_31 : decode cX3_init 31 = .ok (.new 7, 3) := vl_at vq_cX3_init_0 (i := 15) rfl
theorem dX3_init_34 : decode cX3_init 34 = .ok (.dup, 1) := vl_at vq_cX3_init_0 (i := 16) rfl
theorem dX3_init_35 : decode cX3_init 35 = .ok (.bipush 12, 2) := vl_at vq_cX3_init_0 (i := 17) rfl
theorem dX3_init_37 : decode cX3_init 37 = .ok (.invokespecial 11, 3) := vl_at vq_cX3_init_0 (i := 18) rfl
theorem dX3_init_40 : decode cX3_init 40 = .ok (.putfield 21, 3) := vl_at vq_cX3_init_0 (i := 19) rfl
theorem dX3_init_43 : decode cX3_init 43 = .ok (.aload_n 0, 1) := vl_at vq_cX3_init_0 (i := 20) rfl
theorem dX3_init_44 : decode cX3_init 44 = .ok (.new 7, 3) := vl_at vq_cX3_init_0 (i := 21) rfl
theorem dX3_init_47 : decode cX3_init 47 = .ok (.dup, 1) := vl_at vq_cX3_init_0 (i := 22) rfl
theorem dX3_init_48 : decode cX3_init 48 = .ok (.bipush 10, 2) := vl_at vq_cX3_init_0 (i := 23) rfl
theorem dX3_init_50 : decode cX3_init 50 = .ok (.invokespecial 11, 3) := vl_at vq_cX3_init_0 (i := 24) rfl
theorem dX3_init_53 : decode cX3_init 53 = .ok (.putfield 24, 3) := vl_at vq_cX3_init_0 (i := 25) rfl
theorem dX3_init_56 : decode cX3_init 56 = .ok (.aload_n 0, 1) := vl_at vq_cX3_init_0 (i := 26) rfl
theorem dX3_init_57 : decode cX3_init 57 = .ok (.new 27, 3) := vl_at vq_cX3_init_0 (i := 27) rfl
theorem dX3_init_60 : decode cX3_init 60 = .ok (.dup, 1) := vl_at vq_cX3_init_0 (i := 28) rfl
theorem dX3_init_61 : decode cX3_init 61 = .ok (.invokespecial 29, 3) := vl_at vq_cX3_init_0 (i := 29) rfl
theorem dX3_init_64 : decode cX3_init 64 = .ok (.putfield 30, 3) := vl_at vq_cX3_init_0 (i := 30) rfl
theorem dX3_init_67 : decode cX3_init 67 = .ok (.aload_n 0, 1) := vl_at vq_cX3_init_0 (i := 31) rfl
theorem dX3_init_68 : decode cX3_init 68 = .ok (.new 34, 3) := vl_at vq_cX3_init_0 (i := 32) rfl
theorem dX3_init_71 : decode cX3_init 71 = .ok (.dup, 1) := vl_at vq_cX3_init_0 (i := 33) rfl
theorem dX3_init_72 : decode cX3_init 72 = .ok (.invokespecial 36, 3) := vl_at vq_cX3_init_0 (i := 34) rfl
theorem dX3_init_75 : decode cX3_init 75 = .ok (.putfield 37, 3) := vl_at vq_cX3_init_0 (i := 35) rfl
theorem dX3_init_78 : decode cX3_init 78 = .ok (.aload_n 0, 1) := vl_at vq_cX3_init_0 (i := 36) rfl
theorem dX3_init_79 : decode cX3_init 79 = .ok (.new 34, 3) := vl_at vq_cX3_init_0 (i := 37) rfl
theorem dX3_init_82 : decode cX3_init 82 = .ok (.dup, 1) := vl_at vq_cX3_init_0 (i := 38) rfl
theorem dX3_init_83 : decode cX3_init 83 = .ok (.invokespecial 36, 3) := vl_at vq_cX3_init_0 (i := 39) rfl
noncomputable def vl_cX3_init_1 : List (Nat × Instr × Nat) := [(86, .putfield 41, 3), (89, .aload_n 0, 1), (90, .iconst 0, 1), (91, .putfield 44, 3), (94, .aload_n 0, 1), (95, .new 7, 3), (98, .dup, 1), (99, .bipush 20, 2), (101, .invokespecial 11, 3), (104, .putfield 48, 3), (107, .aload_n 0, 1), (108, .new 7, 3), (111, .dup, 1), (112, .bipush 20, 2), (114, .invokespecial 11, 3), (117, .putfield 51, 3), (120, .aload_n 0, 1), (121, .new 7, 3), (124, .dup, 1), (125, .bipush 20, 2), (127, .invokespecial 11, 3), (130, .putfield 54, 3), (133, .return_, 1)]
theorem vq_cX3_init_1 : vl_ok cX3_init vl_cX3_init_1 = true := by decide +kernel
theorem dX3_init_86 : decode cX3_init 86 = .ok (.putfield 41, 3) := vl_at vq_cX3_init_1 (i := 0) rfl
theorem dX3_init_89 : decode cX3_init 89 = .ok (.aload_n 0, 1) := vl_at vq_cX3_init_1 (i := 1) rfl
theorem dX3_init_90 : decode cX3_init 90 = .ok (.iconst 0, 1) := vl_at vq_cX3_init_1 (i := 2) rfl
theorem dX3_init_91 : decode cX3_init 91 = .ok (.putfield 44, 3) := vl_at vq_cX3_init_1 (i := 3) rfl
theorem dX3_init_94 : decode cX3_init 94 = .ok (.aload_n 0, 1) := vl_at vq_cX3_init_1 (i := 4) rfl
theorem dX3_init_95 : decode cX3_init 95 = .ok (.new 7, 3) := vl_at vq_cX3_init_1 (i := 5) rfl
theorem dX3_init_98 : decode cX3_init 98 = .ok (.dup, 1) := vl_at vq_cX3_init_1 (i := 6) rfl
theorem dX3_init_99 : decode cX3_init 99 = .ok (.bipush 20, 2) := vl_at vq_cX3_init_1 (i := 7) rfl
theorem dX3_init_101 : decode cX3_init 101 = .ok (.invokespecial 11, 3) := vl_at vq_cX3_init_1 (i := 8) rfl
theorem dX3_init_104 : decode cX3_init 104 = .ok (.putfield 48, 3) := vl_at vq_cX3_init_1 (i := 9) rfl
theorem dX3_init_107 : decode cX3_init 107 = .ok (.aload_n 0, 1) := vl_at vq_cX3_init_1 (i := 10) rfl
theorem dX3_init_108 : decode cX3_init 108 = .ok (.new 7, 3) := vl_at vq_cX3_init_1 (i := 11) rfl
theorem dX3_init_111 : decode cX3_init 111 = .ok (.dup, 1) := vl_at vq_cX3_init_1 (i := 12) rfl
theorem dX3_init_112 : decode cX3_init 112 = .ok (.bipush 20, 2) := vl_at vq_cX3_init_1 (i := 13) rfl
theorem dX3_init_114 : decode cX3_init 114 = .ok (.invokespecial 11, 3) := vl_at vq_cX3_init_1 (i := 14) rfl
theorem dX3_init_117 : decode cX3_init 117 = .ok (.putfield 51, 3) := vl_at vq_cX3_init_1 (i := 15) rfl
theorem dX3_init_120 : decode cX3_init 120 = .ok (.aload_n 0, 1) := vl_at vq_cX3_init_1 (i := 16) rfl
theorem dX3_init_121 : decode cX3_init 121 = .ok (.new 7, 3) := vl_at vq_cX3_init_1 (i := 17) rfl
theorem dX3_init_124 : decode cX3_init 124 = .ok (.dup, 1) := vl_at vq_cX3_init_1 (i := 18) rfl
theorem dX3_init_125 : decode cX3_init 125 = .ok (.bipush 20, 2) := vl_at vq_cX3_init_1 (i := 19) rfl
theorem dX3_init_127 : decode cX3_init 127 = .ok (.invokespecial 11, 3) := vl_at vq_cX3_init_1 (i := 20) rfl
theorem dX3_init_130 : decode cX3_init 130 = .ok (.putfield 54, 3) := vl_at vq_cX3_init_1 (i := 21) rfl
theorem dX3_init_133 : decode cX3_init 133 = .ok (.return_, 1) := vl_at vq_cX3_init_1 (i := 22) rfl
noncomputable def vl_cX3_join_0 : List (Nat × Instr × Nat) := [(0, .aload_n 0, 1), (1, .iload_n 1, 1), (2, .iload_n 2, 1), (3, .iload_n 3, 1), (4, .iload 4, 2), (6, .invokevirtual 57, 3), (9, .ifCond .eq 14, 3), (12, .aload_n 0, 1), (13, .iload_n 1, 1), (14, .invokevirtual 61, 3), (17, .invokevirtual 65, 3), (20, .goto 5, 3), (23, .bipush (-9), 2), (25, .ireturn, 1)]
theorem vq_cX3_join_0 : vl_ok cX3_join vl_cX3_join_0 = true := by decide +kernel
theorem dX3_join_0 : decode cX3_join 0 = .ok (.aload_n 0, 1) := vl_at vq_cX3_join_0 (i := 0) rfl
theorem dX3_join_1 : decode cX3_join 1 = .ok (.iload_n 1, 1) := vl_at vq_cX3_join_0 (i := 1) rfl
theorem dX3_join_2 : decode cX3_join 2 = .ok (.iload_n 2, 1) := vl_at vq_cX3_join_0 (i := 2) rfl
theorem dX3_join_3 : decode cX3_join 3 = .ok (.iload_n 3, 1) := vl_at vq_cX3_join_0 (i := 3) rfl
theorem dX3_join_4 : decode cX3_join 4 = .ok (.iload 4, 2) := vl_at vq_cX3_join_0 (i := 4) rfl
theorem dX3_join_6 : decode cX3_join 6 = .ok (.invokevirtual 57, 3) := vl_at vq_cX3_join_0 (i := 5) rfl
theorem dX3_join_9 : decode cX3_join 9 = .ok (.ifCond .eq 14, 3) := vl_at vq_cX3_join_0 (i := 6) rfl
theorem dX3_join_12 : decode cX3_join 12 = .ok (.aload_n 0, 1) := vl_at vq_cX3_join_0 (i := 7) rfl
theorem dX3_join_13 : decode cX3_join 13 = .ok (.iload_n 1, 1) := vl_at vq_cX3_join_0 (i := 8) rfl
theorem dX3_join_14 : decode cX3_join 14 = .ok (.invokevirtual 61, 3) := vl_at vq_cX3_join_0 (i := 9) rfl
theorem dX3_join_17 : decode cX3_join 17 = .ok (.invokevirtual 65, 3) := vl_at vq_cX3_join_0 (i := 10) rfl
theorem dX3_join_20 : decode cX3_join 20 = .ok (.goto 5, 3) := vl_at vq_cX3_join_0 (i := 11) rfl
theorem dX3_join_23 : decode cX3_join 23 = .ok (.bipush (-9), 2) := vl_at vq_cX3_join_0 (i := 12) rfl
theorem dX3_join_25 : decode cX3_join 25 = .ok (.ireturn, 1) := vl_at vq_cX3_join_0 (i := 13) rfl
noncomputable def vl_cX3_offer_0 : List (Nat × Instr × Nat) := [(0, .aload_n 0, 1), (1, .iload_n 1, 1), (2, .iload_n 2, 1), (3, .iload_n 3, 1), (4, .iload 4, 2), (6, .invokevirtual 57, 3), (9, .ireturn, 1)]
theorem vq_cX3_offer_0 : vl_ok cX3_offer vl_cX3_offer_0 = true := by decide +kernel
theorem dX3_offer_0 : decode cX3_offer 0 = .ok (.aload_n 0, 1) := vl_at vq_cX3_offer_0 (i := 0) rfl
theorem dX3_offer_1 : decode cX3_offer 1 = .ok (.iload_n 1, 1) := vl_at vq_cX3_offer_0 (i := 1) rfl
theorem dX3_offer_2 : decode cX3_offer 2 = .ok (.iload_n 2, 1) := vl_at vq_cX3_offer_0 (i := 2) rfl
theorem dX3_offer_3 : decode cX3_offer 3 = .ok (.iload_n 3, 1) := vl_at vq_cX3_offer_0 (i := 3) rfl
theorem dX3_offer_4 : decode cX3_offer 4 = .ok (.iload 4, 2) := vl_at vq_cX3_offer_0 (i := 4) rfl
theorem dX3_offer_6 : decode cX3_offer 6 = .ok (.invokevirtual 57, 3) := vl_at vq_cX3_offer_0 (i := 5) rfl
theorem dX3_offer_9 : decode cX3_offer 9 = .ok (.ireturn, 1) := vl_at vq_cX3_offer_0 (i := 6) rfl
noncomputable def vl_cX3_push_0 : List (Nat × Instr × Nat) := [(0, .iload_n 1, 1), (1, .invokestatic 69, 3), (4, .aload_n 0, 1), (5, .iload_n 1, 1), (6, .iconst 0, 1), (7, .invokevirtual 72, 3), (10, .istore 4, 2), (12, .aload_n 0, 1), (13, .iload_n 1, 1), (14, .iconst 0, 1), (15, .iload_n 2, 1), (16, .iload_n 3, 1), (17, .invokevirtual 57, 3), (20, .ifCond .eq 8, 3), (23, .iload 4, 2), (25, .goto 5, 3), (28, .bipush (-9), 2), (30, .ireturn, 1)]
theorem vq_cX3_push_0 : vl_ok cX3_push vl_cX3_push_0 = true := by decide +kernel
theorem dX3_push_0 : decode cX3_push 0 = .ok (.iload_n 1, 1) := vl_at vq_cX3_push_0 (i := 0) rfl
theorem dX3_push_1 : decode cX3_push 1 = .ok (.invokestatic 69, 3) := vl_at vq_cX3_push_0 (i := 1) rfl
theorem dX3_push_4 : decode cX3_push 4 = .ok (.aload_n 0, 1) := vl_at vq_cX3_push_0 (i := 2) rfl
theorem dX3_push_5 : decode cX3_push 5 = .ok (.iload_n 1, 1) := vl_at vq_cX3_push_0 (i := 3) rfl
theorem dX3_push_6 : decode cX3_push 6 = .ok (.iconst 0, 1) := vl_at vq_cX3_push_0 (i := 4) rfl
theorem dX3_push_7 : decode cX3_push 7 = .ok (.invokevirtual 72, 3) := vl_at vq_cX3_push_0 (i := 5) rfl
theorem dX3_push_10 : decode cX3_push 10 = .ok (.istore 4, 2) := vl_at vq_cX3_push_0 (i := 6) rfl
theorem dX3_push_12 : decode cX3_push 12 = .ok (.aload_n 0, 1) := vl_at vq_cX3_push_0 (i := 7) rfl
theorem dX3_push_13 : decode cX3_push 13 = .ok (.iload_n 1, 1) := vl_at vq_cX3_push_0 (i := 8) rfl
theorem dX3_push_14 : decode cX3_push 14 = .ok (.iconst 0, 1) := vl_at vq_cX3_push_0 (i := 9) rfl
theorem dX3_push_15 : decode cX3_push 15 = .ok (.iload_n 2, 1) := vl_at vq_cX3_push_0 (i := 10) rfl
theorem dX3_push_16 : decode cX3_push 16 = .ok (.iload_n 3, 1) := vl_at vq_cX3_push_0 (i := 11) rfl
theorem dX3_push_17 : decode cX3_push 17 = .ok (.invokevirtual 57, 3) := vl_at vq_cX3_push_0 (i := 12) rfl
theorem dX3_push_20 : decode cX3_push 20 = .ok (.ifCond .eq 8, 3) := vl_at vq_cX3_push_0 (i := 13) rfl
theorem dX3_push_23 : decode cX3_push 23 = .ok (.iload 4, 2) := vl_at vq_cX3_push_0 (i := 14) rfl
theorem dX3_push_25 : decode cX3_push 25 = .ok (.goto 5, 3) := vl_at vq_cX3_push_0 (i := 15) rfl
theorem dX3_push_28 : decode cX3_push 28 = .ok (.bipush (-9), 2) := vl_at vq_cX3_push_0 (i := 16) rfl
theorem dX3_push_30 : decode cX3_push 30 = .ok (.ireturn, 1) := vl_at vq_cX3_push_0 (i := 17) rfl
noncomputable def vl_cX3_append_0 : List (Nat × Instr × Nat) := [(0, .aload_n 0, 1), (1, .iload_n 1, 1), (2, .iconst 1, 1), (3, .iload_n 2, 1), (4, .iload_n 3, 1), (5, .invokevirtual 57, 3), (8, .ifCond .eq 14, 3), (11, .aload_n 0, 1), (12, .iload_n 1, 1), (13, .invokevirtual 61, 3), (16, .invokevirtual 65, 3), (19, .goto 5, 3), (22, .bipush (-9), 2), (24, .ireturn, 1)]
theorem vq_cX3_append_0 : vl_ok cX3_append vl_cX3_append_0 = true := by decide +kernel
theorem dX3_append_0 : decode cX3_append 0 = .ok (.aload_n 0, 1) := vl_at vq_cX3_append_0 (i := 0) rfl
theorem dX3_append_1 : decode cX3_append 1 = .ok (.iload_n 1, 1) := vl_at vq_cX3_append_0 (i := 1) rfl
theorem dX3_append_2 : decode cX3_append 2 = .ok (.iconst 1, 1) := vl_at vq_cX3_append_0 (i := 2) rfl
theorem dX3_append_3 : decode cX3_append 3 = .ok (.iload_n 2, 1) := vl_at vq_cX3_append_0 (i := 3) rfl
theorem dX3_append_4 : decode cX3_append 4 = .ok (.iload_n 3, 1) := vl_at vq_cX3_append_0 (i := 4) rfl
theorem dX3_append_5 : decode cX3_append 5 = .ok (.invokevirtual 57, 3) := vl_at vq_cX3_append_0 (i := 5) rfl
theorem dX3_append_8 : decode cX3_append 8 = .ok (.ifCond .eq 14, 3) := vl_at vq_cX3_append_0 (i := 6) rfl
theorem dX3_append_11 : decode cX3_append 11 = .ok (.aload_n 0, 1) := vl_at vq_cX3_append_0 (i := 7) rfl
theorem dX3_append_12 : decode cX3_append 12 = .ok (.iload_n 1, 1) := vl_at vq_cX3_append_0 (i := 8) rfl
theorem dX3_append_13 : decode cX3_append 13 = .ok (.invokevirtual 61, 3) := vl_at vq_cX3_append_0 (i := 9) rfl
theorem dX3_append_16 : decode cX3_append 16 = .ok (.invokevirtual 65, 3) := vl_at vq_cX3_append_0 (i := 10) rfl
theorem dX3_append_19 : decode cX3_append 19 = .ok (.goto 5, 3) := vl_at vq_cX3_append_0 (i := 11) rfl
theorem dX3_append_22 : decode cX3_append 22 = .ok (.bipush (-9), 2) := vl_at vq_cX3_append_0 (i := 12) rfl
theorem dX3_append_24 : decode cX3_append 24 = .ok (.ireturn, 1) := vl_at vq_cX3_append_0 (i := 13) rfl
noncomputable def vl_cX3_train_0 : List (Nat × Instr × Nat) := [(0, .iload_n 1, 1), (1, .invokestatic 69, 3), (4, .iload_n 2, 1), (5, .iconst 1, 1), (6, .bipush 9, 2), (8, .invokestatic 76, 3), (11, .iload_n 3, 1), (12, .iconst 0, 1), (13, .bipush 99, 2), (15, .invokestatic 76, 3), (18, .iload 4, 2), (20, .iconst 1, 1), (21, .bipush 12, 2), (23, .invokestatic 76, 3), (26, .aload_n 0, 1), (27, .iload_n 1, 1), (28, .iload 4, 2), (30, .invokevirtual 80, 3), (33, .iconst 0, 1), (34, .istore 5, 2), (36, .iload 5, 2), (38, .iload 4, 2), (40, .if_icmp .ge 39, 3), (43, .aload_n 0, 1), (44, .iload_n 1, 1), (45, .iconst 1, 1), (46, .iconst 1, 1), (47, .iload_n 2, 1), (48, .iconst 1, 1), (49, .isub, 1), (50, .iload 5, 2), (52, .iadd, 1), (53, .bipush 9, 2), (55, .irem, 1), (56, .iadd, 1), (57, .iload_n 3, 1), (58, .bipush 7, 2), (60, .iload 5, 2), (62, .imul, 1), (63, .iadd, 1)]
theorem vq_cX3_train_0 : vl_ok cX3_train vl_cX3_train_0 = true := by decide +kernel
theorem dX3_train_0 : decode cX3_train 0 = .ok (.iload_n 1, 1) := vl_at vq_cX3_train_0 (i := 0) rfl
theorem dX3_train_1 : decode cX3_train 1 = .ok (.invokestatic 69, 3) := vl_at vq_cX3_train_0 (i := 1) rfl
theorem dX3_train_4 : decode cX3_train 4 = .ok (.iload_n 2, 1) := vl_at vq_cX3_train_0 (i := 2) rfl
theorem dX3_train_5 : decode cX3_train 5 = .ok (.iconst 1, 1) := vl_at vq_cX3_train_0 (i := 3) rfl
theorem dX3_train_6 : decode cX3_train 6 = .ok (.bipush 9, 2) := vl_at vq_cX3_train_0 (i := 4) rfl
theorem dX3_train_8 : decode cX3_train 8 = .ok (.invokestatic 76, 3) := vl_at vq_cX3_train_0 (i := 5) rfl
theorem dX3_train_11 : decode cX3_train 11 = .ok (.iload_n 3, 1) := vl_at vq_cX3_train_0 (i := 6) rfl
theorem dX3_train_12 : decode cX3_train 12 = .ok (.iconst 0, 1) := vl_at vq_cX3_train_0 (i := 7) rfl
theorem dX3_train_13 : decode cX3_train 13 = .ok (.bipush 99, 2) := vl_at vq_cX3_train_0 (i := 8) rfl
theorem dX3_train_15 : decode cX3_train 15 = .ok (.invokestatic 76, 3) := vl_at vq_cX3_train_0 (i := 9) rfl
theorem dX3_train_18 : decode cX3_train 18 = .ok (.iload 4, 2) := vl_at vq_cX3_train_0 (i := 10) rfl
theorem dX3_train_20 : decode cX3_train 20 = .ok (.iconst 1, 1) := vl_at vq_cX3_train_0 (i := 11) rfl
theorem dX3_train_21 : decode cX3_train 21 = .ok (.bipush 12, 2) := vl_at vq_cX3_train_0 (i := 12) rfl
theorem dX3_train_23 : decode cX3_train 23 = .ok (.invokestatic 76, 3) := vl_at vq_cX3_train_0 (i := 13) rfl
theorem dX3_train_26 : decode cX3_train 26 = .ok (.aload_n 0, 1) := vl_at vq_cX3_train_0 (i := 14) rfl
theorem dX3_train_27 : decode cX3_train 27 = .ok (.iload_n 1, 1) := vl_at vq_cX3_train_0 (i := 15) rfl
theorem dX3_train_28 : decode cX3_train 28 = .ok (.iload 4, 2) := vl_at vq_cX3_train_0 (i := 16) rfl
theorem dX3_train_30 : decode cX3_train 30 = .ok (.invokevirtual 80, 3) := vl_at vq_cX3_train_0 (i := 17) rfl
theorem dX3_train_33 : decode cX3_train 33 = .ok (.iconst 0, 1) := vl_at vq_cX3_train_0 (i := 18) rfl
theorem dX3_train_34 : decode cX3_train 34 = .ok (.istore 5, 2) := vl_at vq_cX3_train_0 (i := 19) rfl
theorem dX3_train_36 : decode cX3_train 36 = .ok (.iload 5, 2) := vl_at vq_cX3_train_0 (i := 20) rfl
theorem dX3_train_38 : decode cX3_train 38 = .ok (.iload 4, 2) := vl_at vq_cX3_train_0 (i := 21) rfl
theorem dX3_train_40 : decode cX3_train 40 = .ok (.if_icmp .ge 39, 3) := vl_at vq_cX3_train_0 (i := 22) rfl
theorem dX3_train_43 : decode cX3_train 43 = .ok (.aload_n 0, 1) := vl_at vq_cX3_train_0 (i := 23) rfl
theorem dX3_train_44 : decode cX3_train 44 = .ok (.iload_n 1, 1) := vl_at vq_cX3_train_0 (i := 24) rfl
theorem dX3_train_45 : decode cX3_train 45 = .ok (.iconst 1, 1) := vl_at vq_cX3_train_0 (i := 25) rfl
theorem dX3_train_46 : decode cX3_train 46 = .ok (.iconst 1, 1) := vl_at vq_cX3_train_0 (i := 26) rfl
theorem dX3_train_47 : decode cX3_train 47 = .ok (.iload_n 2, 1) := vl_at vq_cX3_train_0 (i := 27) rfl
theorem dX3_train_48 : decode cX3_train 48 = .ok (.iconst 1, 1) := vl_at vq_cX3_train_0 (i := 28) rfl
theorem dX3_train_49 : decode cX3_train 49 = .ok (.isub, 1) := vl_at vq_cX3_train_0 (i := 29) rfl
theorem dX3_train_50 : decode cX3_train 50 = .ok (.iload 5, 2) := vl_at vq_cX3_train_0 (i := 30) rfl
theorem dX3_train_52 : decode cX3_train 52 = .ok (.iadd, 1) := vl_at vq_cX3_train_0 (i := 31) rfl
theorem dX3_train_53 : decode cX3_train 53 = .ok (.bipush 9, 2) := vl_at vq_cX3_train_0 (i := 32) rfl
theorem dX3_train_55 : decode cX3_train 55 = .ok (.irem, 1) := vl_at vq_cX3_train_0 (i := 33) rfl
theorem dX3_train_56 : decode cX3_train 56 = .ok (.iadd, 1) := vl_at vq_cX3_train_0 (i := 34) rfl
theorem dX3_train_57 : decode cX3_train 57 = .ok (.iload_n 3, 1) := vl_at vq_cX3_train_0 (i := 35) rfl
theorem dX3_train_58 : decode cX3_train 58 = .ok (.bipush 7, 2) := vl_at vq_cX3_train_0 (i := 36) rfl
theorem dX3_train_60 : decode cX3_train 60 = .ok (.iload 5, 2) := vl_at vq_cX3_train_0 (i := 37) rfl
theorem dX3_train_62 : decode cX3_train 62 = .ok (.imul, 1) := vl_at vq_cX3_train_0 (i := 38) rfl
theorem dX3_train_63 : decode cX3_train 63 = .ok (.iadd, 1) := vl_at vq_cX3_train_0 (i := 39) rfl
noncomputable def vl_cX3_train_1 : List (Nat × Instr × Nat) := [(64, .bipush 100, 2), (66, .irem, 1), (67, .invokestatic 84, 3), (70, .invokevirtual 88, 3), (73, .iinc 5 1, 3), (76, .goto (-40), 3), (79, .aload_n 0, 1), (80, .iload_n 1, 1), (81, .invokevirtual 61, 3), (84, .invokevirtual 65, 3), (87, .ireturn, 1)]
theorem vq_cX3_train_1 : vl_ok cX3_train vl_cX3_train_1 = true := by decide +kernel
theorem dX3_train_64 : decode cX3_train 64 = .ok (.bipush 100, 2) := vl_at vq_cX3_train_1 (i := 0) rfl
theorem dX3_train_66 : decode cX3_train 66 = .ok (.irem, 1) := vl_at vq_cX3_train_1 (i := 1) rfl
theorem dX3_train_67 : decode cX3_train 67 = .ok (.invokestatic 84, 3) := vl_at vq_cX3_train_1 (i := 2) rfl
theorem dX3_train_70 : decode cX3_train 70 = .ok (.invokevirtual 88, 3) := vl_at vq_cX3_train_1 (i := 3) rfl
theorem dX3_train_73 : decode cX3_train 73 = .ok (.iinc 5 1, 3) := vl_at vq_cX3_train_1 (i := 4) rfl
theorem dX3_train_76 : decode cX3_train 76 = .ok (.goto (-40), 3) := vl_at vq_cX3_train_1 (i := 5) rfl
theorem dX3_train_79 : decode cX3_train 79 = .ok (.aload_n 0, 1) := vl_at vq_cX3_train_1 (i := 6) rfl
theorem dX3_train_80 : decode cX3_train 80 = .ok (.iload_n 1, 1) := vl_at vq_cX3_train_1 (i := 7) rfl
theorem dX3_train_81 : decode cX3_train 81 = .ok (.invokevirtual 61, 3) := vl_at vq_cX3_train_1 (i := 8) rfl
theorem dX3_train_84 : decode cX3_train 84 = .ok (.invokevirtual 65, 3) := vl_at vq_cX3_train_1 (i := 9) rfl
theorem dX3_train_87 : decode cX3_train 87 = .ok (.ireturn, 1) := vl_at vq_cX3_train_1 (i := 10) rfl
noncomputable def vl_cX3_take_0 : List (Nat × Instr × Nat) := [(0, .iload_n 1, 1), (1, .invokestatic 69, 3), (4, .aload_n 0, 1), (5, .iload_n 1, 1), (6, .iload_n 2, 1), (7, .bipush (-9), 2), (9, .invokevirtual 92, 3), (12, .ireturn, 1)]
theorem vq_cX3_take_0 : vl_ok cX3_take vl_cX3_take_0 = true := by decide +kernel
theorem dX3_take_0 : decode cX3_take 0 = .ok (.iload_n 1, 1) := vl_at vq_cX3_take_0 (i := 0) rfl
theorem dX3_take_1 : decode cX3_take 1 = .ok (.invokestatic 69, 3) := vl_at vq_cX3_take_0 (i := 1) rfl
theorem dX3_take_4 : decode cX3_take 4 = .ok (.aload_n 0, 1) := vl_at vq_cX3_take_0 (i := 2) rfl
theorem dX3_take_5 : decode cX3_take 5 = .ok (.iload_n 1, 1) := vl_at vq_cX3_take_0 (i := 3) rfl
theorem dX3_take_6 : decode cX3_take 6 = .ok (.iload_n 2, 1) := vl_at vq_cX3_take_0 (i := 4) rfl
theorem dX3_take_7 : decode cX3_take 7 = .ok (.bipush (-9), 2) := vl_at vq_cX3_take_0 (i := 5) rfl
theorem dX3_take_9 : decode cX3_take 9 = .ok (.invokevirtual 92, 3) := vl_at vq_cX3_take_0 (i := 6) rfl
theorem dX3_take_12 : decode cX3_take 12 = .ok (.ireturn, 1) := vl_at vq_cX3_take_0 (i := 7) rfl
noncomputable def vl_cX3_poll_0 : List (Nat × Instr × Nat) := [(0, .iload_n 1, 1), (1, .invokestatic 69, 3), (4, .aload_n 0, 1), (5, .iload_n 1, 1), (6, .iload_n 2, 1), (7, .iconst 0, 1), (8, .invokevirtual 92, 3), (11, .ireturn, 1)]
theorem vq_cX3_poll_0 : vl_ok cX3_poll vl_cX3_poll_0 = true := by decide +kernel
theorem dX3_poll_0 : decode cX3_poll 0 = .ok (.iload_n 1, 1) := vl_at vq_cX3_poll_0 (i := 0) rfl
theorem dX3_poll_1 : decode cX3_poll 1 = .ok (.invokestatic 69, 3) := vl_at vq_cX3_poll_0 (i := 1) rfl
theorem dX3_poll_4 : decode cX3_poll 4 = .ok (.aload_n 0, 1) := vl_at vq_cX3_poll_0 (i := 2) rfl
theorem dX3_poll_5 : decode cX3_poll 5 = .ok (.iload_n 1, 1) := vl_at vq_cX3_poll_0 (i := 3) rfl
theorem dX3_poll_6 : decode cX3_poll 6 = .ok (.iload_n 2, 1) := vl_at vq_cX3_poll_0 (i := 4) rfl
theorem dX3_poll_7 : decode cX3_poll 7 = .ok (.iconst 0, 1) := vl_at vq_cX3_poll_0 (i := 5) rfl
theorem dX3_poll_8 : decode cX3_poll 8 = .ok (.invokevirtual 92, 3) := vl_at vq_cX3_poll_0 (i := 6) rfl
theorem dX3_poll_11 : decode cX3_poll 11 = .ok (.ireturn, 1) := vl_at vq_cX3_poll_0 (i := 7) rfl
noncomputable def vl_cX3_pop_0 : List (Nat × Instr × Nat) := [(0, .iload_n 1, 1), (1, .invokestatic 69, 3), (4, .aload_n 0, 1), (5, .iload_n 1, 1), (6, .iconst 0, 1), (7, .bipush (-9), 2), (9, .invokevirtual 92, 3), (12, .ireturn, 1)]
theorem vq_cX3_pop_0 : vl_ok cX3_pop vl_cX3_pop_0 = true := by decide +kernel
theorem dX3_pop_0 : decode cX3_pop 0 = .ok (.iload_n 1, 1) := vl_at vq_cX3_pop_0 (i := 0) rfl
theorem dX3_pop_1 : decode cX3_pop 1 = .ok (.invokestatic 69, 3) := vl_at vq_cX3_pop_0 (i := 1) rfl
theorem dX3_pop_4 : decode cX3_pop 4 = .ok (.aload_n 0, 1) := vl_at vq_cX3_pop_0 (i := 2) rfl
theorem dX3_pop_5 : decode cX3_pop 5 = .ok (.iload_n 1, 1) := vl_at vq_cX3_pop_0 (i := 3) rfl
theorem dX3_pop_6 : decode cX3_pop 6 = .ok (.iconst 0, 1) := vl_at vq_cX3_pop_0 (i := 4) rfl
theorem dX3_pop_7 : decode cX3_pop 7 = .ok (.bipush (-9), 2) := vl_at vq_cX3_pop_0 (i := 5) rfl
theorem dX3_pop_9 : decode cX3_pop 9 = .ok (.invokevirtual 92, 3) := vl_at vq_cX3_pop_0 (i := 6) rfl
theorem dX3_pop_12 : decode cX3_pop 12 = .ok (.ireturn, 1) := vl_at vq_cX3_pop_0 (i := 7) rfl
noncomputable def vl_cX3_serve_0 : List (Nat × Instr × Nat) := [(0, .iload_n 1, 1), (1, .invokestatic 69, 3), (4, .aload_n 0, 1), (5, .iload_n 1, 1), (6, .iconst 0, 1), (7, .iload_n 2, 1), (8, .ifCond .eq 7, 3), (11, .iconst 0, 1), (12, .goto 5, 3), (15, .bipush (-9), 2), (17, .invokevirtual 92, 3), (20, .ireturn, 1)]
theorem vq_cX3_serve_0 : vl_ok cX3_serve vl_cX3_serve_0 = true := by decide +kernel
theorem dX3_serve_0 : decode cX3_serve 0 = .ok (.iload_n 1, 1) := vl_at vq_cX3_serve_0 (i := 0) rfl
theorem dX3_serve_1 : decode cX3_serve 1 = .ok (.invokestatic 69, 3) := vl_at vq_cX3_serve_0 (i := 1) rfl
theorem dX3_serve_4 : decode cX3_serve 4 = .ok (.aload_n 0, 1) := vl_at vq_cX3_serve_0 (i := 2) rfl
theorem dX3_serve_5 : decode cX3_serve 5 = .ok (.iload_n 1, 1) := vl_at vq_cX3_serve_0 (i := 3) rfl
theorem dX3_serve_6 : decode cX3_serve 6 = .ok (.iconst 0, 1) := vl_at vq_cX3_serve_0 (i := 4) rfl
theorem dX3_serve_7 : decode cX3_serve 7 = .ok (.iload_n 2, 1) := vl_at vq_cX3_serve_0 (i := 5) rfl
theorem dX3_serve_8 : decode cX3_serve 8 = .ok (.ifCond .eq 7, 3) := vl_at vq_cX3_serve_0 (i := 6) rfl
theorem dX3_serve_11 : decode cX3_serve 11 = .ok (.iconst 0, 1) := vl_at vq_cX3_serve_0 (i := 7) rfl
theorem dX3_serve_12 : decode cX3_serve 12 = .ok (.goto 5, 3) := vl_at vq_cX3_serve_0 (i := 8) rfl
theorem dX3_serve_15 : decode cX3_serve 15 = .ok (.bipush (-9), 2) := vl_at vq_cX3_serve_0 (i := 9) rfl
theorem dX3_serve_17 : decode cX3_serve 17 = .ok (.invokevirtual 92, 3) := vl_at vq_cX3_serve_0 (i := 10) rfl
theorem dX3_serve_20 : decode cX3_serve 20 = .ok (.ireturn, 1) := vl_at vq_cX3_serve_0 (i := 11) rfl
noncomputable def vl_cX3_rotate_0 : List (Nat × Instr × Nat) := [(0, .iload_n 1, 1), (1, .invokestatic 69, 3), (4, .iload_n 2, 1), (5, .bipush (-6), 2), (7, .bipush 6, 2), (9, .invokestatic 76, 3), (12, .iload_n 2, 1), (13, .ifCond .le 7, 3), (16, .iconst 1, 1), (17, .goto 4, 3), (20, .iconst 0, 1), (21, .istore_n 3, 1), (22, .aload_n 0, 1), (23, .iload_n 1, 1), (24, .invokevirtual 61, 3), (27, .invokevirtual 96, 3), (30, .ifCond .eq 7, 3), (33, .iconst 0, 1), (34, .goto 7, 3), (37, .iload_n 2, 1), (38, .invokestatic 100, 3), (41, .istore 4, 2), (43, .iconst 0, 1), (44, .istore 5, 2), (46, .iload 5, 2), (48, .iload 4, 2), (50, .if_icmp .ge 33, 3), (53, .aload_n 0, 1), (54, .iload_n 1, 1), (55, .iload_n 3, 1), (56, .invokevirtual 106, 3), (59, .istore 6, 2), (61, .aload_n 0, 1), (62, .iload_n 1, 1), (63, .iload_n 3, 1), (64, .ifCond .ne 7, 3), (67, .iconst 1, 1), (68, .goto 4, 3), (71, .iconst 0, 1), (72, .iload 6, 2)]
theorem vq_cX3_rotate_0 : vl_ok cX3_rotate vl_cX3_rotate_0 = true := by decide +kernel
theorem dX3_rotate_0 : decode cX3_rotate 0 = .ok (.iload_n 1, 1) := vl_at vq_cX3_rotate_0 (i := 0) rfl
theorem dX3_rotate_1 : decode cX3_rotate 1 = .ok (.invokestatic 69, 3) := vl_at vq_cX3_rotate_0 (i := 1) rfl
theorem dX3_rotate_4 : decode cX3_rotate 4 = .ok (.iload_n 2, 1) := vl_at vq_cX3_rotate_0 (i := 2) rfl
theorem dX3_rotate_5 : decode cX3_rotate 5 = .ok (.bipush (-6), 2) := vl_at vq_cX3_rotate_0 (i := 3) rfl
theorem dX3_rotate_7 : decode cX3_rotate 7 = .ok (.bipush 6, 2) := vl_at vq_cX3_rotate_0 (i := 4) rfl
theorem dX3_rotate_9 : decode cX3_rotate 9 = .ok (.invokestatic 76, 3) := vl_at vq_cX3_rotate_0 (i := 5) rfl
theorem dX3_rotate_12 : decode cX3_rotate 12 = .ok (.iload_n 2, 1) := vl_at vq_cX3_rotate_0 (i := 6) rfl
theorem dX3_rotate_13 : decode cX3_rotate 13 = .ok (.ifCond .le 7, 3) := vl_at vq_cX3_rotate_0 (i := 7) rfl
theorem dX3_rotate_16 : decode cX3_rotate 16 = .ok (.iconst 1, 1) := vl_at vq_cX3_rotate_0 (i := 8) rfl
theorem dX3_rotate_17 : decode cX3_rotate 17 = .ok (.goto 4, 3) := vl_at vq_cX3_rotate_0 (i := 9) rfl
theorem dX3_rotate_20 : decode cX3_rotate 20 = .ok (.iconst 0, 1) := vl_at vq_cX3_rotate_0 (i := 10) rfl
theorem dX3_rotate_21 : decode cX3_rotate 21 = .ok (.istore_n 3, 1) := vl_at vq_cX3_rotate_0 (i := 11) rfl
theorem dX3_rotate_22 : decode cX3_rotate 22 = .ok (.aload_n 0, 1) := vl_at vq_cX3_rotate_0 (i := 12) rfl
theorem dX3_rotate_23 : decode cX3_rotate 23 = .ok (.iload_n 1, 1) := vl_at vq_cX3_rotate_0 (i := 13) rfl
theorem dX3_rotate_24 : decode cX3_rotate 24 = .ok (.invokevirtual 61, 3) := vl_at vq_cX3_rotate_0 (i := 14) rfl
theorem dX3_rotate_27 : decode cX3_rotate 27 = .ok (.invokevirtual 96, 3) := vl_at vq_cX3_rotate_0 (i := 15) rfl
theorem dX3_rotate_30 : decode cX3_rotate 30 = .ok (.ifCond .eq 7, 3) := vl_at vq_cX3_rotate_0 (i := 16) rfl
theorem dX3_rotate_33 : decode cX3_rotate 33 = .ok (.iconst 0, 1) := vl_at vq_cX3_rotate_0 (i := 17) rfl
theorem dX3_rotate_34 : decode cX3_rotate 34 = .ok (.goto 7, 3) := vl_at vq_cX3_rotate_0 (i := 18) rfl
theorem dX3_rotate_37 : decode cX3_rotate 37 = .ok (.iload_n 2, 1) := vl_at vq_cX3_rotate_0 (i := 19) rfl
theorem dX3_rotate_38 : decode cX3_rotate 38 = .ok (.invokestatic 100, 3) := vl_at vq_cX3_rotate_0 (i := 20) rfl
theorem dX3_rotate_41 : decode cX3_rotate 41 = .ok (.istore 4, 2) := vl_at vq_cX3_rotate_0 (i := 21) rfl
theorem dX3_rotate_43 : decode cX3_rotate 43 = .ok (.iconst 0, 1) := vl_at vq_cX3_rotate_0 (i := 22) rfl
theorem dX3_rotate_44 : decode cX3_rotate 44 = .ok (.istore 5, 2) := vl_at vq_cX3_rotate_0 (i := 23) rfl
theorem dX3_rotate_46 : decode cX3_rotate 46 = .ok (.iload 5, 2) := vl_at vq_cX3_rotate_0 (i := 24) rfl
theorem dX3_rotate_48 : decode cX3_rotate 48 = .ok (.iload 4, 2) := vl_at vq_cX3_rotate_0 (i := 25) rfl
theorem dX3_rotate_50 : decode cX3_rotate 50 = .ok (.if_icmp .ge 33, 3) := vl_at vq_cX3_rotate_0 (i := 26) rfl
theorem dX3_rotate_53 : decode cX3_rotate 53 = .ok (.aload_n 0, 1) := vl_at vq_cX3_rotate_0 (i := 27) rfl
theorem dX3_rotate_54 : decode cX3_rotate 54 = .ok (.iload_n 1, 1) := vl_at vq_cX3_rotate_0 (i := 28) rfl
theorem dX3_rotate_55 : decode cX3_rotate 55 = .ok (.iload_n 3, 1) := vl_at vq_cX3_rotate_0 (i := 29) rfl
theorem dX3_rotate_56 : decode cX3_rotate 56 = .ok (.invokevirtual 106, 3) := vl_at vq_cX3_rotate_0 (i := 30) rfl
theorem dX3_rotate_59 : decode cX3_rotate 59 = .ok (.istore 6, 2) := vl_at vq_cX3_rotate_0 (i := 31) rfl
theorem dX3_rotate_61 : decode cX3_rotate 61 = .ok (.aload_n 0, 1) := vl_at vq_cX3_rotate_0 (i := 32) rfl
theorem dX3_rotate_62 : decode cX3_rotate 62 = .ok (.iload_n 1, 1) := vl_at vq_cX3_rotate_0 (i := 33) rfl
theorem dX3_rotate_63 : decode cX3_rotate 63 = .ok (.iload_n 3, 1) := vl_at vq_cX3_rotate_0 (i := 34) rfl
theorem dX3_rotate_64 : decode cX3_rotate 64 = .ok (.ifCond .ne 7, 3) := vl_at vq_cX3_rotate_0 (i := 35) rfl
theorem dX3_rotate_67 : decode cX3_rotate 67 = .ok (.iconst 1, 1) := vl_at vq_cX3_rotate_0 (i := 36) rfl
theorem dX3_rotate_68 : decode cX3_rotate 68 = .ok (.goto 4, 3) := vl_at vq_cX3_rotate_0 (i := 37) rfl
theorem dX3_rotate_71 : decode cX3_rotate 71 = .ok (.iconst 0, 1) := vl_at vq_cX3_rotate_0 (i := 38) rfl
theorem dX3_rotate_72 : decode cX3_rotate 72 = .ok (.iload 6, 2) := vl_at vq_cX3_rotate_0 (i := 39) rfl
noncomputable def vl_cX3_rotate_1 : List (Nat × Instr × Nat) := [(74, .invokevirtual 88, 3), (77, .iinc 5 1, 3), (80, .goto (-34), 3), (83, .aload_n 0, 1), (84, .iload_n 1, 1), (85, .iconst 0, 1), (86, .invokevirtual 72, 3), (89, .ireturn, 1)]
theorem vq_cX3_rotate_1 : vl_ok cX3_rotate vl_cX3_rotate_1 = true := by decide +kernel
theorem dX3_rotate_74 : decode cX3_rotate 74 = .ok (.invokevirtual 88, 3) := vl_at vq_cX3_rotate_1 (i := 0) rfl
theorem dX3_rotate_77 : decode cX3_rotate 77 = .ok (.iinc 5 1, 3) := vl_at vq_cX3_rotate_1 (i := 1) rfl
theorem dX3_rotate_80 : decode cX3_rotate 80 = .ok (.goto (-34), 3) := vl_at vq_cX3_rotate_1 (i := 2) rfl
theorem dX3_rotate_83 : decode cX3_rotate 83 = .ok (.aload_n 0, 1) := vl_at vq_cX3_rotate_1 (i := 3) rfl
theorem dX3_rotate_84 : decode cX3_rotate 84 = .ok (.iload_n 1, 1) := vl_at vq_cX3_rotate_1 (i := 4) rfl
theorem dX3_rotate_85 : decode cX3_rotate 85 = .ok (.iconst 0, 1) := vl_at vq_cX3_rotate_1 (i := 5) rfl
theorem dX3_rotate_86 : decode cX3_rotate 86 = .ok (.invokevirtual 72, 3) := vl_at vq_cX3_rotate_1 (i := 6) rfl
theorem dX3_rotate_89 : decode cX3_rotate 89 = .ok (.ireturn, 1) := vl_at vq_cX3_rotate_1 (i := 7) rfl
noncomputable def vl_cX3_undo_0 : List (Nat × Instr × Nat) := [(0, .aload_n 0, 1), (1, .getfield 21, 3), (4, .invokevirtual 96, 3), (7, .ifCond .eq 6, 3), (10, .bipush (-9), 2), (12, .ireturn, 1), (13, .aload_n 0, 1), (14, .getfield 21, 3), (17, .aload_n 0, 1), (18, .getfield 21, 3), (21, .iconst 1, 1), (22, .invokevirtual 109, 3), (25, .invokevirtual 113, 3), (28, .istore_n 1, 1), (29, .iload_n 1, 1), (30, .invokestatic 116, 3), (33, .istore_n 2, 1), (34, .aload_n 0, 1), (35, .iload_n 2, 1), (36, .invokevirtual 61, 3), (39, .astore_n 3, 1), (40, .iload_n 1, 1), (41, .invokestatic 119, 3), (44, .ifCond .eq 19, 3), (47, .aload_n 3, 1), (48, .aload_n 3, 1), (49, .iload_n 1, 1), (50, .invokestatic 123, 3), (53, .invokevirtual 109, 3), (56, .invokevirtual 113, 3), (59, .pop, 1), (60, .goto 26, 3), (63, .aload_n 3, 1), (64, .iload_n 1, 1), (65, .invokestatic 123, 3), (68, .ifCond .eq 10, 3), (71, .aload_n 3, 1), (72, .invokevirtual 65, 3), (75, .goto 4, 3), (78, .iconst 0, 1)]
theorem vq_cX3_undo_0 : vl_ok cX3_undo vl_cX3_undo_0 = true := by decide +kernel
theorem dX3_undo_0 : decode cX3_undo 0 = .ok (.aload_n 0, 1) := vl_at vq_cX3_undo_0 (i := 0) rfl
theorem dX3_undo_1 : decode cX3_undo 1 = .ok (.getfield 21, 3) := vl_at vq_cX3_undo_0 (i := 1) rfl
theorem dX3_undo_4 : decode cX3_undo 4 = .ok (.invokevirtual 96, 3) := vl_at vq_cX3_undo_0 (i := 2) rfl
theorem dX3_undo_7 : decode cX3_undo 7 = .ok (.ifCond .eq 6, 3) := vl_at vq_cX3_undo_0 (i := 3) rfl
theorem dX3_undo_10 : decode cX3_undo 10 = .ok (.bipush (-9), 2) := vl_at vq_cX3_undo_0 (i := 4) rfl
theorem dX3_undo_12 : decode cX3_undo 12 = .ok (.ireturn, 1) := vl_at vq_cX3_undo_0 (i := 5) rfl
theorem dX3_undo_13 : decode cX3_undo 13 = .ok (.aload_n 0, 1) := vl_at vq_cX3_undo_0 (i := 6) rfl
theorem dX3_undo_14 : decode cX3_undo 14 = .ok (.getfield 21, 3) := vl_at vq_cX3_undo_0 (i := 7) rfl
theorem dX3_undo_17 : decode cX3_undo 17 = .ok (.aload_n 0, 1) := vl_at vq_cX3_undo_0 (i := 8) rfl
theorem dX3_undo_18 : decode cX3_undo 18 = .ok (.getfield 21, 3) := vl_at vq_cX3_undo_0 (i := 9) rfl
theorem dX3_undo_21 : decode cX3_undo 21 = .ok (.iconst 1, 1) := vl_at vq_cX3_undo_0 (i := 10) rfl
theorem dX3_undo_22 : decode cX3_undo 22 = .ok (.invokevirtual 109, 3) := vl_at vq_cX3_undo_0 (i := 11) rfl
theorem dX3_undo_25 : decode cX3_undo 25 = .ok (.invokevirtual 113, 3) := vl_at vq_cX3_undo_0 (i := 12) rfl
theorem dX3_undo_28 : decode cX3_undo 28 = .ok (.istore_n 1, 1) := vl_at vq_cX3_undo_0 (i := 13) rfl
theorem dX3_undo_29 : decode cX3_undo 29 = .ok (.iload_n 1, 1) := vl_at vq_cX3_undo_0 (i := 14) rfl
theorem dX3_undo_30 : decode cX3_undo 30 = .ok (.invokestatic 116, 3) := vl_at vq_cX3_undo_0 (i := 15) rfl
theorem dX3_undo_33 : decode cX3_undo 33 = .ok (.istore_n 2, 1) := vl_at vq_cX3_undo_0 (i := 16) rfl
theorem dX3_undo_34 : decode cX3_undo 34 = .ok (.aload_n 0, 1) := vl_at vq_cX3_undo_0 (i := 17) rfl
theorem dX3_undo_35 : decode cX3_undo 35 = .ok (.iload_n 2, 1) := vl_at vq_cX3_undo_0 (i := 18) rfl
theorem dX3_undo_36 : decode cX3_undo 36 = .ok (.invokevirtual 61, 3) := vl_at vq_cX3_undo_0 (i := 19) rfl
theorem dX3_undo_39 : decode cX3_undo 39 = .ok (.astore_n 3, 1) := vl_at vq_cX3_undo_0 (i := 20) rfl
theorem dX3_undo_40 : decode cX3_undo 40 = .ok (.iload_n 1, 1) := vl_at vq_cX3_undo_0 (i := 21) rfl
theorem dX3_undo_41 : decode cX3_undo 41 = .ok (.invokestatic 119, 3) := vl_at vq_cX3_undo_0 (i := 22) rfl
theorem dX3_undo_44 : decode cX3_undo 44 = .ok (.ifCond .eq 19, 3) := vl_at vq_cX3_undo_0 (i := 23) rfl
theorem dX3_undo_47 : decode cX3_undo 47 = .ok (.aload_n 3, 1) := vl_at vq_cX3_undo_0 (i := 24) rfl
theorem dX3_undo_48 : decode cX3_undo 48 = .ok (.aload_n 3, 1) := vl_at vq_cX3_undo_0 (i := 25) rfl
theorem dX3_undo_49 : decode cX3_undo 49 = .ok (.iload_n 1, 1) := vl_at vq_cX3_undo_0 (i := 26) rfl
theorem dX3_undo_50 : decode cX3_undo 50 = .ok (.invokestatic 123, 3) := vl_at vq_cX3_undo_0 (i := 27) rfl
theorem dX3_undo_53 : decode cX3_undo 53 = .ok (.invokevirtual 109, 3) := vl_at vq_cX3_undo_0 (i := 28) rfl
theorem dX3_undo_56 : decode cX3_undo 56 = .ok (.invokevirtual 113, 3) := vl_at vq_cX3_undo_0 (i := 29) rfl
theorem dX3_undo_59 : decode cX3_undo 59 = .ok (.pop, 1) := vl_at vq_cX3_undo_0 (i := 30) rfl
theorem dX3_undo_60 : decode cX3_undo 60 = .ok (.goto 26, 3) := vl_at vq_cX3_undo_0 (i := 31) rfl
theorem dX3_undo_63 : decode cX3_undo 63 = .ok (.aload_n 3, 1) := vl_at vq_cX3_undo_0 (i := 32) rfl
theorem dX3_undo_64 : decode cX3_undo 64 = .ok (.iload_n 1, 1) := vl_at vq_cX3_undo_0 (i := 33) rfl
theorem dX3_undo_65 : decode cX3_undo 65 = .ok (.invokestatic 123, 3) := vl_at vq_cX3_undo_0 (i := 34) rfl
theorem dX3_undo_68 : decode cX3_undo 68 = .ok (.ifCond .eq 10, 3) := vl_at vq_cX3_undo_0 (i := 35) rfl
theorem dX3_undo_71 : decode cX3_undo 71 = .ok (.aload_n 3, 1) := vl_at vq_cX3_undo_0 (i := 36) rfl
theorem dX3_undo_72 : decode cX3_undo 72 = .ok (.invokevirtual 65, 3) := vl_at vq_cX3_undo_0 (i := 37) rfl
theorem dX3_undo_75 : decode cX3_undo 75 = .ok (.goto 4, 3) := vl_at vq_cX3_undo_0 (i := 38) rfl
theorem dX3_undo_78 : decode cX3_undo 78 = .ok (.iconst 0, 1) := vl_at vq_cX3_undo_0 (i := 39) rfl
noncomputable def vl_cX3_undo_1 : List (Nat × Instr × Nat) := [(79, .iload_n 1, 1), (80, .invokestatic 126, 3), (83, .invokevirtual 129, 3), (86, .aload_n 0, 1), (87, .iload_n 2, 1), (88, .invokevirtual 132, 3), (91, .iload_n 1, 1), (92, .ireturn, 1)]
theorem vq_cX3_undo_1 : vl_ok cX3_undo vl_cX3_undo_1 = true := by decide +kernel
theorem dX3_undo_79 : decode cX3_undo 79 = .ok (.iload_n 1, 1) := vl_at vq_cX3_undo_1 (i := 0) rfl
theorem dX3_undo_80 : decode cX3_undo 80 = .ok (.invokestatic 126, 3) := vl_at vq_cX3_undo_1 (i := 1) rfl
theorem dX3_undo_83 : decode cX3_undo 83 = .ok (.invokevirtual 129, 3) := vl_at vq_cX3_undo_1 (i := 2) rfl
theorem dX3_undo_86 : decode cX3_undo 86 = .ok (.aload_n 0, 1) := vl_at vq_cX3_undo_1 (i := 3) rfl
theorem dX3_undo_87 : decode cX3_undo 87 = .ok (.iload_n 2, 1) := vl_at vq_cX3_undo_1 (i := 4) rfl
theorem dX3_undo_88 : decode cX3_undo 88 = .ok (.invokevirtual 132, 3) := vl_at vq_cX3_undo_1 (i := 5) rfl
theorem dX3_undo_91 : decode cX3_undo 91 = .ok (.iload_n 1, 1) := vl_at vq_cX3_undo_1 (i := 6) rfl
theorem dX3_undo_92 : decode cX3_undo 92 = .ok (.ireturn, 1) := vl_at vq_cX3_undo_1 (i := 7) rfl
noncomputable def vl_cX3_drop_0 : List (Nat × Instr × Nat) := [(0, .iload_n 1, 1), (1, .invokestatic 69, 3), (4, .iload_n 1, 1), (5, .iload_n 2, 1), (6, .invokestatic 135, 3), (9, .aload_n 0, 1), (10, .iload_n 1, 1), (11, .invokevirtual 61, 3), (14, .astore 4, 2), (16, .aload 4, 2), (18, .iload_n 2, 1), (19, .iload_n 3, 1), (20, .invokevirtual 138, 3), (23, .istore 5, 2), (25, .iload 5, 2), (27, .iconst (-1), 1), (28, .if_icmp .ne 5, 3), (31, .iconst 0, 1), (32, .ireturn, 1), (33, .aload 4, 2), (35, .iload 5, 2), (37, .invokevirtual 113, 3), (40, .pop, 1), (41, .aload_n 0, 1), (42, .iload_n 1, 1), (43, .invokevirtual 141, 3), (46, .iconst 1, 1), (47, .ireturn, 1)]
theorem vq_cX3_drop_0 : vl_ok cX3_drop vl_cX3_drop_0 = true := by decide +kernel
theorem dX3_drop_0 : decode cX3_drop 0 = .ok (.iload_n 1, 1) := vl_at vq_cX3_drop_0 (i := 0) rfl
theorem dX3_drop_1 : decode cX3_drop 1 = .ok (.invokestatic 69, 3) := vl_at vq_cX3_drop_0 (i := 1) rfl
theorem dX3_drop_4 : decode cX3_drop 4 = .ok (.iload_n 1, 1) := vl_at vq_cX3_drop_0 (i := 2) rfl
theorem dX3_drop_5 : decode cX3_drop 5 = .ok (.iload_n 2, 1) := vl_at vq_cX3_drop_0 (i := 3) rfl
theorem dX3_drop_6 : decode cX3_drop 6 = .ok (.invokestatic 135, 3) := vl_at vq_cX3_drop_0 (i := 4) rfl
theorem dX3_drop_9 : decode cX3_drop 9 = .ok (.aload_n 0, 1) := vl_at vq_cX3_drop_0 (i := 5) rfl
theorem dX3_drop_10 : decode cX3_drop 10 = .ok (.iload_n 1, 1) := vl_at vq_cX3_drop_0 (i := 6) rfl
theorem dX3_drop_11 : decode cX3_drop 11 = .ok (.invokevirtual 61, 3) := vl_at vq_cX3_drop_0 (i := 7) rfl
theorem dX3_drop_14 : decode cX3_drop 14 = .ok (.astore 4, 2) := vl_at vq_cX3_drop_0 (i := 8) rfl
theorem dX3_drop_16 : decode cX3_drop 16 = .ok (.aload 4, 2) := vl_at vq_cX3_drop_0 (i := 9) rfl
theorem dX3_drop_18 : decode cX3_drop 18 = .ok (.iload_n 2, 1) := vl_at vq_cX3_drop_0 (i := 10) rfl
theorem dX3_drop_19 : decode cX3_drop 19 = .ok (.iload_n 3, 1) := vl_at vq_cX3_drop_0 (i := 11) rfl
theorem dX3_drop_20 : decode cX3_drop 20 = .ok (.invokevirtual 138, 3) := vl_at vq_cX3_drop_0 (i := 12) rfl
theorem dX3_drop_23 : decode cX3_drop 23 = .ok (.istore 5, 2) := vl_at vq_cX3_drop_0 (i := 13) rfl
theorem dX3_drop_25 : decode cX3_drop 25 = .ok (.iload 5, 2) := vl_at vq_cX3_drop_0 (i := 14) rfl
theorem dX3_drop_27 : decode cX3_drop 27 = .ok (.iconst (-1), 1) := vl_at vq_cX3_drop_0 (i := 15) rfl
theorem dX3_drop_28 : decode cX3_drop 28 = .ok (.if_icmp .ne 5, 3) := vl_at vq_cX3_drop_0 (i := 16) rfl
theorem dX3_drop_31 : decode cX3_drop 31 = .ok (.iconst 0, 1) := vl_at vq_cX3_drop_0 (i := 17) rfl
theorem dX3_drop_32 : decode cX3_drop 32 = .ok (.ireturn, 1) := vl_at vq_cX3_drop_0 (i := 18) rfl
theorem dX3_drop_33 : decode cX3_drop 33 = .ok (.aload 4, 2) := vl_at vq_cX3_drop_0 (i := 19) rfl
theorem dX3_drop_35 : decode cX3_drop 35 = .ok (.iload 5, 2) := vl_at vq_cX3_drop_0 (i := 20) rfl
theorem dX3_drop_37 : decode cX3_drop 37 = .ok (.invokevirtual 113, 3) := vl_at vq_cX3_drop_0 (i := 21) rfl
theorem dX3_drop_40 : decode cX3_drop 40 = .ok (.pop, 1) := vl_at vq_cX3_drop_0 (i := 22) rfl
theorem dX3_drop_41 : decode cX3_drop 41 = .ok (.aload_n 0, 1) := vl_at vq_cX3_drop_0 (i := 23) rfl
theorem dX3_drop_42 : decode cX3_drop 42 = .ok (.iload_n 1, 1) := vl_at vq_cX3_drop_0 (i := 24) rfl
theorem dX3_drop_43 : decode cX3_drop 43 = .ok (.invokevirtual 141, 3) := vl_at vq_cX3_drop_0 (i := 25) rfl
theorem dX3_drop_46 : decode cX3_drop 46 = .ok (.iconst 1, 1) := vl_at vq_cX3_drop_0 (i := 26) rfl
theorem dX3_drop_47 : decode cX3_drop 47 = .ok (.ireturn, 1) := vl_at vq_cX3_drop_0 (i := 27) rfl
noncomputable def vl_cX3_dropAll_0 : List (Nat × Instr × Nat) := [(0, .iload_n 1, 1), (1, .invokestatic 69, 3), (4, .iload_n 1, 1), (5, .iload_n 2, 1), (6, .invokestatic 135, 3), (9, .aload_n 0, 1), (10, .iload_n 1, 1), (11, .invokevirtual 61, 3), (14, .astore_n 3, 1), (15, .aload_n 3, 1), (16, .invokevirtual 65, 3), (19, .istore 4, 2), (21, .iconst 0, 1), (22, .istore 5, 2), (24, .iconst 0, 1), (25, .istore 6, 2), (27, .iload 6, 2), (29, .iload 4, 2), (31, .if_icmp .ge 39, 3), (34, .iload 6, 2), (36, .iload 5, 2), (38, .isub, 1), (39, .istore 7, 2), (41, .aload_n 3, 1), (42, .iload 7, 2), (44, .invokevirtual 144, 3), (47, .invokestatic 147, 3), (50, .iload_n 2, 1), (51, .if_icmp .ne 13, 3), (54, .aload_n 3, 1), (55, .iload 7, 2), (57, .invokevirtual 113, 3), (60, .pop, 1), (61, .iinc 5 1, 3), (64, .iinc 6 1, 3), (67, .goto (-40), 3), (70, .aload_n 0, 1), (71, .iload_n 1, 1), (72, .iload 5, 2), (74, .invokevirtual 150, 3)]
theorem vq_cX3_dropAll_0 : vl_ok cX3_dropAll vl_cX3_dropAll_0 = true := by decide +kernel
theorem dX3_dropAll_0 : decode cX3_dropAll 0 = .ok (.iload_n 1, 1) := vl_at vq_cX3_dropAll_0 (i := 0) rfl
theorem dX3_dropAll_1 : decode cX3_dropAll 1 = .ok (.invokestatic 69, 3) := vl_at vq_cX3_dropAll_0 (i := 1) rfl
theorem dX3_dropAll_4 : decode cX3_dropAll 4 = .ok (.iload_n 1, 1) := vl_at vq_cX3_dropAll_0 (i := 2) rfl
theorem dX3_dropAll_5 : decode cX3_dropAll 5 = .ok (.iload_n 2, 1) := vl_at vq_cX3_dropAll_0 (i := 3) rfl
theorem dX3_dropAll_6 : decode cX3_dropAll 6 = .ok (.invokestatic 135, 3) := vl_at vq_cX3_dropAll_0 (i := 4) rfl
theorem dX3_dropAll_9 : decode cX3_dropAll 9 = .ok (.aload_n 0, 1) := vl_at vq_cX3_dropAll_0 (i := 5) rfl
theorem dX3_dropAll_10 : decode cX3_dropAll 10 = .ok (.iload_n 1, 1) := vl_at vq_cX3_dropAll_0 (i := 6) rfl
theorem dX3_dropAll_11 : decode cX3_dropAll 11 = .ok (.invokevirtual 61, 3) := vl_at vq_cX3_dropAll_0 (i := 7) rfl
theorem dX3_dropAll_14 : decode cX3_dropAll 14 = .ok (.astore_n 3, 1) := vl_at vq_cX3_dropAll_0 (i := 8) rfl
theorem dX3_dropAll_15 : decode cX3_dropAll 15 = .ok (.aload_n 3, 1) := vl_at vq_cX3_dropAll_0 (i := 9) rfl
theorem dX3_dropAll_16 : decode cX3_dropAll 16 = .ok (.invokevirtual 65, 3) := vl_at vq_cX3_dropAll_0 (i := 10) rfl
theorem dX3_dropAll_19 : decode cX3_dropAll 19 = .ok (.istore 4, 2) := vl_at vq_cX3_dropAll_0 (i := 11) rfl
theorem dX3_dropAll_21 : decode cX3_dropAll 21 = .ok (.iconst 0, 1) := vl_at vq_cX3_dropAll_0 (i := 12) rfl
theorem dX3_dropAll_22 : decode cX3_dropAll 22 = .ok (.istore 5, 2) := vl_at vq_cX3_dropAll_0 (i := 13) rfl
theorem dX3_dropAll_24 : decode cX3_dropAll 24 = .ok (.iconst 0, 1) := vl_at vq_cX3_dropAll_0 (i := 14) rfl
theorem dX3_dropAll_25 : decode cX3_dropAll 25 = .ok (.istore 6, 2) := vl_at vq_cX3_dropAll_0 (i := 15) rfl
theorem dX3_dropAll_27 : decode cX3_dropAll 27 = .ok (.iload 6, 2) := vl_at vq_cX3_dropAll_0 (i := 16) rfl
theorem dX3_dropAll_29 : decode cX3_dropAll 29 = .ok (.iload 4, 2) := vl_at vq_cX3_dropAll_0 (i := 17) rfl
theorem dX3_dropAll_31 : decode cX3_dropAll 31 = .ok (.if_icmp .ge 39, 3) := vl_at vq_cX3_dropAll_0 (i := 18) rfl
theorem dX3_dropAll_34 : decode cX3_dropAll 34 = .ok (.iload 6, 2) := vl_at vq_cX3_dropAll_0 (i := 19) rfl
theorem dX3_dropAll_36 : decode cX3_dropAll 36 = .ok (.iload 5, 2) := vl_at vq_cX3_dropAll_0 (i := 20) rfl
theorem dX3_dropAll_38 : decode cX3_dropAll 38 = .ok (.isub, 1) := vl_at vq_cX3_dropAll_0 (i := 21) rfl
theorem dX3_dropAll_39 : decode cX3_dropAll 39 = .ok (.istore 7, 2) := vl_at vq_cX3_dropAll_0 (i := 22) rfl
theorem dX3_dropAll_41 : decode cX3_dropAll 41 = .ok (.aload_n 3, 1) := vl_at vq_cX3_dropAll_0 (i := 23) rfl
theorem dX3_dropAll_42 : decode cX3_dropAll 42 = .ok (.iload 7, 2) := vl_at vq_cX3_dropAll_0 (i := 24) rfl
theorem dX3_dropAll_44 : decode cX3_dropAll 44 = .ok (.invokevirtual 144, 3) := vl_at vq_cX3_dropAll_0 (i := 25) rfl
theorem dX3_dropAll_47 : decode cX3_dropAll 47 = .ok (.invokestatic 147, 3) := vl_at vq_cX3_dropAll_0 (i := 26) rfl
theorem dX3_dropAll_50 : decode cX3_dropAll 50 = .ok (.iload_n 2, 1) := vl_at vq_cX3_dropAll_0 (i := 27) rfl
theorem dX3_dropAll_51 : decode cX3_dropAll 51 = .ok (.if_icmp .ne 13, 3) := vl_at vq_cX3_dropAll_0 (i := 28) rfl
theorem dX3_dropAll_54 : decode cX3_dropAll 54 = .ok (.aload_n 3, 1) := vl_at vq_cX3_dropAll_0 (i := 29) rfl
theorem dX3_dropAll_55 : decode cX3_dropAll 55 = .ok (.iload 7, 2) := vl_at vq_cX3_dropAll_0 (i := 30) rfl
theorem dX3_dropAll_57 : decode cX3_dropAll 57 = .ok (.invokevirtual 113, 3) := vl_at vq_cX3_dropAll_0 (i := 31) rfl
theorem dX3_dropAll_60 : decode cX3_dropAll 60 = .ok (.pop, 1) := vl_at vq_cX3_dropAll_0 (i := 32) rfl
theorem dX3_dropAll_61 : decode cX3_dropAll 61 = .ok (.iinc 5 1, 3) := vl_at vq_cX3_dropAll_0 (i := 33) rfl
theorem dX3_dropAll_64 : decode cX3_dropAll 64 = .ok (.iinc 6 1, 3) := vl_at vq_cX3_dropAll_0 (i := 34) rfl
theorem dX3_dropAll_67 : decode cX3_dropAll 67 = .ok (.goto (-40), 3) := vl_at vq_cX3_dropAll_0 (i := 35) rfl
theorem dX3_dropAll_70 : decode cX3_dropAll 70 = .ok (.aload_n 0, 1) := vl_at vq_cX3_dropAll_0 (i := 36) rfl
theorem dX3_dropAll_71 : decode cX3_dropAll 71 = .ok (.iload_n 1, 1) := vl_at vq_cX3_dropAll_0 (i := 37) rfl
theorem dX3_dropAll_72 : decode cX3_dropAll 72 = .ok (.iload 5, 2) := vl_at vq_cX3_dropAll_0 (i := 38) rfl
theorem dX3_dropAll_74 : decode cX3_dropAll 74 = .ok (.invokevirtual 150, 3) := vl_at vq_cX3_dropAll_0 (i := 39) rfl
noncomputable def vl_cX3_dropAll_1 : List (Nat × Instr × Nat) := [(77, .iload 5, 2), (79, .ireturn, 1)]
theorem vq_cX3_dropAll_1 : vl_ok cX3_dropAll vl_cX3_dropAll_1 = true := by decide +kernel
theorem dX3_dropAll_77 : decode cX3_dropAll 77 = .ok (.iload 5, 2) := vl_at vq_cX3_dropAll_1 (i := 0) rfl
theorem dX3_dropAll_79 : decode cX3_dropAll 79 = .ok (.ireturn, 1) := vl_at vq_cX3_dropAll_1 (i := 1) rfl
noncomputable def vl_cX3_shed_0 : List (Nat × Instr × Nat) := [(0, .iload_n 1, 1), (1, .invokestatic 69, 3), (4, .iload_n 3, 1), (5, .iconst 0, 1), (6, .bipush 99, 2), (8, .invokestatic 76, 3), (11, .iload 4, 2), (13, .iconst 1, 1), (14, .bipush 20, 2), (16, .invokestatic 76, 3), (19, .aload_n 0, 1), (20, .iload_n 1, 1), (21, .invokevirtual 61, 3), (24, .astore 5, 2), (26, .aload 5, 2), (28, .invokevirtual 65, 3), (31, .istore 6, 2), (33, .iconst 0, 1), (34, .istore 7, 2), (36, .iconst 0, 1), (37, .istore 8, 2), (39, .iconst 0, 1), (40, .istore 9, 2), (42, .iload 9, 2), (44, .iload 6, 2), (46, .if_icmp .ge 73, 3), (49, .iload 7, 2), (51, .iload 4, 2), (53, .if_icmp .ge 66, 3), (56, .iload_n 2, 1), (57, .ifCond .eq 13, 3), (60, .iload 6, 2), (62, .iconst 1, 1), (63, .isub, 1), (64, .iload 9, 2), (66, .isub, 1), (67, .goto 8, 3), (70, .iload 9, 2), (72, .iload 7, 2), (74, .isub, 1)]
theorem vq_cX3_shed_0 : vl_ok cX3_shed vl_cX3_shed_0 = true := by decide +kernel
theorem dX3_shed_0 : decode cX3_shed 0 = .ok (.iload_n 1, 1) := vl_at vq_cX3_shed_0 (i := 0) rfl
theorem dX3_shed_1 : decode cX3_shed 1 = .ok (.invokestatic 69, 3) := vl_at vq_cX3_shed_0 (i := 1) rfl
theorem dX3_shed_4 : decode cX3_shed 4 = .ok (.iload_n 3, 1) := vl_at vq_cX3_shed_0 (i := 2) rfl
theorem dX3_shed_5 : decode cX3_shed 5 = .ok (.iconst 0, 1) := vl_at vq_cX3_shed_0 (i := 3) rfl
theorem dX3_shed_6 : decode cX3_shed 6 = .ok (.bipush 99, 2) := vl_at vq_cX3_shed_0 (i := 4) rfl
theorem dX3_shed_8 : decode cX3_shed 8 = .ok (.invokestatic 76, 3) := vl_at vq_cX3_shed_0 (i := 5) rfl
theorem dX3_shed_11 : decode cX3_shed 11 = .ok (.iload 4, 2) := vl_at vq_cX3_shed_0 (i := 6) rfl
theorem dX3_shed_13 : decode cX3_shed 13 = .ok (.iconst 1, 1) := vl_at vq_cX3_shed_0 (i := 7) rfl
theorem dX3_shed_14 : decode cX3_shed 14 = .ok (.bipush 20, 2) := vl_at vq_cX3_shed_0 (i := 8) rfl
theorem dX3_shed_16 : decode cX3_shed 16 = .ok (.invokestatic 76, 3) := vl_at vq_cX3_shed_0 (i := 9) rfl
theorem dX3_shed_19 : decode cX3_shed 19 = .ok (.aload_n 0, 1) := vl_at vq_cX3_shed_0 (i := 10) rfl
theorem dX3_shed_20 : decode cX3_shed 20 = .ok (.iload_n 1, 1) := vl_at vq_cX3_shed_0 (i := 11) rfl
theorem dX3_shed_21 : decode cX3_shed 21 = .ok (.invokevirtual 61, 3) := vl_at vq_cX3_shed_0 (i := 12) rfl
theorem dX3_shed_24 : decode cX3_shed 24 = .ok (.astore 5, 2) := vl_at vq_cX3_shed_0 (i := 13) rfl
theorem dX3_shed_26 : decode cX3_shed 26 = .ok (.aload 5, 2) := vl_at vq_cX3_shed_0 (i := 14) rfl
theorem dX3_shed_28 : decode cX3_shed 28 = .ok (.invokevirtual 65, 3) := vl_at vq_cX3_shed_0 (i := 15) rfl
theorem dX3_shed_31 : decode cX3_shed 31 = .ok (.istore 6, 2) := vl_at vq_cX3_shed_0 (i := 16) rfl
theorem dX3_shed_33 : decode cX3_shed 33 = .ok (.iconst 0, 1) := vl_at vq_cX3_shed_0 (i := 17) rfl
theorem dX3_shed_34 : decode cX3_shed 34 = .ok (.istore 7, 2) := vl_at vq_cX3_shed_0 (i := 18) rfl
theorem dX3_shed_36 : decode cX3_shed 36 = .ok (.iconst 0, 1) := vl_at vq_cX3_shed_0 (i := 19) rfl
theorem dX3_shed_37 : decode cX3_shed 37 = .ok (.istore 8, 2) := vl_at vq_cX3_shed_0 (i := 20) rfl
theorem dX3_shed_39 : decode cX3_shed 39 = .ok (.iconst 0, 1) := vl_at vq_cX3_shed_0 (i := 21) rfl
theorem dX3_shed_40 : decode cX3_shed 40 = .ok (.istore 9, 2) := vl_at vq_cX3_shed_0 (i := 22) rfl
theorem dX3_shed_42 : decode cX3_shed 42 = .ok (.iload 9, 2) := vl_at vq_cX3_shed_0 (i := 23) rfl
theorem dX3_shed_44 : decode cX3_shed 44 = .ok (.iload 6, 2) := vl_at vq_cX3_shed_0 (i := 24) rfl
theorem dX3_shed_46 : decode cX3_shed 46 = .ok (.if_icmp .ge 73, 3) := vl_at vq_cX3_shed_0 (i := 25) rfl
theorem dX3_shed_49 : decode cX3_shed 49 = .ok (.iload 7, 2) := vl_at vq_cX3_shed_0 (i := 26) rfl
theorem dX3_shed_51 : decode cX3_shed 51 = .ok (.iload 4, 2) := vl_at vq_cX3_shed_0 (i := 27) rfl
theorem dX3_shed_53 : decode cX3_shed 53 = .ok (.if_icmp .ge 66, 3) := vl_at vq_cX3_shed_0 (i := 28) rfl
theorem dX3_shed_56 : decode cX3_shed 56 = .ok (.iload_n 2, 1) := vl_at vq_cX3_shed_0 (i := 29) rfl
theorem dX3_shed_57 : decode cX3_shed 57 = .ok (.ifCond .eq 13, 3) := vl_at vq_cX3_shed_0 (i := 30) rfl
theorem dX3_shed_60 : decode cX3_shed 60 = .ok (.iload 6, 2) := vl_at vq_cX3_shed_0 (i := 31) rfl
theorem dX3_shed_62 : decode cX3_shed 62 = .ok (.iconst 1, 1) := vl_at vq_cX3_shed_0 (i := 32) rfl
theorem dX3_shed_63 : decode cX3_shed 63 = .ok (.isub, 1) := vl_at vq_cX3_shed_0 (i := 33) rfl
theorem dX3_shed_64 : decode cX3_shed 64 = .ok (.iload 9, 2) := vl_at vq_cX3_shed_0 (i := 34) rfl
theorem dX3_shed_66 : decode cX3_shed 66 = .ok (.isub, 1) := vl_at vq_cX3_shed_0 (i := 35) rfl
theorem dX3_shed_67 : decode cX3_shed 67 = .ok (.goto 8, 3) := vl_at vq_cX3_shed_0 (i := 36) rfl
theorem dX3_shed_70 : decode cX3_shed 70 = .ok (.iload 9, 2) := vl_at vq_cX3_shed_0 (i := 37) rfl
theorem dX3_shed_72 : decode cX3_shed 72 = .ok (.iload 7, 2) := vl_at vq_cX3_shed_0 (i := 38) rfl
theorem dX3_shed_74 : decode cX3_shed 74 = .ok (.isub, 1) := vl_at vq_cX3_shed_0 (i := 39) rfl
noncomputable def vl_cX3_shed_1 : List (Nat × Instr × Nat) := [(75, .istore 10, 2), (77, .aload 5, 2), (79, .iload 10, 2), (81, .invokevirtual 144, 3), (84, .invokestatic 153, 3), (87, .istore 11, 2), (89, .iload 11, 2), (91, .iload_n 3, 1), (92, .if_icmp .lt 21, 3), (95, .aload 5, 2), (97, .iload 10, 2), (99, .invokevirtual 113, 3), (102, .pop, 1), (103, .iinc 7 1, 3), (106, .iload 8, 2), (108, .iload 11, 2), (110, .iadd, 1), (111, .istore 8, 2), (113, .iinc 9 1, 3), (116, .goto (-74), 3), (119, .aload_n 0, 1), (120, .iload_n 1, 1), (121, .iload 7, 2), (123, .invokevirtual 150, 3), (126, .iload 8, 2), (128, .ireturn, 1)]
theorem vq_cX3_shed_1 : vl_ok cX3_shed vl_cX3_shed_1 = true := by decide +kernel
theorem dX3_shed_75 : decode cX3_shed 75 = .ok (.istore 10, 2) := vl_at vq_cX3_shed_1 (i := 0) rfl
theorem dX3_shed_77 : decode cX3_shed 77 = .ok (.aload 5, 2) := vl_at vq_cX3_shed_1 (i := 1) rfl
theorem dX3_shed_79 : decode cX3_shed 79 = .ok (.iload 10, 2) := vl_at vq_cX3_shed_1 (i := 2) rfl
theorem dX3_shed_81 : decode cX3_shed 81 = .ok (.invokevirtual 144, 3) := vl_at vq_cX3_shed_1 (i := 3) rfl
theorem dX3_shed_84 : decode cX3_shed 84 = .ok (.invokestatic 153, 3) := vl_at vq_cX3_shed_1 (i := 4) rfl
theorem dX3_shed_87 : decode cX3_shed 87 = .ok (.istore 11, 2) := vl_at vq_cX3_shed_1 (i := 5) rfl
theorem dX3_shed_89 : decode cX3_shed 89 = .ok (.iload 11, 2) := vl_at vq_cX3_shed_1 (i := 6) rfl
theorem dX3_shed_91 : decode cX3_shed 91 = .ok (.iload_n 3, 1) := vl_at vq_cX3_shed_1 (i := 7) rfl
theorem dX3_shed_92 : decode cX3_shed 92 = .ok (.if_icmp .lt 21, 3) := vl_at vq_cX3_shed_1 (i := 8) rfl
theorem dX3_shed_95 : decode cX3_shed 95 = .ok (.aload 5, 2) := vl_at vq_cX3_shed_1 (i := 9) rfl
theorem dX3_shed_97 : decode cX3_shed 97 = .ok (.iload 10, 2) := vl_at vq_cX3_shed_1 (i := 10) rfl
theorem dX3_shed_99 : decode cX3_shed 99 = .ok (.invokevirtual 113, 3) := vl_at vq_cX3_shed_1 (i := 11) rfl
theorem dX3_shed_102 : decode cX3_shed 102 = .ok (.pop, 1) := vl_at vq_cX3_shed_1 (i := 12) rfl
theorem dX3_shed_103 : decode cX3_shed 103 = .ok (.iinc 7 1, 3) := vl_at vq_cX3_shed_1 (i := 13) rfl
theorem dX3_shed_106 : decode cX3_shed 106 = .ok (.iload 8, 2) := vl_at vq_cX3_shed_1 (i := 14) rfl
theorem dX3_shed_108 : decode cX3_shed 108 = .ok (.iload 11, 2) := vl_at vq_cX3_shed_1 (i := 15) rfl
theorem dX3_shed_110 : decode cX3_shed 110 = .ok (.iadd, 1) := vl_at vq_cX3_shed_1 (i := 16) rfl
theorem dX3_shed_111 : decode cX3_shed 111 = .ok (.istore 8, 2) := vl_at vq_cX3_shed_1 (i := 17) rfl
theorem dX3_shed_113 : decode cX3_shed 113 = .ok (.iinc 9 1, 3) := vl_at vq_cX3_shed_1 (i := 18) rfl
theorem dX3_shed_116 : decode cX3_shed 116 = .ok (.goto (-74), 3) := vl_at vq_cX3_shed_1 (i := 19) rfl
theorem dX3_shed_119 : decode cX3_shed 119 = .ok (.aload_n 0, 1) := vl_at vq_cX3_shed_1 (i := 20) rfl
theorem dX3_shed_120 : decode cX3_shed 120 = .ok (.iload_n 1, 1) := vl_at vq_cX3_shed_1 (i := 21) rfl
theorem dX3_shed_121 : decode cX3_shed 121 = .ok (.iload 7, 2) := vl_at vq_cX3_shed_1 (i := 22) rfl
theorem dX3_shed_123 : decode cX3_shed 123 = .ok (.invokevirtual 150, 3) := vl_at vq_cX3_shed_1 (i := 23) rfl
theorem dX3_shed_126 : decode cX3_shed 126 = .ok (.iload 8, 2) := vl_at vq_cX3_shed_1 (i := 24) rfl
theorem dX3_shed_128 : decode cX3_shed 128 = .ok (.ireturn, 1) := vl_at vq_cX3_shed_1 (i := 25) rfl
noncomputable def vl_cX3_thin_0 : List (Nat × Instr × Nat) := [(0, .iload_n 1, 1), (1, .invokestatic 69, 3), (4, .iload_n 3, 1), (5, .iconst 2, 1), (6, .iconst 5, 1), (7, .invokestatic 76, 3), (10, .aload_n 0, 1), (11, .iload_n 1, 1), (12, .invokevirtual 61, 3), (15, .astore 4, 2), (17, .aload 4, 2), (19, .invokevirtual 65, 3), (22, .istore 5, 2), (24, .iconst 0, 1), (25, .istore 6, 2), (27, .iload_n 3, 1), (28, .istore 7, 2), (30, .iconst 0, 1), (31, .istore 8, 2), (33, .iload 8, 2), (35, .iload 5, 2), (37, .if_icmp .ge 48, 3), (40, .iinc 7 (-1), 3), (43, .iload 7, 2), (45, .ifCond .ne 34, 3), (48, .aload 4, 2), (50, .iload_n 2, 1), (51, .ifCond .eq 13, 3), (54, .iload 5, 2), (56, .iconst 1, 1), (57, .isub, 1), (58, .iload 8, 2), (60, .isub, 1), (61, .goto 8, 3), (64, .iload 8, 2), (66, .iload 6, 2), (68, .isub, 1), (69, .invokevirtual 113, 3), (72, .pop, 1), (73, .iinc 6 1, 3)]
theorem vq_cX3_thin_0 : vl_ok cX3_thin vl_cX3_thin_0 = true := by decide +kernel
theorem dX3_thin_0 : decode cX3_thin 0 = .ok (.iload_n 1, 1) := vl_at vq_cX3_thin_0 (i := 0) rfl
theorem dX3_thin_1 : decode cX3_thin 1 = .ok (.invokestatic 69, 3) := vl_at vq_cX3_thin_0 (i := 1) rfl
theorem dX3_thin_4 : decode cX3_thin 4 = .ok (.iload_n 3, 1) := vl_at vq_cX3_thin_0 (i := 2) rfl
theorem dX3_thin_5 : decode cX3_thin 5 = .ok (.iconst 2, 1) := vl_at vq_cX3_thin_0 (i := 3) rfl
theorem dX3_thin_6 : decode cX3_thin 6 = .ok (.iconst 5, 1) := vl_at vq_cX3_thin_0 (i := 4) rfl
theorem dX3_thin_7 : decode cX3_thin 7 = .ok (.invokestatic 76, 3) := vl_at vq_cX3_thin_0 (i := 5) rfl
theorem dX3_thin_10 : decode cX3_thin 10 = .ok (.aload_n 0, 1) := vl_at vq_cX3_thin_0 (i := 6) rfl
theorem dX3_thin_11 : decode cX3_thin 11 = .ok (.iload_n 1, 1) := vl_at vq_cX3_thin_0 (i := 7) rfl
theorem dX3_thin_12 : decode cX3_thin 12 = .ok (.invokevirtual 61, 3) := vl_at vq_cX3_thin_0 (i := 8) rfl
theorem dX3_thin_15 : decode cX3_thin 15 = .ok (.astore 4, 2) := vl_at vq_cX3_thin_0 (i := 9) rfl
theorem dX3_thin_17 : decode cX3_thin 17 = .ok (.aload 4, 2) := vl_at vq_cX3_thin_0 (i := 10) rfl
theorem dX3_thin_19 : decode cX3_thin 19 = .ok (.invokevirtual 65, 3) := vl_at vq_cX3_thin_0 (i := 11) rfl
theorem dX3_thin_22 : decode cX3_thin 22 = .ok (.istore 5, 2) := vl_at vq_cX3_thin_0 (i := 12) rfl
theorem dX3_thin_24 : decode cX3_thin 24 = .ok (.iconst 0, 1) := vl_at vq_cX3_thin_0 (i := 13) rfl
theorem dX3_thin_25 : decode cX3_thin 25 = .ok (.istore 6, 2) := vl_at vq_cX3_thin_0 (i := 14) rfl
theorem dX3_thin_27 : decode cX3_thin 27 = .ok (.iload_n 3, 1) := vl_at vq_cX3_thin_0 (i := 15) rfl
theorem dX3_thin_28 : decode cX3_thin 28 = .ok (.istore 7, 2) := vl_at vq_cX3_thin_0 (i := 16) rfl
theorem dX3_thin_30 : decode cX3_thin 30 = .ok (.iconst 0, 1) := vl_at vq_cX3_thin_0 (i := 17) rfl
theorem dX3_thin_31 : decode cX3_thin 31 = .ok (.istore 8, 2) := vl_at vq_cX3_thin_0 (i := 18) rfl
theorem dX3_thin_33 : decode cX3_thin 33 = .ok (.iload 8, 2) := vl_at vq_cX3_thin_0 (i := 19) rfl
theorem dX3_thin_35 : decode cX3_thin 35 = .ok (.iload 5, 2) := vl_at vq_cX3_thin_0 (i := 20) rfl
theorem dX3_thin_37 : decode cX3_thin 37 = .ok (.if_icmp .ge 48, 3) := vl_at vq_cX3_thin_0 (i := 21) rfl
theorem dX3_thin_40 : decode cX3_thin 40 = .ok (.iinc 7 (-1), 3) := vl_at vq_cX3_thin_0 (i := 22) rfl
theorem dX3_thin_43 : decode cX3_thin 43 = .ok (.iload 7, 2) := vl_at vq_cX3_thin_0 (i := 23) rfl
theorem dX3_thin_45 : decode cX3_thin 45 = .ok (.ifCond .ne 34, 3) := vl_at vq_cX3_thin_0 (i := 24) rfl
theorem dX3_thin_48 : decode cX3_thin 48 = .ok (.aload 4, 2) := vl_at vq_cX3_thin_0 (i := 25) rfl
theorem dX3_thin_50 : decode cX3_thin 50 = .ok (.iload_n 2, 1) := vl_at vq_cX3_thin_0 (i := 26) rfl
theorem dX3_thin_51 : decode cX3_thin 51 = .ok (.ifCond .eq 13, 3) := vl_at vq_cX3_thin_0 (i := 27) rfl
theorem dX3_thin_54 : decode cX3_thin 54 = .ok (.iload 5, 2) := vl_at vq_cX3_thin_0 (i := 28) rfl
theorem dX3_thin_56 : decode cX3_thin 56 = .ok (.iconst 1, 1) := vl_at vq_cX3_thin_0 (i := 29) rfl
theorem dX3_thin_57 : decode cX3_thin 57 = .ok (.isub, 1) := vl_at vq_cX3_thin_0 (i := 30) rfl
theorem dX3_thin_58 : decode cX3_thin 58 = .ok (.iload 8, 2) := vl_at vq_cX3_thin_0 (i := 31) rfl
theorem dX3_thin_60 : decode cX3_thin 60 = .ok (.isub, 1) := vl_at vq_cX3_thin_0 (i := 32) rfl
theorem dX3_thin_61 : decode cX3_thin 61 = .ok (.goto 8, 3) := vl_at vq_cX3_thin_0 (i := 33) rfl
theorem dX3_thin_64 : decode cX3_thin 64 = .ok (.iload 8, 2) := vl_at vq_cX3_thin_0 (i := 34) rfl
theorem dX3_thin_66 : decode cX3_thin 66 = .ok (.iload 6, 2) := vl_at vq_cX3_thin_0 (i := 35) rfl
theorem dX3_thin_68 : decode cX3_thin 68 = .ok (.isub, 1) := vl_at vq_cX3_thin_0 (i := 36) rfl
theorem dX3_thin_69 : decode cX3_thin 69 = .ok (.invokevirtual 113, 3) := vl_at vq_cX3_thin_0 (i := 37) rfl
theorem dX3_thin_72 : decode cX3_thin 72 = .ok (.pop, 1) := vl_at vq_cX3_thin_0 (i := 38) rfl
theorem dX3_thin_73 : decode cX3_thin 73 = .ok (.iinc 6 1, 3) := vl_at vq_cX3_thin_0 (i := 39) rfl
noncomputable def vl_cX3_thin_1 : List (Nat × Instr × Nat) := [(76, .iload_n 3, 1), (77, .istore 7, 2), (79, .iinc 8 1, 3), (82, .goto (-49), 3), (85, .aload_n 0, 1), (86, .iload_n 1, 1), (87, .iload 6, 2), (89, .invokevirtual 150, 3), (92, .iload 6, 2), (94, .ireturn, 1)]
theorem vq_cX3_thin_1 : vl_ok cX3_thin vl_cX3_thin_1 = true := by decide +kernel
theorem dX3_thin_76 : decode cX3_thin 76 = .ok (.iload_n 3, 1) := vl_at vq_cX3_thin_1 (i := 0) rfl
theorem dX3_thin_77 : decode cX3_thin 77 = .ok (.istore 7, 2) := vl_at vq_cX3_thin_1 (i := 1) rfl
theorem dX3_thin_79 : decode cX3_thin 79 = .ok (.iinc 8 1, 3) := vl_at vq_cX3_thin_1 (i := 2) rfl
theorem dX3_thin_82 : decode cX3_thin 82 = .ok (.goto (-49), 3) := vl_at vq_cX3_thin_1 (i := 3) rfl
theorem dX3_thin_85 : decode cX3_thin 85 = .ok (.aload_n 0, 1) := vl_at vq_cX3_thin_1 (i := 4) rfl
theorem dX3_thin_86 : decode cX3_thin 86 = .ok (.iload_n 1, 1) := vl_at vq_cX3_thin_1 (i := 5) rfl
theorem dX3_thin_87 : decode cX3_thin 87 = .ok (.iload 6, 2) := vl_at vq_cX3_thin_1 (i := 6) rfl
theorem dX3_thin_89 : decode cX3_thin 89 = .ok (.invokevirtual 150, 3) := vl_at vq_cX3_thin_1 (i := 7) rfl
theorem dX3_thin_92 : decode cX3_thin 92 = .ok (.iload 6, 2) := vl_at vq_cX3_thin_1 (i := 8) rfl
theorem dX3_thin_94 : decode cX3_thin 94 = .ok (.ireturn, 1) := vl_at vq_cX3_thin_1 (i := 9) rfl
noncomputable def vl_cX3_turn_0 : List (Nat × Instr × Nat) := [(0, .iload_n 1, 1), (1, .invokestatic 69, 3), (4, .aload_n 0, 1), (5, .iload_n 1, 1), (6, .invokevirtual 61, 3), (9, .astore_n 2, 1), (10, .iconst 0, 1), (11, .istore_n 3, 1), (12, .aload_n 2, 1), (13, .invokevirtual 65, 3), (16, .iconst 1, 1), (17, .isub, 1), (18, .istore 4, 2), (20, .iload_n 3, 1), (21, .iload 4, 2), (23, .if_icmp .ge 38, 3), (26, .aload_n 2, 1), (27, .iload_n 3, 1), (28, .invokevirtual 144, 3), (31, .istore 5, 2), (33, .aload_n 2, 1), (34, .iload_n 3, 1), (35, .aload_n 2, 1), (36, .iload 4, 2), (38, .invokevirtual 144, 3), (41, .invokevirtual 156, 3), (44, .aload_n 2, 1), (45, .iload 4, 2), (47, .iload 5, 2), (49, .invokevirtual 156, 3), (52, .iinc 3 1, 3), (55, .iinc 4 (-1), 3), (58, .goto (-38), 3), (61, .aload_n 0, 1), (62, .iload_n 1, 1), (63, .aload_n 2, 1), (64, .invokevirtual 65, 3), (67, .invokevirtual 150, 3), (70, .aload_n 0, 1), (71, .iload_n 1, 1)]
theorem vq_cX3_turn_0 : vl_ok cX3_turn vl_cX3_turn_0 = true := by decide +kernel
theorem dX3_turn_0 : decode cX3_turn 0 = .ok (.iload_n 1, 1) := vl_at vq_cX3_turn_0 (i := 0) rfl
theorem dX3_turn_1 : decode cX3_turn 1 = .ok (.invokestatic 69, 3) := vl_at vq_cX3_turn_0 (i := 1) rfl
theorem dX3_turn_4 : decode cX3_turn 4 = .ok (.aload_n 0, 1) := vl_at vq_cX3_turn_0 (i := 2) rfl
theorem dX3_turn_5 : decode cX3_turn 5 = .ok (.iload_n 1, 1) := vl_at vq_cX3_turn_0 (i := 3) rfl
theorem dX3_turn_6 : decode cX3_turn 6 = .ok (.invokevirtual 61, 3) := vl_at vq_cX3_turn_0 (i := 4) rfl
theorem dX3_turn_9 : decode cX3_turn 9 = .ok (.astore_n 2, 1) := vl_at vq_cX3_turn_0 (i := 5) rfl
theorem dX3_turn_10 : decode cX3_turn 10 = .ok (.iconst 0, 1) := vl_at vq_cX3_turn_0 (i := 6) rfl
theorem dX3_turn_11 : decode cX3_turn 11 = .ok (.istore_n 3, 1) := vl_at vq_cX3_turn_0 (i := 7) rfl
theorem dX3_turn_12 : decode cX3_turn 12 = .ok (.aload_n 2, 1) := vl_at vq_cX3_turn_0 (i := 8) rfl
theorem dX3_turn_13 : decode cX3_turn 13 = .ok (.invokevirtual 65, 3) := vl_at vq_cX3_turn_0 (i := 9) rfl
theorem dX3_turn_16 : decode cX3_turn 16 = .ok (.iconst 1, 1) := vl_at vq_cX3_turn_0 (i := 10) rfl
theorem dX3_turn_17 : decode cX3_turn 17 = .ok (.isub, 1) := vl_at vq_cX3_turn_0 (i := 11) rfl
theorem dX3_turn_18 : decode cX3_turn 18 = .ok (.istore 4, 2) := vl_at vq_cX3_turn_0 (i := 12) rfl
theorem dX3_turn_20 : decode cX3_turn 20 = .ok (.iload_n 3, 1) := vl_at vq_cX3_turn_0 (i := 13) rfl
theorem dX3_turn_21 : decode cX3_turn 21 = .ok (.iload 4, 2) := vl_at vq_cX3_turn_0 (i := 14) rfl
theorem dX3_turn_23 : decode cX3_turn 23 = .ok (.if_icmp .ge 38, 3) := vl_at vq_cX3_turn_0 (i := 15) rfl
theorem dX3_turn_26 : decode cX3_turn 26 = .ok (.aload_n 2, 1) := vl_at vq_cX3_turn_0 (i := 16) rfl
theorem dX3_turn_27 : decode cX3_turn 27 = .ok (.iload_n 3, 1) := vl_at vq_cX3_turn_0 (i := 17) rfl
theorem dX3_turn_28 : decode cX3_turn 28 = .ok (.invokevirtual 144, 3) := vl_at vq_cX3_turn_0 (i := 18) rfl
theorem dX3_turn_31 : decode cX3_turn 31 = .ok (.istore 5, 2) := vl_at vq_cX3_turn_0 (i := 19) rfl
theorem dX3_turn_33 : decode cX3_turn 33 = .ok (.aload_n 2, 1) := vl_at vq_cX3_turn_0 (i := 20) rfl
theorem dX3_turn_34 : decode cX3_turn 34 = .ok (.iload_n 3, 1) := vl_at vq_cX3_turn_0 (i := 21) rfl
theorem dX3_turn_35 : decode cX3_turn 35 = .ok (.aload_n 2, 1) := vl_at vq_cX3_turn_0 (i := 22) rfl
theorem dX3_turn_36 : decode cX3_turn 36 = .ok (.iload 4, 2) := vl_at vq_cX3_turn_0 (i := 23) rfl
theorem dX3_turn_38 : decode cX3_turn 38 = .ok (.invokevirtual 144, 3) := vl_at vq_cX3_turn_0 (i := 24) rfl
theorem dX3_turn_41 : decode cX3_turn 41 = .ok (.invokevirtual 156, 3) := vl_at vq_cX3_turn_0 (i := 25) rfl
theorem dX3_turn_44 : decode cX3_turn 44 = .ok (.aload_n 2, 1) := vl_at vq_cX3_turn_0 (i := 26) rfl
theorem dX3_turn_45 : decode cX3_turn 45 = .ok (.iload 4, 2) := vl_at vq_cX3_turn_0 (i := 27) rfl
theorem dX3_turn_47 : decode cX3_turn 47 = .ok (.iload 5, 2) := vl_at vq_cX3_turn_0 (i := 28) rfl
theorem dX3_turn_49 : decode cX3_turn 49 = .ok (.invokevirtual 156, 3) := vl_at vq_cX3_turn_0 (i := 29) rfl
theorem dX3_turn_52 : decode cX3_turn 52 = .ok (.iinc 3 1, 3) := vl_at vq_cX3_turn_0 (i := 30) rfl
theorem dX3_turn_55 : decode cX3_turn 55 = .ok (.iinc 4 (-1), 3) := vl_at vq_cX3_turn_0 (i := 31) rfl
theorem dX3_turn_58 : decode cX3_turn 58 = .ok (.goto (-38), 3) := vl_at vq_cX3_turn_0 (i := 32) rfl
theorem dX3_turn_61 : decode cX3_turn 61 = .ok (.aload_n 0, 1) := vl_at vq_cX3_turn_0 (i := 33) rfl
theorem dX3_turn_62 : decode cX3_turn 62 = .ok (.iload_n 1, 1) := vl_at vq_cX3_turn_0 (i := 34) rfl
theorem dX3_turn_63 : decode cX3_turn 63 = .ok (.aload_n 2, 1) := vl_at vq_cX3_turn_0 (i := 35) rfl
theorem dX3_turn_64 : decode cX3_turn 64 = .ok (.invokevirtual 65, 3) := vl_at vq_cX3_turn_0 (i := 36) rfl
theorem dX3_turn_67 : decode cX3_turn 67 = .ok (.invokevirtual 150, 3) := vl_at vq_cX3_turn_0 (i := 37) rfl
theorem dX3_turn_70 : decode cX3_turn 70 = .ok (.aload_n 0, 1) := vl_at vq_cX3_turn_0 (i := 38) rfl
theorem dX3_turn_71 : decode cX3_turn 71 = .ok (.iload_n 1, 1) := vl_at vq_cX3_turn_0 (i := 39) rfl
noncomputable def vl_cX3_turn_1 : List (Nat × Instr × Nat) := [(72, .iconst 0, 1), (73, .invokevirtual 72, 3), (76, .ireturn, 1)]
theorem vq_cX3_turn_1 : vl_ok cX3_turn vl_cX3_turn_1 = true := by decide +kernel
theorem dX3_turn_72 : decode cX3_turn 72 = .ok (.iconst 0, 1) := vl_at vq_cX3_turn_1 (i := 0) rfl
theorem dX3_turn_73 : decode cX3_turn 73 = .ok (.invokevirtual 72, 3) := vl_at vq_cX3_turn_1 (i := 1) rfl
theorem dX3_turn_76 : decode cX3_turn 76 = .ok (.ireturn, 1) := vl_at vq_cX3_turn_1 (i := 2) rfl
noncomputable def vl_cX3_clear_0 : List (Nat × Instr × Nat) := [(0, .iload_n 1, 1), (1, .invokestatic 69, 3), (4, .aload_n 0, 1), (5, .iload_n 1, 1), (6, .invokevirtual 61, 3), (9, .astore_n 2, 1), (10, .aload_n 2, 1), (11, .invokevirtual 65, 3), (14, .istore_n 3, 1), (15, .aload_n 2, 1), (16, .invokevirtual 159, 3), (19, .aload_n 0, 1), (20, .iload_n 1, 1), (21, .iload_n 3, 1), (22, .invokevirtual 150, 3), (25, .iload_n 3, 1), (26, .ireturn, 1)]
theorem vq_cX3_clear_0 : vl_ok cX3_clear vl_cX3_clear_0 = true := by decide +kernel
theorem dX3_clear_0 : decode cX3_clear 0 = .ok (.iload_n 1, 1) := vl_at vq_cX3_clear_0 (i := 0) rfl
theorem dX3_clear_1 : decode cX3_clear 1 = .ok (.invokestatic 69, 3) := vl_at vq_cX3_clear_0 (i := 1) rfl
theorem dX3_clear_4 : decode cX3_clear 4 = .ok (.aload_n 0, 1) := vl_at vq_cX3_clear_0 (i := 2) rfl
theorem dX3_clear_5 : decode cX3_clear 5 = .ok (.iload_n 1, 1) := vl_at vq_cX3_clear_0 (i := 3) rfl
theorem dX3_clear_6 : decode cX3_clear 6 = .ok (.invokevirtual 61, 3) := vl_at vq_cX3_clear_0 (i := 4) rfl
theorem dX3_clear_9 : decode cX3_clear 9 = .ok (.astore_n 2, 1) := vl_at vq_cX3_clear_0 (i := 5) rfl
theorem dX3_clear_10 : decode cX3_clear 10 = .ok (.aload_n 2, 1) := vl_at vq_cX3_clear_0 (i := 6) rfl
theorem dX3_clear_11 : decode cX3_clear 11 = .ok (.invokevirtual 65, 3) := vl_at vq_cX3_clear_0 (i := 7) rfl
theorem dX3_clear_14 : decode cX3_clear 14 = .ok (.istore_n 3, 1) := vl_at vq_cX3_clear_0 (i := 8) rfl
theorem dX3_clear_15 : decode cX3_clear 15 = .ok (.aload_n 2, 1) := vl_at vq_cX3_clear_0 (i := 9) rfl
theorem dX3_clear_16 : decode cX3_clear 16 = .ok (.invokevirtual 159, 3) := vl_at vq_cX3_clear_0 (i := 10) rfl
theorem dX3_clear_19 : decode cX3_clear 19 = .ok (.aload_n 0, 1) := vl_at vq_cX3_clear_0 (i := 11) rfl
theorem dX3_clear_20 : decode cX3_clear 20 = .ok (.iload_n 1, 1) := vl_at vq_cX3_clear_0 (i := 12) rfl
theorem dX3_clear_21 : decode cX3_clear 21 = .ok (.iload_n 3, 1) := vl_at vq_cX3_clear_0 (i := 13) rfl
theorem dX3_clear_22 : decode cX3_clear 22 = .ok (.invokevirtual 150, 3) := vl_at vq_cX3_clear_0 (i := 14) rfl
theorem dX3_clear_25 : decode cX3_clear 25 = .ok (.iload_n 3, 1) := vl_at vq_cX3_clear_0 (i := 15) rfl
theorem dX3_clear_26 : decode cX3_clear 26 = .ok (.ireturn, 1) := vl_at vq_cX3_clear_0 (i := 16) rfl
noncomputable def vl_cX3_purge_0 : List (Nat × Instr × Nat) := [(0, .aload_n 0, 1), (1, .getfield 18, 3), (4, .invokevirtual 65, 3), (7, .istore_n 2, 1), (8, .iconst 0, 1), (9, .istore_n 3, 1), (10, .iconst 0, 1), (11, .istore 4, 2), (13, .iload 4, 2), (15, .iload_n 2, 1), (16, .if_icmp .ge 48, 3), (19, .iload 4, 2), (21, .iload_n 3, 1), (22, .isub, 1), (23, .istore 5, 2), (25, .aload_n 0, 1), (26, .getfield 14, 3), (29, .aload_n 0, 1), (30, .getfield 18, 3), (33, .iload 5, 2), (35, .invokevirtual 144, 3), (38, .invokestatic 162, 3), (41, .iload_n 1, 1), (42, .if_icmp .eq 16, 3), (45, .aload_n 0, 1), (46, .getfield 18, 3), (49, .iload 5, 2), (51, .invokevirtual 113, 3), (54, .pop, 1), (55, .iinc 3 1, 3), (58, .iinc 4 1, 3), (61, .goto (-48), 3), (64, .aload_n 0, 1), (65, .iconst 1, 1), (66, .iload_n 3, 1), (67, .invokevirtual 150, 3), (70, .iload_n 3, 1), (71, .ireturn, 1)]
theorem vq_cX3_purge_0 : vl_ok cX3_purge vl_cX3_purge_0 = true := by decide +kernel
theorem dX3_purge_0 : decode cX3_purge 0 = .ok (.aload_n 0, 1) := vl_at vq_cX3_purge_0 (i := 0) rfl
theorem dX3_purge_1 : decode cX3_purge 1 = .ok (.getfield 18, 3) := vl_at vq_cX3_purge_0 (i := 1) rfl
theorem dX3_purge_4 : decode cX3_purge 4 = .ok (.invokevirtual 65, 3) := vl_at vq_cX3_purge_0 (i := 2) rfl
theorem dX3_purge_7 : decode cX3_purge 7 = .ok (.istore_n 2, 1) := vl_at vq_cX3_purge_0 (i := 3) rfl
theorem dX3_purge_8 : decode cX3_purge 8 = .ok (.iconst 0, 1) := vl_at vq_cX3_purge_0 (i := 4) rfl
theorem dX3_purge_9 : decode cX3_purge 9 = .ok (.istore_n 3, 1) := vl_at vq_cX3_purge_0 (i := 5) rfl
theorem dX3_purge_10 : decode cX3_purge 10 = .ok (.iconst 0, 1) := vl_at vq_cX3_purge_0 (i := 6) rfl
theorem dX3_purge_11 : decode cX3_purge 11 = .ok (.istore 4, 2) := vl_at vq_cX3_purge_0 (i := 7) rfl
theorem dX3_purge_13 : decode cX3_purge 13 = .ok (.iload 4, 2) := vl_at vq_cX3_purge_0 (i := 8) rfl
theorem dX3_purge_15 : decode cX3_purge 15 = .ok (.iload_n 2, 1) := vl_at vq_cX3_purge_0 (i := 9) rfl
theorem dX3_purge_16 : decode cX3_purge 16 = .ok (.if_icmp .ge 48, 3) := vl_at vq_cX3_purge_0 (i := 10) rfl
theorem dX3_purge_19 : decode cX3_purge 19 = .ok (.iload 4, 2) := vl_at vq_cX3_purge_0 (i := 11) rfl
theorem dX3_purge_21 : decode cX3_purge 21 = .ok (.iload_n 3, 1) := vl_at vq_cX3_purge_0 (i := 12) rfl
theorem dX3_purge_22 : decode cX3_purge 22 = .ok (.isub, 1) := vl_at vq_cX3_purge_0 (i := 13) rfl
theorem dX3_purge_23 : decode cX3_purge 23 = .ok (.istore 5, 2) := vl_at vq_cX3_purge_0 (i := 14) rfl
theorem dX3_purge_25 : decode cX3_purge 25 = .ok (.aload_n 0, 1) := vl_at vq_cX3_purge_0 (i := 15) rfl
theorem dX3_purge_26 : decode cX3_purge 26 = .ok (.getfield 14, 3) := vl_at vq_cX3_purge_0 (i := 16) rfl
theorem dX3_purge_29 : decode cX3_purge 29 = .ok (.aload_n 0, 1) := vl_at vq_cX3_purge_0 (i := 17) rfl
theorem dX3_purge_30 : decode cX3_purge 30 = .ok (.getfield 18, 3) := vl_at vq_cX3_purge_0 (i := 18) rfl
theorem dX3_purge_33 : decode cX3_purge 33 = .ok (.iload 5, 2) := vl_at vq_cX3_purge_0 (i := 19) rfl
theorem dX3_purge_35 : decode cX3_purge 35 = .ok (.invokevirtual 144, 3) := vl_at vq_cX3_purge_0 (i := 20) rfl
theorem dX3_purge_38 : decode cX3_purge 38 = .ok (.invokestatic 162, 3) := vl_at vq_cX3_purge_0 (i := 21) rfl
theorem dX3_purge_41 : decode cX3_purge 41 = .ok (.iload_n 1, 1) := vl_at vq_cX3_purge_0 (i := 22) rfl
theorem dX3_purge_42 : decode cX3_purge 42 = .ok (.if_icmp .eq 16, 3) := vl_at vq_cX3_purge_0 (i := 23) rfl
theorem dX3_purge_45 : decode cX3_purge 45 = .ok (.aload_n 0, 1) := vl_at vq_cX3_purge_0 (i := 24) rfl
theorem dX3_purge_46 : decode cX3_purge 46 = .ok (.getfield 18, 3) := vl_at vq_cX3_purge_0 (i := 25) rfl
theorem dX3_purge_49 : decode cX3_purge 49 = .ok (.iload 5, 2) := vl_at vq_cX3_purge_0 (i := 26) rfl
theorem dX3_purge_51 : decode cX3_purge 51 = .ok (.invokevirtual 113, 3) := vl_at vq_cX3_purge_0 (i := 27) rfl
theorem dX3_purge_54 : decode cX3_purge 54 = .ok (.pop, 1) := vl_at vq_cX3_purge_0 (i := 28) rfl
theorem dX3_purge_55 : decode cX3_purge 55 = .ok (.iinc 3 1, 3) := vl_at vq_cX3_purge_0 (i := 29) rfl
theorem dX3_purge_58 : decode cX3_purge 58 = .ok (.iinc 4 1, 3) := vl_at vq_cX3_purge_0 (i := 30) rfl
theorem dX3_purge_61 : decode cX3_purge 61 = .ok (.goto (-48), 3) := vl_at vq_cX3_purge_0 (i := 31) rfl
theorem dX3_purge_64 : decode cX3_purge 64 = .ok (.aload_n 0, 1) := vl_at vq_cX3_purge_0 (i := 32) rfl
theorem dX3_purge_65 : decode cX3_purge 65 = .ok (.iconst 1, 1) := vl_at vq_cX3_purge_0 (i := 33) rfl
theorem dX3_purge_66 : decode cX3_purge 66 = .ok (.iload_n 3, 1) := vl_at vq_cX3_purge_0 (i := 34) rfl
theorem dX3_purge_67 : decode cX3_purge 67 = .ok (.invokevirtual 150, 3) := vl_at vq_cX3_purge_0 (i := 35) rfl
theorem dX3_purge_70 : decode cX3_purge 70 = .ok (.iload_n 3, 1) := vl_at vq_cX3_purge_0 (i := 36) rfl
theorem dX3_purge_71 : decode cX3_purge 71 = .ok (.ireturn, 1) := vl_at vq_cX3_purge_0 (i := 37) rfl
noncomputable def vl_cX3_walk_0 : List (Nat × Instr × Nat) := [(0, .aload_n 0, 1), (1, .getfield 30, 3), (4, .iload_n 1, 1), (5, .aload_n 0, 1), (6, .getfield 14, 3), (9, .invokevirtual 65, 3), (12, .invokevirtual 166, 3), (15, .aload_n 0, 1), (16, .getfield 14, 3), (19, .invokevirtual 65, 3), (22, .ireturn, 1)]
theorem vq_cX3_walk_0 : vl_ok cX3_walk vl_cX3_walk_0 = true := by decide +kernel
theorem dX3_walk_0 : decode cX3_walk 0 = .ok (.aload_n 0, 1) := vl_at vq_cX3_walk_0 (i := 0) rfl
theorem dX3_walk_1 : decode cX3_walk 1 = .ok (.getfield 30, 3) := vl_at vq_cX3_walk_0 (i := 1) rfl
theorem dX3_walk_4 : decode cX3_walk 4 = .ok (.iload_n 1, 1) := vl_at vq_cX3_walk_0 (i := 2) rfl
theorem dX3_walk_5 : decode cX3_walk 5 = .ok (.aload_n 0, 1) := vl_at vq_cX3_walk_0 (i := 3) rfl
theorem dX3_walk_6 : decode cX3_walk 6 = .ok (.getfield 14, 3) := vl_at vq_cX3_walk_0 (i := 4) rfl
theorem dX3_walk_9 : decode cX3_walk 9 = .ok (.invokevirtual 65, 3) := vl_at vq_cX3_walk_0 (i := 5) rfl
theorem dX3_walk_12 : decode cX3_walk 12 = .ok (.invokevirtual 166, 3) := vl_at vq_cX3_walk_0 (i := 6) rfl
theorem dX3_walk_15 : decode cX3_walk 15 = .ok (.aload_n 0, 1) := vl_at vq_cX3_walk_0 (i := 7) rfl
theorem dX3_walk_16 : decode cX3_walk 16 = .ok (.getfield 14, 3) := vl_at vq_cX3_walk_0 (i := 8) rfl
theorem dX3_walk_19 : decode cX3_walk 19 = .ok (.invokevirtual 65, 3) := vl_at vq_cX3_walk_0 (i := 9) rfl
theorem dX3_walk_22 : decode cX3_walk 22 = .ok (.ireturn, 1) := vl_at vq_cX3_walk_0 (i := 10) rfl
noncomputable def vl_cX3_step_0 : List (Nat × Instr × Nat) := [(0, .aload_n 0, 1), (1, .invokevirtual 170, 3), (4, .aload_n 0, 1), (5, .getfield 30, 3), (8, .aload_n 0, 1), (9, .getfield 14, 3), (12, .invokevirtual 65, 3), (15, .invokevirtual 173, 3), (18, .ifCond .ne 6, 3), (21, .bipush (-9), 2), (23, .ireturn, 1), (24, .aload_n 0, 1), (25, .getfield 30, 3), (28, .invokevirtual 176, 3), (31, .aload_n 0, 1), (32, .getfield 14, 3), (35, .aload_n 0, 1), (36, .getfield 30, 3), (39, .getfield 179, 3), (42, .invokevirtual 144, 3), (45, .ireturn, 1)]
theorem vq_cX3_step_0 : vl_ok cX3_step vl_cX3_step_0 = true := by decide +kernel
theorem dX3_step_0 : decode cX3_step 0 = .ok (.aload_n 0, 1) := vl_at vq_cX3_step_0 (i := 0) rfl
theorem dX3_step_1 : decode cX3_step 1 = .ok (.invokevirtual 170, 3) := vl_at vq_cX3_step_0 (i := 1) rfl
theorem dX3_step_4 : decode cX3_step 4 = .ok (.aload_n 0, 1) := vl_at vq_cX3_step_0 (i := 2) rfl
theorem dX3_step_5 : decode cX3_step 5 = .ok (.getfield 30, 3) := vl_at vq_cX3_step_0 (i := 3) rfl
theorem dX3_step_8 : decode cX3_step 8 = .ok (.aload_n 0, 1) := vl_at vq_cX3_step_0 (i := 4) rfl
theorem dX3_step_9 : decode cX3_step 9 = .ok (.getfield 14, 3) := vl_at vq_cX3_step_0 (i := 5) rfl
theorem dX3_step_12 : decode cX3_step 12 = .ok (.invokevirtual 65, 3) := vl_at vq_cX3_step_0 (i := 6) rfl
theorem dX3_step_15 : decode cX3_step 15 = .ok (.invokevirtual 173, 3) := vl_at vq_cX3_step_0 (i := 7) rfl
theorem dX3_step_18 : decode cX3_step 18 = .ok (.ifCond .ne 6, 3) := vl_at vq_cX3_step_0 (i := 8) rfl
theorem dX3_step_21 : decode cX3_step 21 = .ok (.bipush (-9), 2) := vl_at vq_cX3_step_0 (i := 9) rfl
theorem dX3_step_23 : decode cX3_step 23 = .ok (.ireturn, 1) := vl_at vq_cX3_step_0 (i := 10) rfl
theorem dX3_step_24 : decode cX3_step 24 = .ok (.aload_n 0, 1) := vl_at vq_cX3_step_0 (i := 11) rfl
theorem dX3_step_25 : decode cX3_step 25 = .ok (.getfield 30, 3) := vl_at vq_cX3_step_0 (i := 12) rfl
theorem dX3_step_28 : decode cX3_step 28 = .ok (.invokevirtual 176, 3) := vl_at vq_cX3_step_0 (i := 13) rfl
theorem dX3_step_31 : decode cX3_step 31 = .ok (.aload_n 0, 1) := vl_at vq_cX3_step_0 (i := 14) rfl
theorem dX3_step_32 : decode cX3_step 32 = .ok (.getfield 14, 3) := vl_at vq_cX3_step_0 (i := 15) rfl
theorem dX3_step_35 : decode cX3_step 35 = .ok (.aload_n 0, 1) := vl_at vq_cX3_step_0 (i := 16) rfl
theorem dX3_step_36 : decode cX3_step 36 = .ok (.getfield 30, 3) := vl_at vq_cX3_step_0 (i := 17) rfl
theorem dX3_step_39 : decode cX3_step 39 = .ok (.getfield 179, 3) := vl_at vq_cX3_step_0 (i := 18) rfl
theorem dX3_step_42 : decode cX3_step 42 = .ok (.invokevirtual 144, 3) := vl_at vq_cX3_step_0 (i := 19) rfl
theorem dX3_step_45 : decode cX3_step 45 = .ok (.ireturn, 1) := vl_at vq_cX3_step_0 (i := 20) rfl
noncomputable def vl_cX3_pluck_0 : List (Nat × Instr × Nat) := [(0, .aload_n 0, 1), (1, .invokevirtual 170, 3), (4, .aload_n 0, 1), (5, .getfield 30, 3), (8, .getfield 179, 3), (11, .iconst (-1), 1), (12, .if_icmp .ne 6, 3), (15, .bipush (-9), 2), (17, .ireturn, 1), (18, .aload_n 0, 1), (19, .getfield 14, 3), (22, .aload_n 0, 1), (23, .getfield 30, 3), (26, .getfield 179, 3), (29, .invokevirtual 113, 3), (32, .pop, 1), (33, .aload_n 0, 1), (34, .getfield 30, 3), (37, .invokevirtual 182, 3), (40, .aload_n 0, 1), (41, .getfield 21, 3), (44, .invokevirtual 159, 3), (47, .aload_n 0, 1), (48, .getfield 14, 3), (51, .invokevirtual 65, 3), (54, .ireturn, 1)]
theorem vq_cX3_pluck_0 : vl_ok cX3_pluck vl_cX3_pluck_0 = true := by decide +kernel
theorem dX3_pluck_0 : decode cX3_pluck 0 = .ok (.aload_n 0, 1) := vl_at vq_cX3_pluck_0 (i := 0) rfl
theorem dX3_pluck_1 : decode cX3_pluck 1 = .ok (.invokevirtual 170, 3) := vl_at vq_cX3_pluck_0 (i := 1) rfl
theorem dX3_pluck_4 : decode cX3_pluck 4 = .ok (.aload_n 0, 1) := vl_at vq_cX3_pluck_0 (i := 2) rfl
theorem dX3_pluck_5 : decode cX3_pluck 5 = .ok (.getfield 30, 3) := vl_at vq_cX3_pluck_0 (i := 3) rfl
theorem dX3_pluck_8 : decode cX3_pluck 8 = .ok (.getfield 179, 3) := vl_at vq_cX3_pluck_0 (i := 4) rfl
theorem dX3_pluck_11 : decode cX3_pluck 11 = .ok (.iconst (-1), 1) := vl_at vq_cX3_pluck_0 (i := 5) rfl
theorem dX3_pluck_12 : decode cX3_pluck 12 = .ok (.if_icmp .ne 6, 3) := vl_at vq_cX3_pluck_0 (i := 6) rfl
theorem dX3_pluck_15 : decode cX3_pluck 15 = .ok (.bipush (-9), 2) := vl_at vq_cX3_pluck_0 (i := 7) rfl
theorem dX3_pluck_17 : decode cX3_pluck 17 = .ok (.ireturn, 1) := vl_at vq_cX3_pluck_0 (i := 8) rfl
theorem dX3_pluck_18 : decode cX3_pluck 18 = .ok (.aload_n 0, 1) := vl_at vq_cX3_pluck_0 (i := 9) rfl
theorem dX3_pluck_19 : decode cX3_pluck 19 = .ok (.getfield 14, 3) := vl_at vq_cX3_pluck_0 (i := 10) rfl
theorem dX3_pluck_22 : decode cX3_pluck 22 = .ok (.aload_n 0, 1) := vl_at vq_cX3_pluck_0 (i := 11) rfl
theorem dX3_pluck_23 : decode cX3_pluck 23 = .ok (.getfield 30, 3) := vl_at vq_cX3_pluck_0 (i := 12) rfl
theorem dX3_pluck_26 : decode cX3_pluck 26 = .ok (.getfield 179, 3) := vl_at vq_cX3_pluck_0 (i := 13) rfl
theorem dX3_pluck_29 : decode cX3_pluck 29 = .ok (.invokevirtual 113, 3) := vl_at vq_cX3_pluck_0 (i := 14) rfl
theorem dX3_pluck_32 : decode cX3_pluck 32 = .ok (.pop, 1) := vl_at vq_cX3_pluck_0 (i := 15) rfl
theorem dX3_pluck_33 : decode cX3_pluck 33 = .ok (.aload_n 0, 1) := vl_at vq_cX3_pluck_0 (i := 16) rfl
theorem dX3_pluck_34 : decode cX3_pluck 34 = .ok (.getfield 30, 3) := vl_at vq_cX3_pluck_0 (i := 17) rfl
theorem dX3_pluck_37 : decode cX3_pluck 37 = .ok (.invokevirtual 182, 3) := vl_at vq_cX3_pluck_0 (i := 18) rfl
theorem dX3_pluck_40 : decode cX3_pluck 40 = .ok (.aload_n 0, 1) := vl_at vq_cX3_pluck_0 (i := 19) rfl
theorem dX3_pluck_41 : decode cX3_pluck 41 = .ok (.getfield 21, 3) := vl_at vq_cX3_pluck_0 (i := 20) rfl
theorem dX3_pluck_44 : decode cX3_pluck 44 = .ok (.invokevirtual 159, 3) := vl_at vq_cX3_pluck_0 (i := 21) rfl
theorem dX3_pluck_47 : decode cX3_pluck 47 = .ok (.aload_n 0, 1) := vl_at vq_cX3_pluck_0 (i := 22) rfl
theorem dX3_pluck_48 : decode cX3_pluck 48 = .ok (.getfield 14, 3) := vl_at vq_cX3_pluck_0 (i := 23) rfl
theorem dX3_pluck_51 : decode cX3_pluck 51 = .ok (.invokevirtual 65, 3) := vl_at vq_cX3_pluck_0 (i := 24) rfl
theorem dX3_pluck_54 : decode cX3_pluck 54 = .ok (.ireturn, 1) := vl_at vq_cX3_pluck_0 (i := 25) rfl
noncomputable def vl_cX3_insert_0 : List (Nat × Instr × Nat) := [(0, .iload_n 1, 1), (1, .bipush 20, 2), (3, .invokestatic 185, 3), (6, .iload_n 2, 1), (7, .iload_n 3, 1), (8, .invokestatic 188, 3), (11, .aload_n 0, 1), (12, .iconst 1, 1), (13, .iconst 1, 1), (14, .invokevirtual 80, 3), (17, .iload_n 1, 1), (18, .aload_n 0, 1), (19, .getfield 18, 3), (22, .invokevirtual 65, 3), (25, .if_icmp .le 6, 3), (28, .bipush (-9), 2), (30, .ireturn, 1), (31, .aload_n 0, 1), (32, .getfield 18, 3), (35, .iload_n 1, 1), (36, .iload_n 2, 1), (37, .iload_n 3, 1), (38, .invokestatic 84, 3), (41, .invokevirtual 129, 3), (44, .aload_n 0, 1), (45, .iconst 1, 1), (46, .invokevirtual 141, 3), (49, .aload_n 0, 1), (50, .getfield 18, 3), (53, .invokevirtual 65, 3), (56, .ireturn, 1)]
theorem vq_cX3_insert_0 : vl_ok cX3_insert vl_cX3_insert_0 = true := by decide +kernel
theorem dX3_insert_0 : decode cX3_insert 0 = .ok (.iload_n 1, 1) := vl_at vq_cX3_insert_0 (i := 0) rfl
theorem dX3_insert_1 : decode cX3_insert 1 = .ok (.bipush 20, 2) := vl_at vq_cX3_insert_0 (i := 1) rfl
theorem dX3_insert_3 : decode cX3_insert 3 = .ok (.invokestatic 185, 3) := vl_at vq_cX3_insert_0 (i := 2) rfl
theorem dX3_insert_6 : decode cX3_insert 6 = .ok (.iload_n 2, 1) := vl_at vq_cX3_insert_0 (i := 3) rfl
theorem dX3_insert_7 : decode cX3_insert 7 = .ok (.iload_n 3, 1) := vl_at vq_cX3_insert_0 (i := 4) rfl
theorem dX3_insert_8 : decode cX3_insert 8 = .ok (.invokestatic 188, 3) := vl_at vq_cX3_insert_0 (i := 5) rfl
theorem dX3_insert_11 : decode cX3_insert 11 = .ok (.aload_n 0, 1) := vl_at vq_cX3_insert_0 (i := 6) rfl
theorem dX3_insert_12 : decode cX3_insert 12 = .ok (.iconst 1, 1) := vl_at vq_cX3_insert_0 (i := 7) rfl
theorem dX3_insert_13 : decode cX3_insert 13 = .ok (.iconst 1, 1) := vl_at vq_cX3_insert_0 (i := 8) rfl
theorem dX3_insert_14 : decode cX3_insert 14 = .ok (.invokevirtual 80, 3) := vl_at vq_cX3_insert_0 (i := 9) rfl
theorem dX3_insert_17 : decode cX3_insert 17 = .ok (.iload_n 1, 1) := vl_at vq_cX3_insert_0 (i := 10) rfl
theorem dX3_insert_18 : decode cX3_insert 18 = .ok (.aload_n 0, 1) := vl_at vq_cX3_insert_0 (i := 11) rfl
theorem dX3_insert_19 : decode cX3_insert 19 = .ok (.getfield 18, 3) := vl_at vq_cX3_insert_0 (i := 12) rfl
theorem dX3_insert_22 : decode cX3_insert 22 = .ok (.invokevirtual 65, 3) := vl_at vq_cX3_insert_0 (i := 13) rfl
theorem dX3_insert_25 : decode cX3_insert 25 = .ok (.if_icmp .le 6, 3) := vl_at vq_cX3_insert_0 (i := 14) rfl
theorem dX3_insert_28 : decode cX3_insert 28 = .ok (.bipush (-9), 2) := vl_at vq_cX3_insert_0 (i := 15) rfl
theorem dX3_insert_30 : decode cX3_insert 30 = .ok (.ireturn, 1) := vl_at vq_cX3_insert_0 (i := 16) rfl
theorem dX3_insert_31 : decode cX3_insert 31 = .ok (.aload_n 0, 1) := vl_at vq_cX3_insert_0 (i := 17) rfl
theorem dX3_insert_32 : decode cX3_insert 32 = .ok (.getfield 18, 3) := vl_at vq_cX3_insert_0 (i := 18) rfl
theorem dX3_insert_35 : decode cX3_insert 35 = .ok (.iload_n 1, 1) := vl_at vq_cX3_insert_0 (i := 19) rfl
theorem dX3_insert_36 : decode cX3_insert 36 = .ok (.iload_n 2, 1) := vl_at vq_cX3_insert_0 (i := 20) rfl
theorem dX3_insert_37 : decode cX3_insert 37 = .ok (.iload_n 3, 1) := vl_at vq_cX3_insert_0 (i := 21) rfl
theorem dX3_insert_38 : decode cX3_insert 38 = .ok (.invokestatic 84, 3) := vl_at vq_cX3_insert_0 (i := 22) rfl
theorem dX3_insert_41 : decode cX3_insert 41 = .ok (.invokevirtual 129, 3) := vl_at vq_cX3_insert_0 (i := 23) rfl
theorem dX3_insert_44 : decode cX3_insert 44 = .ok (.aload_n 0, 1) := vl_at vq_cX3_insert_0 (i := 24) rfl
theorem dX3_insert_45 : decode cX3_insert 45 = .ok (.iconst 1, 1) := vl_at vq_cX3_insert_0 (i := 25) rfl
theorem dX3_insert_46 : decode cX3_insert 46 = .ok (.invokevirtual 141, 3) := vl_at vq_cX3_insert_0 (i := 26) rfl
theorem dX3_insert_49 : decode cX3_insert 49 = .ok (.aload_n 0, 1) := vl_at vq_cX3_insert_0 (i := 27) rfl
theorem dX3_insert_50 : decode cX3_insert 50 = .ok (.getfield 18, 3) := vl_at vq_cX3_insert_0 (i := 28) rfl
theorem dX3_insert_53 : decode cX3_insert 53 = .ok (.invokevirtual 65, 3) := vl_at vq_cX3_insert_0 (i := 29) rfl
theorem dX3_insert_56 : decode cX3_insert 56 = .ok (.ireturn, 1) := vl_at vq_cX3_insert_0 (i := 30) rfl
noncomputable def vl_cX3_cut_0 : List (Nat × Instr × Nat) := [(0, .iload_n 1, 1), (1, .bipush 19, 2), (3, .invokestatic 185, 3), (6, .iload_n 1, 1), (7, .aload_n 0, 1), (8, .getfield 18, 3), (11, .invokevirtual 65, 3), (14, .if_icmp .lt 6, 3), (17, .bipush (-9), 2), (19, .ireturn, 1), (20, .aload_n 0, 1), (21, .getfield 18, 3), (24, .iload_n 1, 1), (25, .invokevirtual 113, 3), (28, .istore_n 2, 1), (29, .aload_n 0, 1), (30, .iconst 1, 1), (31, .invokevirtual 141, 3), (34, .iload_n 2, 1), (35, .ireturn, 1)]
theorem vq_cX3_cut_0 : vl_ok cX3_cut vl_cX3_cut_0 = true := by decide +kernel
theorem dX3_cut_0 : decode cX3_cut 0 = .ok (.iload_n 1, 1) := vl_at vq_cX3_cut_0 (i := 0) rfl
theorem dX3_cut_1 : decode cX3_cut 1 = .ok (.bipush 19, 2) := vl_at vq_cX3_cut_0 (i := 1) rfl
theorem dX3_cut_3 : decode cX3_cut 3 = .ok (.invokestatic 185, 3) := vl_at vq_cX3_cut_0 (i := 2) rfl
theorem dX3_cut_6 : decode cX3_cut 6 = .ok (.iload_n 1, 1) := vl_at vq_cX3_cut_0 (i := 3) rfl
theorem dX3_cut_7 : decode cX3_cut 7 = .ok (.aload_n 0, 1) := vl_at vq_cX3_cut_0 (i := 4) rfl
theorem dX3_cut_8 : decode cX3_cut 8 = .ok (.getfield 18, 3) := vl_at vq_cX3_cut_0 (i := 5) rfl
theorem dX3_cut_11 : decode cX3_cut 11 = .ok (.invokevirtual 65, 3) := vl_at vq_cX3_cut_0 (i := 6) rfl
theorem dX3_cut_14 : decode cX3_cut 14 = .ok (.if_icmp .lt 6, 3) := vl_at vq_cX3_cut_0 (i := 7) rfl
theorem dX3_cut_17 : decode cX3_cut 17 = .ok (.bipush (-9), 2) := vl_at vq_cX3_cut_0 (i := 8) rfl
theorem dX3_cut_19 : decode cX3_cut 19 = .ok (.ireturn, 1) := vl_at vq_cX3_cut_0 (i := 9) rfl
theorem dX3_cut_20 : decode cX3_cut 20 = .ok (.aload_n 0, 1) := vl_at vq_cX3_cut_0 (i := 10) rfl
theorem dX3_cut_21 : decode cX3_cut 21 = .ok (.getfield 18, 3) := vl_at vq_cX3_cut_0 (i := 11) rfl
theorem dX3_cut_24 : decode cX3_cut 24 = .ok (.iload_n 1, 1) := vl_at vq_cX3_cut_0 (i := 12) rfl
theorem dX3_cut_25 : decode cX3_cut 25 = .ok (.invokevirtual 113, 3) := vl_at vq_cX3_cut_0 (i := 13) rfl
theorem dX3_cut_28 : decode cX3_cut 28 = .ok (.istore_n 2, 1) := vl_at vq_cX3_cut_0 (i := 14) rfl
theorem dX3_cut_29 : decode cX3_cut 29 = .ok (.aload_n 0, 1) := vl_at vq_cX3_cut_0 (i := 15) rfl
theorem dX3_cut_30 : decode cX3_cut 30 = .ok (.iconst 1, 1) := vl_at vq_cX3_cut_0 (i := 16) rfl
theorem dX3_cut_31 : decode cX3_cut 31 = .ok (.invokevirtual 141, 3) := vl_at vq_cX3_cut_0 (i := 17) rfl
theorem dX3_cut_34 : decode cX3_cut 34 = .ok (.iload_n 2, 1) := vl_at vq_cX3_cut_0 (i := 18) rfl
theorem dX3_cut_35 : decode cX3_cut 35 = .ok (.ireturn, 1) := vl_at vq_cX3_cut_0 (i := 19) rfl
noncomputable def vl_cX3_replace_0 : List (Nat × Instr × Nat) := [(0, .iload_n 1, 1), (1, .bipush 19, 2), (3, .invokestatic 185, 3), (6, .iload_n 2, 1), (7, .iload_n 3, 1), (8, .invokestatic 188, 3), (11, .iload_n 1, 1), (12, .aload_n 0, 1), (13, .getfield 18, 3), (16, .invokevirtual 65, 3), (19, .if_icmp .lt 6, 3), (22, .bipush (-9), 2), (24, .ireturn, 1), (25, .aload_n 0, 1), (26, .getfield 18, 3), (29, .iload_n 1, 1), (30, .invokevirtual 144, 3), (33, .istore 4, 2), (35, .aload_n 0, 1), (36, .iload_n 1, 1), (37, .iload_n 2, 1), (38, .iload_n 3, 1), (39, .invokestatic 84, 3), (42, .invokevirtual 191, 3), (45, .iload 4, 2), (47, .ireturn, 1)]
theorem vq_cX3_replace_0 : vl_ok cX3_replace vl_cX3_replace_0 = true := by decide +kernel
theorem dX3_replace_0 : decode cX3_replace 0 = .ok (.iload_n 1, 1) := vl_at vq_cX3_replace_0 (i := 0) rfl
theorem dX3_replace_1 : decode cX3_replace 1 = .ok (.bipush 19, 2) := vl_at vq_cX3_replace_0 (i := 1) rfl
theorem dX3_replace_3 : decode cX3_replace 3 = .ok (.invokestatic 185, 3) := vl_at vq_cX3_replace_0 (i := 2) rfl
theorem dX3_replace_6 : decode cX3_replace 6 = .ok (.iload_n 2, 1) := vl_at vq_cX3_replace_0 (i := 3) rfl
theorem dX3_replace_7 : decode cX3_replace 7 = .ok (.iload_n 3, 1) := vl_at vq_cX3_replace_0 (i := 4) rfl
theorem dX3_replace_8 : decode cX3_replace 8 = .ok (.invokestatic 188, 3) := vl_at vq_cX3_replace_0 (i := 5) rfl
theorem dX3_replace_11 : decode cX3_replace 11 = .ok (.iload_n 1, 1) := vl_at vq_cX3_replace_0 (i := 6) rfl
theorem dX3_replace_12 : decode cX3_replace 12 = .ok (.aload_n 0, 1) := vl_at vq_cX3_replace_0 (i := 7) rfl
theorem dX3_replace_13 : decode cX3_replace 13 = .ok (.getfield 18, 3) := vl_at vq_cX3_replace_0 (i := 8) rfl
theorem dX3_replace_16 : decode cX3_replace 16 = .ok (.invokevirtual 65, 3) := vl_at vq_cX3_replace_0 (i := 9) rfl
theorem dX3_replace_19 : decode cX3_replace 19 = .ok (.if_icmp .lt 6, 3) := vl_at vq_cX3_replace_0 (i := 10) rfl
theorem dX3_replace_22 : decode cX3_replace 22 = .ok (.bipush (-9), 2) := vl_at vq_cX3_replace_0 (i := 11) rfl
theorem dX3_replace_24 : decode cX3_replace 24 = .ok (.ireturn, 1) := vl_at vq_cX3_replace_0 (i := 12) rfl
theorem dX3_replace_25 : decode cX3_replace 25 = .ok (.aload_n 0, 1) := vl_at vq_cX3_replace_0 (i := 13) rfl
theorem dX3_replace_26 : decode cX3_replace 26 = .ok (.getfield 18, 3) := vl_at vq_cX3_replace_0 (i := 14) rfl
theorem dX3_replace_29 : decode cX3_replace 29 = .ok (.iload_n 1, 1) := vl_at vq_cX3_replace_0 (i := 15) rfl
theorem dX3_replace_30 : decode cX3_replace 30 = .ok (.invokevirtual 144, 3) := vl_at vq_cX3_replace_0 (i := 16) rfl
theorem dX3_replace_33 : decode cX3_replace 33 = .ok (.istore 4, 2) := vl_at vq_cX3_replace_0 (i := 17) rfl
theorem dX3_replace_35 : decode cX3_replace 35 = .ok (.aload_n 0, 1) := vl_at vq_cX3_replace_0 (i := 18) rfl
theorem dX3_replace_36 : decode cX3_replace 36 = .ok (.iload_n 1, 1) := vl_at vq_cX3_replace_0 (i := 19) rfl
theorem dX3_replace_37 : decode cX3_replace 37 = .ok (.iload_n 2, 1) := vl_at vq_cX3_replace_0 (i := 20) rfl
theorem dX3_replace_38 : decode cX3_replace 38 = .ok (.iload_n 3, 1) := vl_at vq_cX3_replace_0 (i := 21) rfl
theorem dX3_replace_39 : decode cX3_replace 39 = .ok (.invokestatic 84, 3) := vl_at vq_cX3_replace_0 (i := 22) rfl
theorem dX3_replace_42 : decode cX3_replace 42 = .ok (.invokevirtual 191, 3) := vl_at vq_cX3_replace_0 (i := 23) rfl
theorem dX3_replace_45 : decode cX3_replace 45 = .ok (.iload 4, 2) := vl_at vq_cX3_replace_0 (i := 24) rfl
theorem dX3_replace_47 : decode cX3_replace 47 = .ok (.ireturn, 1) := vl_at vq_cX3_replace_0 (i := 25) rfl
noncomputable def vl_cX3_at_0 : List (Nat × Instr × Nat) := [(0, .iload_n 1, 1), (1, .bipush 19, 2), (3, .invokestatic 185, 3), (6, .iload_n 1, 1), (7, .aload_n 0, 1), (8, .getfield 18, 3), (11, .invokevirtual 65, 3), (14, .if_icmp .ge 14, 3), (17, .aload_n 0, 1), (18, .getfield 18, 3), (21, .iload_n 1, 1), (22, .invokevirtual 144, 3), (25, .goto 5, 3), (28, .bipush (-9), 2), (30, .ireturn, 1)]
theorem vq_cX3_at_0 : vl_ok cX3_at vl_cX3_at_0 = true := by decide +kernel
theorem dX3_at_0 : decode cX3_at 0 = .ok (.iload_n 1, 1) := vl_at vq_cX3_at_0 (i := 0) rfl
theorem dX3_at_1 : decode cX3_at 1 = .ok (.bipush 19, 2) := vl_at vq_cX3_at_0 (i := 1) rfl
theorem dX3_at_3 : decode cX3_at 3 = .ok (.invokestatic 185, 3) := vl_at vq_cX3_at_0 (i := 2) rfl
theorem dX3_at_6 : decode cX3_at 6 = .ok (.iload_n 1, 1) := vl_at vq_cX3_at_0 (i := 3) rfl
theorem dX3_at_7 : decode cX3_at 7 = .ok (.aload_n 0, 1) := vl_at vq_cX3_at_0 (i := 4) rfl
theorem dX3_at_8 : decode cX3_at 8 = .ok (.getfield 18, 3) := vl_at vq_cX3_at_0 (i := 5) rfl
theorem dX3_at_11 : decode cX3_at 11 = .ok (.invokevirtual 65, 3) := vl_at vq_cX3_at_0 (i := 6) rfl
theorem dX3_at_14 : decode cX3_at 14 = .ok (.if_icmp .ge 14, 3) := vl_at vq_cX3_at_0 (i := 7) rfl
theorem dX3_at_17 : decode cX3_at 17 = .ok (.aload_n 0, 1) := vl_at vq_cX3_at_0 (i := 8) rfl
theorem dX3_at_18 : decode cX3_at 18 = .ok (.getfield 18, 3) := vl_at vq_cX3_at_0 (i := 9) rfl
theorem dX3_at_21 : decode cX3_at 21 = .ok (.iload_n 1, 1) := vl_at vq_cX3_at_0 (i := 10) rfl
theorem dX3_at_22 : decode cX3_at 22 = .ok (.invokevirtual 144, 3) := vl_at vq_cX3_at_0 (i := 11) rfl
theorem dX3_at_25 : decode cX3_at 25 = .ok (.goto 5, 3) := vl_at vq_cX3_at_0 (i := 12) rfl
theorem dX3_at_28 : decode cX3_at 28 = .ok (.bipush (-9), 2) := vl_at vq_cX3_at_0 (i := 13) rfl
theorem dX3_at_30 : decode cX3_at 30 = .ok (.ireturn, 1) := vl_at vq_cX3_at_0 (i := 14) rfl
noncomputable def vl_cX3_find_0 : List (Nat × Instr × Nat) := [(0, .iload_n 1, 1), (1, .iconst 0, 1), (2, .bipush 9, 2), (4, .invokestatic 76, 3), (7, .aload_n 0, 1), (8, .getfield 18, 3), (11, .iload_n 1, 1), (12, .iload_n 2, 1), (13, .invokevirtual 138, 3), (16, .ireturn, 1)]
theorem vq_cX3_find_0 : vl_ok cX3_find vl_cX3_find_0 = true := by decide +kernel
theorem dX3_find_0 : decode cX3_find 0 = .ok (.iload_n 1, 1) := vl_at vq_cX3_find_0 (i := 0) rfl
theorem dX3_find_1 : decode cX3_find 1 = .ok (.iconst 0, 1) := vl_at vq_cX3_find_0 (i := 1) rfl
theorem dX3_find_2 : decode cX3_find 2 = .ok (.bipush 9, 2) := vl_at vq_cX3_find_0 (i := 2) rfl
theorem dX3_find_4 : decode cX3_find 4 = .ok (.invokestatic 76, 3) := vl_at vq_cX3_find_0 (i := 3) rfl
theorem dX3_find_7 : decode cX3_find 7 = .ok (.aload_n 0, 1) := vl_at vq_cX3_find_0 (i := 4) rfl
theorem dX3_find_8 : decode cX3_find 8 = .ok (.getfield 18, 3) := vl_at vq_cX3_find_0 (i := 5) rfl
theorem dX3_find_11 : decode cX3_find 11 = .ok (.iload_n 1, 1) := vl_at vq_cX3_find_0 (i := 6) rfl
theorem dX3_find_12 : decode cX3_find 12 = .ok (.iload_n 2, 1) := vl_at vq_cX3_find_0 (i := 7) rfl
theorem dX3_find_13 : decode cX3_find 13 = .ok (.invokevirtual 138, 3) := vl_at vq_cX3_find_0 (i := 8) rfl
theorem dX3_find_16 : decode cX3_find 16 = .ok (.ireturn, 1) := vl_at vq_cX3_find_0 (i := 9) rfl
noncomputable def vl_cX3_splice_0 : List (Nat × Instr × Nat) := [(0, .iload_n 1, 1), (1, .bipush 20, 2), (3, .invokestatic 185, 3), (6, .aload_n 0, 1), (7, .getfield 14, 3), (10, .invokevirtual 65, 3), (13, .istore_n 2, 1), (14, .aload_n 0, 1), (15, .iconst 1, 1), (16, .iload_n 2, 1), (17, .invokevirtual 80, 3), (20, .iload_n 2, 1), (21, .ifCond .ne 5, 3), (24, .iconst 0, 1), (25, .ireturn, 1), (26, .iload_n 1, 1), (27, .aload_n 0, 1), (28, .getfield 18, 3), (31, .invokevirtual 65, 3), (34, .if_icmp .le 6, 3), (37, .bipush (-9), 2), (39, .ireturn, 1), (40, .iconst 0, 1), (41, .istore_n 3, 1), (42, .iload_n 3, 1), (43, .iload_n 2, 1), (44, .if_icmp .ge 27, 3), (47, .aload_n 0, 1), (48, .getfield 18, 3), (51, .iload_n 1, 1), (52, .iload_n 3, 1), (53, .iadd, 1), (54, .aload_n 0, 1), (55, .getfield 14, 3), (58, .iload_n 3, 1), (59, .invokevirtual 144, 3), (62, .invokevirtual 129, 3), (65, .iinc 3 1, 3), (68, .goto (-26), 3), (71, .aload_n 0, 1)]
theorem vq_cX3_splice_0 : vl_ok cX3_splice vl_cX3_splice_0 = true := by decide +kernel
theorem dX3_splice_0 : decode cX3_splice 0 = .ok (.iload_n 1, 1) := vl_at vq_cX3_splice_0 (i := 0) rfl
theorem dX3_splice_1 : decode cX3_splice 1 = .ok (.bipush 20, 2) := vl_at vq_cX3_splice_0 (i := 1) rfl
theorem dX3_splice_3 : decode cX3_splice 3 = .ok (.invokestatic 185, 3) := vl_at vq_cX3_splice_0 (i := 2) rfl
theorem dX3_splice_6 : decode cX3_splice 6 = .ok (.aload_n 0, 1) := vl_at vq_cX3_splice_0 (i := 3) rfl
theorem dX3_splice_7 : decode cX3_splice 7 = .ok (.getfield 14, 3) := vl_at vq_cX3_splice_0 (i := 4) rfl
theorem dX3_splice_10 : decode cX3_splice 10 = .ok (.invokevirtual 65, 3) := vl_at vq_cX3_splice_0 (i := 5) rfl
theorem dX3_splice_13 : decode cX3_splice 13 = .ok (.istore_n 2, 1) := vl_at vq_cX3_splice_0 (i := 6) rfl
theorem dX3_splice_14 : decode cX3_splice 14 = .ok (.aload_n 0, 1) := vl_at vq_cX3_splice_0 (i := 7) rfl
theorem dX3_splice_15 : decode cX3_splice 15 = .ok (.iconst 1, 1) := vl_at vq_cX3_splice_0 (i := 8) rfl
theorem dX3_splice_16 : decode cX3_splice 16 = .ok (.iload_n 2, 1) := vl_at vq_cX3_splice_0 (i := 9) rfl
theorem dX3_splice_17 : decode cX3_splice 17 = .ok (.invokevirtual 80, 3) := vl_at vq_cX3_splice_0 (i := 10) rfl
theorem dX3_splice_20 : decode cX3_splice 20 = .ok (.iload_n 2, 1) := vl_at vq_cX3_splice_0 (i := 11) rfl
theorem dX3_splice_21 : decode cX3_splice 21 = .ok (.ifCond .ne 5, 3) := vl_at vq_cX3_splice_0 (i := 12) rfl
theorem dX3_splice_24 : decode cX3_splice 24 = .ok (.iconst 0, 1) := vl_at vq_cX3_splice_0 (i := 13) rfl
theorem dX3_splice_25 : decode cX3_splice 25 = .ok (.ireturn, 1) := vl_at vq_cX3_splice_0 (i := 14) rfl
theorem dX3_splice_26 : decode cX3_splice 26 = .ok (.iload_n 1, 1) := vl_at vq_cX3_splice_0 (i := 15) rfl
theorem dX3_splice_27 : decode cX3_splice 27 = .ok (.aload_n 0, 1) := vl_at vq_cX3_splice_0 (i := 16) rfl
theorem dX3_splice_28 : decode cX3_splice 28 = .ok (.getfield 18, 3) := vl_at vq_cX3_splice_0 (i := 17) rfl
theorem dX3_splice_31 : decode cX3_splice 31 = .ok (.invokevirtual 65, 3) := vl_at vq_cX3_splice_0 (i := 18) rfl
theorem dX3_splice_34 : decode cX3_splice 34 = .ok (.if_icmp .le 6, 3) := vl_at vq_cX3_splice_0 (i := 19) rfl
theorem dX3_splice_37 : decode cX3_splice 37 = .ok (.bipush (-9), 2) := vl_at vq_cX3_splice_0 (i := 20) rfl
theorem dX3_splice_39 : decode cX3_splice 39 = .ok (.ireturn, 1) := vl_at vq_cX3_splice_0 (i := 21) rfl
theorem dX3_splice_40 : decode cX3_splice 40 = .ok (.iconst 0, 1) := vl_at vq_cX3_splice_0 (i := 22) rfl
theorem dX3_splice_41 : decode cX3_splice 41 = .ok (.istore_n 3, 1) := vl_at vq_cX3_splice_0 (i := 23) rfl
theorem dX3_splice_42 : decode cX3_splice 42 = .ok (.iload_n 3, 1) := vl_at vq_cX3_splice_0 (i := 24) rfl
theorem dX3_splice_43 : decode cX3_splice 43 = .ok (.iload_n 2, 1) := vl_at vq_cX3_splice_0 (i := 25) rfl
theorem dX3_splice_44 : decode cX3_splice 44 = .ok (.if_icmp .ge 27, 3) := vl_at vq_cX3_splice_0 (i := 26) rfl
theorem dX3_splice_47 : decode cX3_splice 47 = .ok (.aload_n 0, 1) := vl_at vq_cX3_splice_0 (i := 27) rfl
theorem dX3_splice_48 : decode cX3_splice 48 = .ok (.getfield 18, 3) := vl_at vq_cX3_splice_0 (i := 28) rfl
theorem dX3_splice_51 : decode cX3_splice 51 = .ok (.iload_n 1, 1) := vl_at vq_cX3_splice_0 (i := 29) rfl
theorem dX3_splice_52 : decode cX3_splice 52 = .ok (.iload_n 3, 1) := vl_at vq_cX3_splice_0 (i := 30) rfl
theorem dX3_splice_53 : decode cX3_splice 53 = .ok (.iadd, 1) := vl_at vq_cX3_splice_0 (i := 31) rfl
theorem dX3_splice_54 : decode cX3_splice 54 = .ok (.aload_n 0, 1) := vl_at vq_cX3_splice_0 (i := 32) rfl
theorem dX3_splice_55 : decode cX3_splice 55 = .ok (.getfield 14, 3) := vl_at vq_cX3_splice_0 (i := 33) rfl
theorem dX3_splice_58 : decode cX3_splice 58 = .ok (.iload_n 3, 1) := vl_at vq_cX3_splice_0 (i := 34) rfl
theorem dX3_splice_59 : decode cX3_splice 59 = .ok (.invokevirtual 144, 3) := vl_at vq_cX3_splice_0 (i := 35) rfl
theorem dX3_splice_62 : decode cX3_splice 62 = .ok (.invokevirtual 129, 3) := vl_at vq_cX3_splice_0 (i := 36) rfl
theorem dX3_splice_65 : decode cX3_splice 65 = .ok (.iinc 3 1, 3) := vl_at vq_cX3_splice_0 (i := 37) rfl
theorem dX3_splice_68 : decode cX3_splice 68 = .ok (.goto (-26), 3) := vl_at vq_cX3_splice_0 (i := 38) rfl
theorem dX3_splice_71 : decode cX3_splice 71 = .ok (.aload_n 0, 1) := vl_at vq_cX3_splice_0 (i := 39) rfl
noncomputable def vl_cX3_splice_1 : List (Nat × Instr × Nat) := [(72, .getfield 14, 3), (75, .invokevirtual 159, 3), (78, .aload_n 0, 1), (79, .iconst 1, 1), (80, .invokevirtual 141, 3), (83, .aload_n 0, 1), (84, .iconst 0, 1), (85, .invokevirtual 132, 3), (88, .iload_n 2, 1), (89, .ireturn, 1)]
theorem vq_cX3_splice_1 : vl_ok cX3_splice vl_cX3_splice_1 = true := by decide +kernel
theorem dX3_splice_72 : decode cX3_splice 72 = .ok (.getfield 14, 3) := vl_at vq_cX3_splice_1 (i := 0) rfl
theorem dX3_splice_75 : decode cX3_splice 75 = .ok (.invokevirtual 159, 3) := vl_at vq_cX3_splice_1 (i := 1) rfl
theorem dX3_splice_78 : decode cX3_splice 78 = .ok (.aload_n 0, 1) := vl_at vq_cX3_splice_1 (i := 2) rfl
theorem dX3_splice_79 : decode cX3_splice 79 = .ok (.iconst 1, 1) := vl_at vq_cX3_splice_1 (i := 3) rfl
theorem dX3_splice_80 : decode cX3_splice 80 = .ok (.invokevirtual 141, 3) := vl_at vq_cX3_splice_1 (i := 4) rfl
theorem dX3_splice_83 : decode cX3_splice 83 = .ok (.aload_n 0, 1) := vl_at vq_cX3_splice_1 (i := 5) rfl
theorem dX3_splice_84 : decode cX3_splice 84 = .ok (.iconst 0, 1) := vl_at vq_cX3_splice_1 (i := 6) rfl
theorem dX3_splice_85 : decode cX3_splice 85 = .ok (.invokevirtual 132, 3) := vl_at vq_cX3_splice_1 (i := 7) rfl
theorem dX3_splice_88 : decode cX3_splice 88 = .ok (.iload_n 2, 1) := vl_at vq_cX3_splice_1 (i := 8) rfl
theorem dX3_splice_89 : decode cX3_splice 89 = .ok (.ireturn, 1) := vl_at vq_cX3_splice_1 (i := 9) rfl
noncomputable def vl_cX3_shunt_0 : List (Nat × Instr × Nat) := [(0, .iload_n 1, 1), (1, .bipush 19, 2), (3, .invokestatic 185, 3), (6, .iload_n 2, 1), (7, .iconst 1, 1), (8, .bipush 20, 2), (10, .invokestatic 76, 3), (13, .aload_n 0, 1), (14, .iconst 0, 1), (15, .iload_n 2, 1), (16, .invokevirtual 80, 3), (19, .iload_n 1, 1), (20, .aload_n 0, 1), (21, .getfield 18, 3), (24, .invokevirtual 65, 3), (27, .if_icmp .lt 6, 3), (30, .bipush (-9), 2), (32, .ireturn, 1), (33, .iload_n 2, 1), (34, .aload_n 0, 1), (35, .getfield 18, 3), (38, .invokevirtual 65, 3), (41, .iload_n 1, 1), (42, .isub, 1), (43, .invokestatic 194, 3), (46, .istore_n 3, 1), (47, .iconst 0, 1), (48, .istore 4, 2), (50, .iconst 0, 1), (51, .istore 5, 2), (53, .iload 5, 2), (55, .iload_n 3, 1), (56, .if_icmp .ge 39, 3), (59, .aload_n 0, 1), (60, .getfield 18, 3), (63, .iload_n 1, 1), (64, .invokevirtual 113, 3), (67, .istore 6, 2), (69, .iload 6, 2), (71, .invokestatic 147, 3)]
theorem vq_cX3_shunt_0 : vl_ok cX3_shunt vl_cX3_shunt_0 = true := by decide +kernel
theorem dX3_shunt_0 : decode cX3_shunt 0 = .ok (.iload_n 1, 1) := vl_at vq_cX3_shunt_0 (i := 0) rfl
theorem dX3_shunt_1 : decode cX3_shunt 1 = .ok (.bipush 19, 2) := vl_at vq_cX3_shunt_0 (i := 1) rfl
theorem dX3_shunt_3 : decode cX3_shunt 3 = .ok (.invokestatic 185, 3) := vl_at vq_cX3_shunt_0 (i := 2) rfl
theorem dX3_shunt_6 : decode cX3_shunt 6 = .ok (.iload_n 2, 1) := vl_at vq_cX3_shunt_0 (i := 3) rfl
theorem dX3_shunt_7 : decode cX3_shunt 7 = .ok (.iconst 1, 1) := vl_at vq_cX3_shunt_0 (i := 4) rfl
theorem dX3_shunt_8 : decode cX3_shunt 8 = .ok (.bipush 20, 2) := vl_at vq_cX3_shunt_0 (i := 5) rfl
theorem dX3_shunt_10 : decode cX3_shunt 10 = .ok (.invokestatic 76, 3) := vl_at vq_cX3_shunt_0 (i := 6) rfl
theorem dX3_shunt_13 : decode cX3_shunt 13 = .ok (.aload_n 0, 1) := vl_at vq_cX3_shunt_0 (i := 7) rfl
theorem dX3_shunt_14 : decode cX3_shunt 14 = .ok (.iconst 0, 1) := vl_at vq_cX3_shunt_0 (i := 8) rfl
theorem dX3_shunt_15 : decode cX3_shunt 15 = .ok (.iload_n 2, 1) := vl_at vq_cX3_shunt_0 (i := 9) rfl
theorem dX3_shunt_16 : decode cX3_shunt 16 = .ok (.invokevirtual 80, 3) := vl_at vq_cX3_shunt_0 (i := 10) rfl
theorem dX3_shunt_19 : decode cX3_shunt 19 = .ok (.iload_n 1, 1) := vl_at vq_cX3_shunt_0 (i := 11) rfl
theorem dX3_shunt_20 : decode cX3_shunt 20 = .ok (.aload_n 0, 1) := vl_at vq_cX3_shunt_0 (i := 12) rfl
theorem dX3_shunt_21 : decode cX3_shunt 21 = .ok (.getfield 18, 3) := vl_at vq_cX3_shunt_0 (i := 13) rfl
theorem dX3_shunt_24 : decode cX3_shunt 24 = .ok (.invokevirtual 65, 3) := vl_at vq_cX3_shunt_0 (i := 14) rfl
theorem dX3_shunt_27 : decode cX3_shunt 27 = .ok (.if_icmp .lt 6, 3) := vl_at vq_cX3_shunt_0 (i := 15) rfl
theorem dX3_shunt_30 : decode cX3_shunt 30 = .ok (.bipush (-9), 2) := vl_at vq_cX3_shunt_0 (i := 16) rfl
theorem dX3_shunt_32 : decode cX3_shunt 32 = .ok (.ireturn, 1) := vl_at vq_cX3_shunt_0 (i := 17) rfl
theorem dX3_shunt_33 : decode cX3_shunt 33 = .ok (.iload_n 2, 1) := vl_at vq_cX3_shunt_0 (i := 18) rfl
theorem dX3_shunt_34 : decode cX3_shunt 34 = .ok (.aload_n 0, 1) := vl_at vq_cX3_shunt_0 (i := 19) rfl
theorem dX3_shunt_35 : decode cX3_shunt 35 = .ok (.getfield 18, 3) := vl_at vq_cX3_shunt_0 (i := 20) rfl
theorem dX3_shunt_38 : decode cX3_shunt 38 = .ok (.invokevirtual 65, 3) := vl_at vq_cX3_shunt_0 (i := 21) rfl
theorem dX3_shunt_41 : decode cX3_shunt 41 = .ok (.iload_n 1, 1) := vl_at vq_cX3_shunt_0 (i := 22) rfl
theorem dX3_shunt_42 : decode cX3_shunt 42 = .ok (.isub, 1) := vl_at vq_cX3_shunt_0 (i := 23) rfl
theorem dX3_shunt_43 : decode cX3_shunt 43 = .ok (.invokestatic 194, 3) := vl_at vq_cX3_shunt_0 (i := 24) rfl
theorem dX3_shunt_46 : decode cX3_shunt 46 = .ok (.istore_n 3, 1) := vl_at vq_cX3_shunt_0 (i := 25) rfl
theorem dX3_shunt_47 : decode cX3_shunt 47 = .ok (.iconst 0, 1) := vl_at vq_cX3_shunt_0 (i := 26) rfl
theorem dX3_shunt_48 : decode cX3_shunt 48 = .ok (.istore 4, 2) := vl_at vq_cX3_shunt_0 (i := 27) rfl
theorem dX3_shunt_50 : decode cX3_shunt 50 = .ok (.iconst 0, 1) := vl_at vq_cX3_shunt_0 (i := 28) rfl
theorem dX3_shunt_51 : decode cX3_shunt 51 = .ok (.istore 5, 2) := vl_at vq_cX3_shunt_0 (i := 29) rfl
theorem dX3_shunt_53 : decode cX3_shunt 53 = .ok (.iload 5, 2) := vl_at vq_cX3_shunt_0 (i := 30) rfl
theorem dX3_shunt_55 : decode cX3_shunt 55 = .ok (.iload_n 3, 1) := vl_at vq_cX3_shunt_0 (i := 31) rfl
theorem dX3_shunt_56 : decode cX3_shunt 56 = .ok (.if_icmp .ge 39, 3) := vl_at vq_cX3_shunt_0 (i := 32) rfl
theorem dX3_shunt_59 : decode cX3_shunt 59 = .ok (.aload_n 0, 1) := vl_at vq_cX3_shunt_0 (i := 33) rfl
theorem dX3_shunt_60 : decode cX3_shunt 60 = .ok (.getfield 18, 3) := vl_at vq_cX3_shunt_0 (i := 34) rfl
theorem dX3_shunt_63 : decode cX3_shunt 63 = .ok (.iload_n 1, 1) := vl_at vq_cX3_shunt_0 (i := 35) rfl
theorem dX3_shunt_64 : decode cX3_shunt 64 = .ok (.invokevirtual 113, 3) := vl_at vq_cX3_shunt_0 (i := 36) rfl
theorem dX3_shunt_67 : decode cX3_shunt 67 = .ok (.istore 6, 2) := vl_at vq_cX3_shunt_0 (i := 37) rfl
theorem dX3_shunt_69 : decode cX3_shunt 69 = .ok (.iload 6, 2) := vl_at vq_cX3_shunt_0 (i := 38) rfl
theorem dX3_shunt_71 : decode cX3_shunt 71 = .ok (.invokestatic 147, 3) := vl_at vq_cX3_shunt_0 (i := 39) rfl
noncomputable def vl_cX3_shunt_1 : List (Nat × Instr × Nat) := [(74, .ifCond .eq 15, 3), (77, .aload_n 0, 1), (78, .getfield 14, 3), (81, .iload 6, 2), (83, .invokevirtual 197, 3), (86, .iinc 4 1, 3), (89, .iinc 5 1, 3), (92, .goto (-39), 3), (95, .aload_n 0, 1), (96, .iconst 1, 1), (97, .invokevirtual 141, 3), (100, .iload 4, 2), (102, .ifCond .le 8, 3), (105, .aload_n 0, 1), (106, .iconst 0, 1), (107, .invokevirtual 132, 3), (110, .iload 4, 2), (112, .ireturn, 1)]
theorem vq_cX3_shunt_1 : vl_ok cX3_shunt vl_cX3_shunt_1 = true := by decide +kernel
theorem dX3_shunt_74 : decode cX3_shunt 74 = .ok (.ifCond .eq 15, 3) := vl_at vq_cX3_shunt_1 (i := 0) rfl
theorem dX3_shunt_77 : decode cX3_shunt 77 = .ok (.aload_n 0, 1) := vl_at vq_cX3_shunt_1 (i := 1) rfl
theorem dX3_shunt_78 : decode cX3_shunt 78 = .ok (.getfield 14, 3) := vl_at vq_cX3_shunt_1 (i := 2) rfl
theorem dX3_shunt_81 : decode cX3_shunt 81 = .ok (.iload 6, 2) := vl_at vq_cX3_shunt_1 (i := 3) rfl
theorem dX3_shunt_83 : decode cX3_shunt 83 = .ok (.invokevirtual 197, 3) := vl_at vq_cX3_shunt_1 (i := 4) rfl
theorem dX3_shunt_86 : decode cX3_shunt 86 = .ok (.iinc 4 1, 3) := vl_at vq_cX3_shunt_1 (i := 5) rfl
theorem dX3_shunt_89 : decode cX3_shunt 89 = .ok (.iinc 5 1, 3) := vl_at vq_cX3_shunt_1 (i := 6) rfl
theorem dX3_shunt_92 : decode cX3_shunt 92 = .ok (.goto (-39), 3) := vl_at vq_cX3_shunt_1 (i := 7) rfl
theorem dX3_shunt_95 : decode cX3_shunt 95 = .ok (.aload_n 0, 1) := vl_at vq_cX3_shunt_1 (i := 8) rfl
theorem dX3_shunt_96 : decode cX3_shunt 96 = .ok (.iconst 1, 1) := vl_at vq_cX3_shunt_1 (i := 9) rfl
theorem dX3_shunt_97 : decode cX3_shunt 97 = .ok (.invokevirtual 141, 3) := vl_at vq_cX3_shunt_1 (i := 10) rfl
theorem dX3_shunt_100 : decode cX3_shunt 100 = .ok (.iload 4, 2) := vl_at vq_cX3_shunt_1 (i := 11) rfl
theorem dX3_shunt_102 : decode cX3_shunt 102 = .ok (.ifCond .le 8, 3) := vl_at vq_cX3_shunt_1 (i := 12) rfl
theorem dX3_shunt_105 : decode cX3_shunt 105 = .ok (.aload_n 0, 1) := vl_at vq_cX3_shunt_1 (i := 13) rfl
theorem dX3_shunt_106 : decode cX3_shunt 106 = .ok (.iconst 0, 1) := vl_at vq_cX3_shunt_1 (i := 14) rfl
theorem dX3_shunt_107 : decode cX3_shunt 107 = .ok (.invokevirtual 132, 3) := vl_at vq_cX3_shunt_1 (i := 15) rfl
theorem dX3_shunt_110 : decode cX3_shunt 110 = .ok (.iload 4, 2) := vl_at vq_cX3_shunt_1 (i := 16) rfl
theorem dX3_shunt_112 : decode cX3_shunt 112 = .ok (.ireturn, 1) := vl_at vq_cX3_shunt_1 (i := 17) rfl
noncomputable def vl_cX3_stand_0 : List (Nat × Instr × Nat) := [(0, .iload_n 1, 1), (1, .invokestatic 200, 3), (4, .iload_n 2, 1), (5, .bipush 20, 2), (7, .invokestatic 185, 3), (10, .iload_n 2, 1), (11, .aload_n 0, 1), (12, .getfield 18, 3), (15, .invokevirtual 65, 3), (18, .if_icmp .le 6, 3), (21, .bipush (-9), 2), (23, .ireturn, 1), (24, .aload_n 0, 1), (25, .iload_n 1, 1), (26, .invokevirtual 203, 3), (29, .iload_n 2, 1), (30, .invokevirtual 207, 3), (33, .iload_n 2, 1), (34, .ireturn, 1)]
theorem vq_cX3_stand_0 : vl_ok cX3_stand vl_cX3_stand_0 = true := by decide +kernel
theorem dX3_stand_0 : decode cX3_stand 0 = .ok (.iload_n 1, 1) := vl_at vq_cX3_stand_0 (i := 0) rfl
theorem dX3_stand_1 : decode cX3_stand 1 = .ok (.invokestatic 200, 3) := vl_at vq_cX3_stand_0 (i := 1) rfl
theorem dX3_stand_4 : decode cX3_stand 4 = .ok (.iload_n 2, 1) := vl_at vq_cX3_stand_0 (i := 2) rfl
theorem dX3_stand_5 : decode cX3_stand 5 = .ok (.bipush 20, 2) := vl_at vq_cX3_stand_0 (i := 3) rfl
theorem dX3_stand_7 : decode cX3_stand 7 = .ok (.invokestatic 185, 3) := vl_at vq_cX3_stand_0 (i := 4) rfl
theorem dX3_stand_10 : decode cX3_stand 10 = .ok (.iload_n 2, 1) := vl_at vq_cX3_stand_0 (i := 5) rfl
theorem dX3_stand_11 : decode cX3_stand 11 = .ok (.aload_n 0, 1) := vl_at vq_cX3_stand_0 (i := 6) rfl
theorem dX3_stand_12 : decode cX3_stand 12 = .ok (.getfield 18, 3) := vl_at vq_cX3_stand_0 (i := 7) rfl
theorem dX3_stand_15 : decode cX3_stand 15 = .ok (.invokevirtual 65, 3) := vl_at vq_cX3_stand_0 (i := 8) rfl
theorem dX3_stand_18 : decode cX3_stand 18 = .ok (.if_icmp .le 6, 3) := vl_at vq_cX3_stand_0 (i := 9) rfl
theorem dX3_stand_21 : decode cX3_stand 21 = .ok (.bipush (-9), 2) := vl_at vq_cX3_stand_0 (i := 10) rfl
theorem dX3_stand_23 : decode cX3_stand 23 = .ok (.ireturn, 1) := vl_at vq_cX3_stand_0 (i := 11) rfl
theorem dX3_stand_24 : decode cX3_stand 24 = .ok (.aload_n 0, 1) := vl_at vq_cX3_stand_0 (i := 12) rfl
theorem dX3_stand_25 : decode cX3_stand 25 = .ok (.iload_n 1, 1) := vl_at vq_cX3_stand_0 (i := 13) rfl
theorem dX3_stand_26 : decode cX3_stand 26 = .ok (.invokevirtual 203, 3) := vl_at vq_cX3_stand_0 (i := 14) rfl
theorem dX3_stand_29 : decode cX3_stand 29 = .ok (.iload_n 2, 1) := vl_at vq_cX3_stand_0 (i := 15) rfl
theorem dX3_stand_30 : decode cX3_stand 30 = .ok (.invokevirtual 207, 3) := vl_at vq_cX3_stand_0 (i := 16) rfl
theorem dX3_stand_33 : decode cX3_stand 33 = .ok (.iload_n 2, 1) := vl_at vq_cX3_stand_0 (i := 17) rfl
theorem dX3_stand_34 : decode cX3_stand 34 = .ok (.ireturn, 1) := vl_at vq_cX3_stand_0 (i := 18) rfl
noncomputable def vl_cX3_forth_0 : List (Nat × Instr × Nat) := [(0, .iload_n 1, 1), (1, .invokestatic 200, 3), (4, .aload_n 0, 1), (5, .iload_n 1, 1), (6, .invokevirtual 210, 3), (9, .aload_n 0, 1), (10, .iload_n 1, 1), (11, .invokevirtual 203, 3), (14, .astore_n 2, 1), (15, .aload_n 2, 1), (16, .invokevirtual 213, 3), (19, .ifCond .eq 17, 3), (22, .aload_n 2, 1), (23, .getfield 216, 3), (26, .aload_n 0, 1), (27, .getfield 18, 3), (30, .invokevirtual 65, 3), (33, .if_icmp .lt 6, 3), (36, .bipush (-9), 2), (38, .ireturn, 1), (39, .aload_n 2, 1), (40, .invokevirtual 219, 3), (43, .aload_n 0, 1), (44, .getfield 18, 3), (47, .aload_n 2, 1), (48, .getfield 222, 3), (51, .invokevirtual 144, 3), (54, .ireturn, 1)]
theorem vq_cX3_forth_0 : vl_ok cX3_forth vl_cX3_forth_0 = true := by decide +kernel
theorem dX3_forth_0 : decode cX3_forth 0 = .ok (.iload_n 1, 1) := vl_at vq_cX3_forth_0 (i := 0) rfl
theorem dX3_forth_1 : decode cX3_forth 1 = .ok (.invokestatic 200, 3) := vl_at vq_cX3_forth_0 (i := 1) rfl
theorem dX3_forth_4 : decode cX3_forth 4 = .ok (.aload_n 0, 1) := vl_at vq_cX3_forth_0 (i := 2) rfl
theorem dX3_forth_5 : decode cX3_forth 5 = .ok (.iload_n 1, 1) := vl_at vq_cX3_forth_0 (i := 3) rfl
theorem dX3_forth_6 : decode cX3_forth 6 = .ok (.invokevirtual 210, 3) := vl_at vq_cX3_forth_0 (i := 4) rfl
theorem dX3_forth_9 : decode cX3_forth 9 = .ok (.aload_n 0, 1) := vl_at vq_cX3_forth_0 (i := 5) rfl
theorem dX3_forth_10 : decode cX3_forth 10 = .ok (.iload_n 1, 1) := vl_at vq_cX3_forth_0 (i := 6) rfl
theorem dX3_forth_11 : decode cX3_forth 11 = .ok (.invokevirtual 203, 3) := vl_at vq_cX3_forth_0 (i := 7) rfl
theorem dX3_forth_14 : decode cX3_forth 14 = .ok (.astore_n 2, 1) := vl_at vq_cX3_forth_0 (i := 8) rfl
theorem dX3_forth_15 : decode cX3_forth 15 = .ok (.aload_n 2, 1) := vl_at vq_cX3_forth_0 (i := 9) rfl
theorem dX3_forth_16 : decode cX3_forth 16 = .ok (.invokevirtual 213, 3) := vl_at vq_cX3_forth_0 (i := 10) rfl
theorem dX3_forth_19 : decode cX3_forth 19 = .ok (.ifCond .eq 17, 3) := vl_at vq_cX3_forth_0 (i := 11) rfl
theorem dX3_forth_22 : decode cX3_forth 22 = .ok (.aload_n 2, 1) := vl_at vq_cX3_forth_0 (i := 12) rfl
theorem dX3_forth_23 : decode cX3_forth 23 = .ok (.getfield 216, 3) := vl_at vq_cX3_forth_0 (i := 13) rfl
theorem dX3_forth_26 : decode cX3_forth 26 = .ok (.aload_n 0, 1) := vl_at vq_cX3_forth_0 (i := 14) rfl
theorem dX3_forth_27 : decode cX3_forth 27 = .ok (.getfield 18, 3) := vl_at vq_cX3_forth_0 (i := 15) rfl
theorem dX3_forth_30 : decode cX3_forth 30 = .ok (.invokevirtual 65, 3) := vl_at vq_cX3_forth_0 (i := 16) rfl
theorem dX3_forth_33 : decode cX3_forth 33 = .ok (.if_icmp .lt 6, 3) := vl_at vq_cX3_forth_0 (i := 17) rfl
theorem dX3_forth_36 : decode cX3_forth 36 = .ok (.bipush (-9), 2) := vl_at vq_cX3_forth_0 (i := 18) rfl
theorem dX3_forth_38 : decode cX3_forth 38 = .ok (.ireturn, 1) := vl_at vq_cX3_forth_0 (i := 19) rfl
theorem dX3_forth_39 : decode cX3_forth 39 = .ok (.aload_n 2, 1) := vl_at vq_cX3_forth_0 (i := 20) rfl
theorem dX3_forth_40 : decode cX3_forth 40 = .ok (.invokevirtual 219, 3) := vl_at vq_cX3_forth_0 (i := 21) rfl
theorem dX3_forth_43 : decode cX3_forth 43 = .ok (.aload_n 0, 1) := vl_at vq_cX3_forth_0 (i := 22) rfl
theorem dX3_forth_44 : decode cX3_forth 44 = .ok (.getfield 18, 3) := vl_at vq_cX3_forth_0 (i := 23) rfl
theorem dX3_forth_47 : decode cX3_forth 47 = .ok (.aload_n 2, 1) := vl_at vq_cX3_forth_0 (i := 24) rfl
theorem dX3_forth_48 : decode cX3_forth 48 = .ok (.getfield 222, 3) := vl_at vq_cX3_forth_0 (i := 25) rfl
theorem dX3_forth_51 : decode cX3_forth 51 = .ok (.invokevirtual 144, 3) := vl_at vq_cX3_forth_0 (i := 26) rfl
theorem dX3_forth_54 : decode cX3_forth 54 = .ok (.ireturn, 1) := vl_at vq_cX3_forth_0 (i := 27) rfl
noncomputable def vl_cX3_back_0 : List (Nat × Instr × Nat) := [(0, .iload_n 1, 1), (1, .invokestatic 200, 3), (4, .aload_n 0, 1), (5, .iload_n 1, 1), (6, .invokevirtual 210, 3), (9, .aload_n 0, 1), (10, .iload_n 1, 1), (11, .invokevirtual 203, 3), (14, .astore_n 2, 1), (15, .aload_n 2, 1), (16, .invokevirtual 213, 3), (19, .ifCond .eq 10, 3), (22, .aload_n 2, 1), (23, .getfield 216, 3), (26, .ifCond .gt 6, 3), (29, .bipush (-9), 2), (31, .ireturn, 1), (32, .aload_n 2, 1), (33, .invokevirtual 223, 3), (36, .aload_n 0, 1), (37, .getfield 18, 3), (40, .aload_n 2, 1), (41, .getfield 222, 3), (44, .invokevirtual 144, 3), (47, .ireturn, 1)]
theorem vq_cX3_back_0 : vl_ok cX3_back vl_cX3_back_0 = true := by decide +kernel
theorem dX3_back_0 : decode cX3_back 0 = .ok (.iload_n 1, 1) := vl_at vq_cX3_back_0 (i := 0) rfl
theorem dX3_back_1 : decode cX3_back 1 = .ok (.invokestatic 200, 3) := vl_at vq_cX3_back_0 (i := 1) rfl
theorem dX3_back_4 : decode cX3_back 4 = .ok (.aload_n 0, 1) := vl_at vq_cX3_back_0 (i := 2) rfl
theorem dX3_back_5 : decode cX3_back 5 = .ok (.iload_n 1, 1) := vl_at vq_cX3_back_0 (i := 3) rfl
theorem dX3_back_6 : decode cX3_back 6 = .ok (.invokevirtual 210, 3) := vl_at vq_cX3_back_0 (i := 4) rfl
theorem dX3_back_9 : decode cX3_back 9 = .ok (.aload_n 0, 1) := vl_at vq_cX3_back_0 (i := 5) rfl
theorem dX3_back_10 : decode cX3_back 10 = .ok (.iload_n 1, 1) := vl_at vq_cX3_back_0 (i := 6) rfl
theorem dX3_back_11 : decode cX3_back 11 = .ok (.invokevirtual 203, 3) := vl_at vq_cX3_back_0 (i := 7) rfl
theorem dX3_back_14 : decode cX3_back 14 = .ok (.astore_n 2, 1) := vl_at vq_cX3_back_0 (i := 8) rfl
theorem dX3_back_15 : decode cX3_back 15 = .ok (.aload_n 2, 1) := vl_at vq_cX3_back_0 (i := 9) rfl
theorem dX3_back_16 : decode cX3_back 16 = .ok (.invokevirtual 213, 3) := vl_at vq_cX3_back_0 (i := 10) rfl
theorem dX3_back_19 : decode cX3_back 19 = .ok (.ifCond .eq 10, 3) := vl_at vq_cX3_back_0 (i := 11) rfl
theorem dX3_back_22 : decode cX3_back 22 = .ok (.aload_n 2, 1) := vl_at vq_cX3_back_0 (i := 12) rfl
theorem dX3_back_23 : decode cX3_back 23 = .ok (.getfield 216, 3) := vl_at vq_cX3_back_0 (i := 13) rfl
theorem dX3_back_26 : decode cX3_back 26 = .ok (.ifCond .gt 6, 3) := vl_at vq_cX3_back_0 (i := 14) rfl
theorem dX3_back_29 : decode cX3_back 29 = .ok (.bipush (-9), 2) := vl_at vq_cX3_back_0 (i := 15) rfl
theorem dX3_back_31 : decode cX3_back 31 = .ok (.ireturn, 1) := vl_at vq_cX3_back_0 (i := 16) rfl
theorem dX3_back_32 : decode cX3_back 32 = .ok (.aload_n 2, 1) := vl_at vq_cX3_back_0 (i := 17) rfl
theorem dX3_back_33 : decode cX3_back 33 = .ok (.invokevirtual 223, 3) := vl_at vq_cX3_back_0 (i := 18) rfl
theorem dX3_back_36 : decode cX3_back 36 = .ok (.aload_n 0, 1) := vl_at vq_cX3_back_0 (i := 19) rfl
theorem dX3_back_37 : decode cX3_back 37 = .ok (.getfield 18, 3) := vl_at vq_cX3_back_0 (i := 20) rfl
theorem dX3_back_40 : decode cX3_back 40 = .ok (.aload_n 2, 1) := vl_at vq_cX3_back_0 (i := 21) rfl
theorem dX3_back_41 : decode cX3_back 41 = .ok (.getfield 222, 3) := vl_at vq_cX3_back_0 (i := 22) rfl
theorem dX3_back_44 : decode cX3_back 44 = .ok (.invokevirtual 144, 3) := vl_at vq_cX3_back_0 (i := 23) rfl
theorem dX3_back_47 : decode cX3_back 47 = .ok (.ireturn, 1) := vl_at vq_cX3_back_0 (i := 24) rfl
noncomputable def vl_cX3_takeHeld_0 : List (Nat × Instr × Nat) := [(0, .iload_n 1, 1), (1, .invokestatic 200, 3), (4, .aload_n 0, 1), (5, .iload_n 1, 1), (6, .invokevirtual 210, 3), (9, .aload_n 0, 1), (10, .iload_n 1, 1), (11, .invokevirtual 203, 3), (14, .astore_n 2, 1), (15, .aload_n 2, 1), (16, .invokevirtual 226, 3), (19, .ifCond .ne 6, 3), (22, .bipush (-9), 2), (24, .ireturn, 1), (25, .aload_n 0, 1), (26, .getfield 18, 3), (29, .aload_n 2, 1), (30, .getfield 222, 3), (33, .invokevirtual 113, 3), (36, .pop, 1), (37, .aload_n 2, 1), (38, .invokevirtual 229, 3), (41, .aload_n 0, 1), (42, .iload_n 1, 1), (43, .invokevirtual 232, 3), (46, .aload_n 2, 1), (47, .getfield 216, 3), (50, .ireturn, 1)]
theorem vq_cX3_takeHeld_0 : vl_ok cX3_takeHeld vl_cX3_takeHeld_0 = true := by decide +kernel
theorem dX3_takeHeld_0 : decode cX3_takeHeld 0 = .ok (.iload_n 1, 1) := vl_at vq_cX3_takeHeld_0 (i := 0) rfl
theorem dX3_takeHeld_1 : decode cX3_takeHeld 1 = .ok (.invokestatic 200, 3) := vl_at vq_cX3_takeHeld_0 (i := 1) rfl
theorem dX3_takeHeld_4 : decode cX3_takeHeld 4 = .ok (.aload_n 0, 1) := vl_at vq_cX3_takeHeld_0 (i := 2) rfl
theorem dX3_takeHeld_5 : decode cX3_takeHeld 5 = .ok (.iload_n 1, 1) := vl_at vq_cX3_takeHeld_0 (i := 3) rfl
theorem dX3_takeHeld_6 : decode cX3_takeHeld 6 = .ok (.invokevirtual 210, 3) := vl_at vq_cX3_takeHeld_0 (i := 4) rfl
theorem dX3_takeHeld_9 : decode cX3_takeHeld 9 = .ok (.aload_n 0, 1) := vl_at vq_cX3_takeHeld_0 (i := 5) rfl
theorem dX3_takeHeld_10 : decode cX3_takeHeld 10 = .ok (.iload_n 1, 1) := vl_at vq_cX3_takeHeld_0 (i := 6) rfl
theorem dX3_takeHeld_11 : decode cX3_takeHeld 11 = .ok (.invokevirtual 203, 3) := vl_at vq_cX3_takeHeld_0 (i := 7) rfl
theorem dX3_takeHeld_14 : decode cX3_takeHeld 14 = .ok (.astore_n 2, 1) := vl_at vq_cX3_takeHeld_0 (i := 8) rfl
theorem dX3_takeHeld_15 : decode cX3_takeHeld 15 = .ok (.aload_n 2, 1) := vl_at vq_cX3_takeHeld_0 (i := 9) rfl
theorem dX3_takeHeld_16 : decode cX3_takeHeld 16 = .ok (.invokevirtual 226, 3) := vl_at vq_cX3_takeHeld_0 (i := 10) rfl
theorem dX3_takeHeld_19 : decode cX3_takeHeld 19 = .ok (.ifCond .ne 6, 3) := vl_at vq_cX3_takeHeld_0 (i := 11) rfl
theorem dX3_takeHeld_22 : decode cX3_takeHeld 22 = .ok (.bipush (-9), 2) := vl_at vq_cX3_takeHeld_0 (i := 12) rfl
theorem dX3_takeHeld_24 : decode cX3_takeHeld 24 = .ok (.ireturn, 1) := vl_at vq_cX3_takeHeld_0 (i := 13) rfl
theorem dX3_takeHeld_25 : decode cX3_takeHeld 25 = .ok (.aload_n 0, 1) := vl_at vq_cX3_takeHeld_0 (i := 14) rfl
theorem dX3_takeHeld_26 : decode cX3_takeHeld 26 = .ok (.getfield 18, 3) := vl_at vq_cX3_takeHeld_0 (i := 15) rfl
theorem dX3_takeHeld_29 : decode cX3_takeHeld 29 = .ok (.aload_n 2, 1) := vl_at vq_cX3_takeHeld_0 (i := 16) rfl
theorem dX3_takeHeld_30 : decode cX3_takeHeld 30 = .ok (.getfield 222, 3) := vl_at vq_cX3_takeHeld_0 (i := 17) rfl
theorem dX3_takeHeld_33 : decode cX3_takeHeld 33 = .ok (.invokevirtual 113, 3) := vl_at vq_cX3_takeHeld_0 (i := 18) rfl
theorem dX3_takeHeld_36 : decode cX3_takeHeld 36 = .ok (.pop, 1) := vl_at vq_cX3_takeHeld_0 (i := 19) rfl
theorem dX3_takeHeld_37 : decode cX3_takeHeld 37 = .ok (.aload_n 2, 1) := vl_at vq_cX3_takeHeld_0 (i := 20) rfl
theorem dX3_takeHeld_38 : decode cX3_takeHeld 38 = .ok (.invokevirtual 229, 3) := vl_at vq_cX3_takeHeld_0 (i := 21) rfl
theorem dX3_takeHeld_41 : decode cX3_takeHeld 41 = .ok (.aload_n 0, 1) := vl_at vq_cX3_takeHeld_0 (i := 22) rfl
theorem dX3_takeHeld_42 : decode cX3_takeHeld 42 = .ok (.iload_n 1, 1) := vl_at vq_cX3_takeHeld_0 (i := 23) rfl
theorem dX3_takeHeld_43 : decode cX3_takeHeld 43 = .ok (.invokevirtual 232, 3) := vl_at vq_cX3_takeHeld_0 (i := 24) rfl
theorem dX3_takeHeld_46 : decode cX3_takeHeld 46 = .ok (.aload_n 2, 1) := vl_at vq_cX3_takeHeld_0 (i := 25) rfl
theorem dX3_takeHeld_47 : decode cX3_takeHeld 47 = .ok (.getfield 216, 3) := vl_at vq_cX3_takeHeld_0 (i := 26) rfl
theorem dX3_takeHeld_50 : decode cX3_takeHeld 50 = .ok (.ireturn, 1) := vl_at vq_cX3_takeHeld_0 (i := 27) rfl
noncomputable def vl_cX3_setHeld_0 : List (Nat × Instr × Nat) := [(0, .iload_n 1, 1), (1, .invokestatic 200, 3), (4, .iload_n 2, 1), (5, .iload_n 3, 1), (6, .invokestatic 188, 3), (9, .aload_n 0, 1), (10, .iload_n 1, 1), (11, .invokevirtual 210, 3), (14, .aload_n 0, 1), (15, .iload_n 1, 1), (16, .invokevirtual 203, 3), (19, .astore 4, 2), (21, .aload 4, 2), (23, .invokevirtual 226, 3), (26, .ifCond .ne 6, 3), (29, .bipush (-9), 2), (31, .ireturn, 1), (32, .aload_n 0, 1), (33, .aload 4, 2), (35, .getfield 222, 3), (38, .iload_n 2, 1), (39, .iload_n 3, 1), (40, .invokestatic 84, 3), (43, .invokevirtual 191, 3), (46, .aload 4, 2), (48, .getfield 216, 3), (51, .ireturn, 1)]
theorem vq_cX3_setHeld_0 : vl_ok cX3_setHeld vl_cX3_setHeld_0 = true := by decide +kernel
theorem dX3_setHeld_0 : decode cX3_setHeld 0 = .ok (.iload_n 1, 1) := vl_at vq_cX3_setHeld_0 (i := 0) rfl
theorem dX3_setHeld_1 : decode cX3_setHeld 1 = .ok (.invokestatic 200, 3) := vl_at vq_cX3_setHeld_0 (i := 1) rfl
theorem dX3_setHeld_4 : decode cX3_setHeld 4 = .ok (.iload_n 2, 1) := vl_at vq_cX3_setHeld_0 (i := 2) rfl
theorem dX3_setHeld_5 : decode cX3_setHeld 5 = .ok (.iload_n 3, 1) := vl_at vq_cX3_setHeld_0 (i := 3) rfl
theorem dX3_setHeld_6 : decode cX3_setHeld 6 = .ok (.invokestatic 188, 3) := vl_at vq_cX3_setHeld_0 (i := 4) rfl
theorem dX3_setHeld_9 : decode cX3_setHeld 9 = .ok (.aload_n 0, 1) := vl_at vq_cX3_setHeld_0 (i := 5) rfl
theorem dX3_setHeld_10 : decode cX3_setHeld 10 = .ok (.iload_n 1, 1) := vl_at vq_cX3_setHeld_0 (i := 6) rfl
theorem dX3_setHeld_11 : decode cX3_setHeld 11 = .ok (.invokevirtual 210, 3) := vl_at vq_cX3_setHeld_0 (i := 7) rfl
theorem dX3_setHeld_14 : decode cX3_setHeld 14 = .ok (.aload_n 0, 1) := vl_at vq_cX3_setHeld_0 (i := 8) rfl
theorem dX3_setHeld_15 : decode cX3_setHeld 15 = .ok (.iload_n 1, 1) := vl_at vq_cX3_setHeld_0 (i := 9) rfl
theorem dX3_setHeld_16 : decode cX3_setHeld 16 = .ok (.invokevirtual 203, 3) := vl_at vq_cX3_setHeld_0 (i := 10) rfl
theorem dX3_setHeld_19 : decode cX3_setHeld 19 = .ok (.astore 4, 2) := vl_at vq_cX3_setHeld_0 (i := 11) rfl
theorem dX3_setHeld_21 : decode cX3_setHeld 21 = .ok (.aload 4, 2) := vl_at vq_cX3_setHeld_0 (i := 12) rfl
theorem dX3_setHeld_23 : decode cX3_setHeld 23 = .ok (.invokevirtual 226, 3) := vl_at vq_cX3_setHeld_0 (i := 13) rfl
theorem dX3_setHeld_26 : decode cX3_setHeld 26 = .ok (.ifCond .ne 6, 3) := vl_at vq_cX3_setHeld_0 (i := 14) rfl
theorem dX3_setHeld_29 : decode cX3_setHeld 29 = .ok (.bipush (-9), 2) := vl_at vq_cX3_setHeld_0 (i := 15) rfl
theorem dX3_setHeld_31 : decode cX3_setHeld 31 = .ok (.ireturn, 1) := vl_at vq_cX3_setHeld_0 (i := 16) rfl
theorem dX3_setHeld_32 : decode cX3_setHeld 32 = .ok (.aload_n 0, 1) := vl_at vq_cX3_setHeld_0 (i := 17) rfl
theorem dX3_setHeld_33 : decode cX3_setHeld 33 = .ok (.aload 4, 2) := vl_at vq_cX3_setHeld_0 (i := 18) rfl
theorem dX3_setHeld_35 : decode cX3_setHeld 35 = .ok (.getfield 222, 3) := vl_at vq_cX3_setHeld_0 (i := 19) rfl
theorem dX3_setHeld_38 : decode cX3_setHeld 38 = .ok (.iload_n 2, 1) := vl_at vq_cX3_setHeld_0 (i := 20) rfl
theorem dX3_setHeld_39 : decode cX3_setHeld 39 = .ok (.iload_n 3, 1) := vl_at vq_cX3_setHeld_0 (i := 21) rfl
theorem dX3_setHeld_40 : decode cX3_setHeld 40 = .ok (.invokestatic 84, 3) := vl_at vq_cX3_setHeld_0 (i := 22) rfl
theorem dX3_setHeld_43 : decode cX3_setHeld 43 = .ok (.invokevirtual 191, 3) := vl_at vq_cX3_setHeld_0 (i := 23) rfl
theorem dX3_setHeld_46 : decode cX3_setHeld 46 = .ok (.aload 4, 2) := vl_at vq_cX3_setHeld_0 (i := 24) rfl
theorem dX3_setHeld_48 : decode cX3_setHeld 48 = .ok (.getfield 216, 3) := vl_at vq_cX3_setHeld_0 (i := 25) rfl
theorem dX3_setHeld_51 : decode cX3_setHeld 51 = .ok (.ireturn, 1) := vl_at vq_cX3_setHeld_0 (i := 26) rfl
noncomputable def vl_cX3_put_0 : List (Nat × Instr × Nat) := [(0, .iload_n 1, 1), (1, .invokestatic 200, 3), (4, .iload_n 2, 1), (5, .iload_n 3, 1), (6, .invokestatic 188, 3), (9, .aload_n 0, 1), (10, .iload_n 1, 1), (11, .invokevirtual 210, 3), (14, .aload_n 0, 1), (15, .iconst 1, 1), (16, .iconst 1, 1), (17, .invokevirtual 80, 3), (20, .aload_n 0, 1), (21, .iload_n 1, 1), (22, .invokevirtual 203, 3), (25, .astore 4, 2), (27, .aload 4, 2), (29, .invokevirtual 213, 3), (32, .ifCond .ne 6, 3), (35, .bipush (-9), 2), (37, .ireturn, 1), (38, .aload_n 0, 1), (39, .getfield 18, 3), (42, .aload 4, 2), (44, .getfield 216, 3), (47, .iload_n 2, 1), (48, .iload_n 3, 1), (49, .invokestatic 84, 3), (52, .invokevirtual 129, 3), (55, .aload 4, 2), (57, .invokevirtual 235, 3), (60, .aload_n 0, 1), (61, .iload_n 1, 1), (62, .invokevirtual 232, 3), (65, .aload 4, 2), (67, .getfield 216, 3), (70, .ireturn, 1)]
theorem vq_cX3_put_0 : vl_ok cX3_put vl_cX3_put_0 = true := by decide +kernel
theorem dX3_put_0 : decode cX3_put 0 = .ok (.iload_n 1, 1) := vl_at vq_cX3_put_0 (i := 0) rfl
theorem dX3_put_1 : decode cX3_put 1 = .ok (.invokestatic 200, 3) := vl_at vq_cX3_put_0 (i := 1) rfl
theorem dX3_put_4 : decode cX3_put 4 = .ok (.iload_n 2, 1) := vl_at vq_cX3_put_0 (i := 2) rfl
theorem dX3_put_5 : decode cX3_put 5 = .ok (.iload_n 3, 1) := vl_at vq_cX3_put_0 (i := 3) rfl
theorem dX3_put_6 : decode cX3_put 6 = .ok (.invokestatic 188, 3) := vl_at vq_cX3_put_0 (i := 4) rfl
theorem dX3_put_9 : decode cX3_put 9 = .ok (.aload_n 0, 1) := vl_at vq_cX3_put_0 (i := 5) rfl
theorem dX3_put_10 : decode cX3_put 10 = .ok (.iload_n 1, 1) := vl_at vq_cX3_put_0 (i := 6) rfl
theorem dX3_put_11 : decode cX3_put 11 = .ok (.invokevirtual 210, 3) := vl_at vq_cX3_put_0 (i := 7) rfl
theorem dX3_put_14 : decode cX3_put 14 = .ok (.aload_n 0, 1) := vl_at vq_cX3_put_0 (i := 8) rfl
theorem dX3_put_15 : decode cX3_put 15 = .ok (.iconst 1, 1) := vl_at vq_cX3_put_0 (i := 9) rfl
theorem dX3_put_16 : decode cX3_put 16 = .ok (.iconst 1, 1) := vl_at vq_cX3_put_0 (i := 10) rfl
theorem dX3_put_17 : decode cX3_put 17 = .ok (.invokevirtual 80, 3) := vl_at vq_cX3_put_0 (i := 11) rfl
theorem dX3_put_20 : decode cX3_put 20 = .ok (.aload_n 0, 1) := vl_at vq_cX3_put_0 (i := 12) rfl
theorem dX3_put_21 : decode cX3_put 21 = .ok (.iload_n 1, 1) := vl_at vq_cX3_put_0 (i := 13) rfl
theorem dX3_put_22 : decode cX3_put 22 = .ok (.invokevirtual 203, 3) := vl_at vq_cX3_put_0 (i := 14) rfl
theorem dX3_put_25 : decode cX3_put 25 = .ok (.astore 4, 2) := vl_at vq_cX3_put_0 (i := 15) rfl
theorem dX3_put_27 : decode cX3_put 27 = .ok (.aload 4, 2) := vl_at vq_cX3_put_0 (i := 16) rfl
theorem dX3_put_29 : decode cX3_put 29 = .ok (.invokevirtual 213, 3) := vl_at vq_cX3_put_0 (i := 17) rfl
theorem dX3_put_32 : decode cX3_put 32 = .ok (.ifCond .ne 6, 3) := vl_at vq_cX3_put_0 (i := 18) rfl
theorem dX3_put_35 : decode cX3_put 35 = .ok (.bipush (-9), 2) := vl_at vq_cX3_put_0 (i := 19) rfl
theorem dX3_put_37 : decode cX3_put 37 = .ok (.ireturn, 1) := vl_at vq_cX3_put_0 (i := 20) rfl
theorem dX3_put_38 : decode cX3_put 38 = .ok (.aload_n 0, 1) := vl_at vq_cX3_put_0 (i := 21) rfl
theorem dX3_put_39 : decode cX3_put 39 = .ok (.getfield 18, 3) := vl_at vq_cX3_put_0 (i := 22) rfl
theorem dX3_put_42 : decode cX3_put 42 = .ok (.aload 4, 2) := vl_at vq_cX3_put_0 (i := 23) rfl
theorem dX3_put_44 : decode cX3_put 44 = .ok (.getfield 216, 3) := vl_at vq_cX3_put_0 (i := 24) rfl
theorem dX3_put_47 : decode cX3_put 47 = .ok (.iload_n 2, 1) := vl_at vq_cX3_put_0 (i := 25) rfl
theorem dX3_put_48 : decode cX3_put 48 = .ok (.iload_n 3, 1) := vl_at vq_cX3_put_0 (i := 26) rfl
theorem dX3_put_49 : decode cX3_put 49 = .ok (.invokestatic 84, 3) := vl_at vq_cX3_put_0 (i := 27) rfl
theorem dX3_put_52 : decode cX3_put 52 = .ok (.invokevirtual 129, 3) := vl_at vq_cX3_put_0 (i := 28) rfl
theorem dX3_put_55 : decode cX3_put 55 = .ok (.aload 4, 2) := vl_at vq_cX3_put_0 (i := 29) rfl
theorem dX3_put_57 : decode cX3_put 57 = .ok (.invokevirtual 235, 3) := vl_at vq_cX3_put_0 (i := 30) rfl
theorem dX3_put_60 : decode cX3_put 60 = .ok (.aload_n 0, 1) := vl_at vq_cX3_put_0 (i := 31) rfl
theorem dX3_put_61 : decode cX3_put 61 = .ok (.iload_n 1, 1) := vl_at vq_cX3_put_0 (i := 32) rfl
theorem dX3_put_62 : decode cX3_put 62 = .ok (.invokevirtual 232, 3) := vl_at vq_cX3_put_0 (i := 33) rfl
theorem dX3_put_65 : decode cX3_put 65 = .ok (.aload 4, 2) := vl_at vq_cX3_put_0 (i := 34) rfl
theorem dX3_put_67 : decode cX3_put 67 = .ok (.getfield 216, 3) := vl_at vq_cX3_put_0 (i := 35) rfl
theorem dX3_put_70 : decode cX3_put 70 = .ok (.ireturn, 1) := vl_at vq_cX3_put_0 (i := 36) rfl
noncomputable def vl_cX3_where_0 : List (Nat × Instr × Nat) := [(0, .iload_n 1, 1), (1, .invokestatic 200, 3), (4, .iload_n 2, 1), (5, .iconst 0, 1), (6, .iconst 4, 1), (7, .invokestatic 76, 3), (10, .iload_n 2, 1), (11, .ifCond .le 24, 3), (14, .aload_n 0, 1), (15, .iload_n 1, 1), (16, .invokevirtual 203, 3), (19, .invokevirtual 213, 3), (22, .ifCond .ne 13, 3), (25, .new 238, 3), (28, .dup, 1), (29, .ldc 240, 2), (31, .invokespecial 242, 3), (34, .athrow, 1), (35, .aload_n 0, 1), (36, .iload_n 1, 1), (37, .iload_n 2, 1), (38, .invokevirtual 245, 3), (41, .ireturn, 1)]
theorem vq_cX3_where_0 : vl_ok cX3_where vl_cX3_where_0 = true := by decide +kernel
theorem dX3_where_0 : decode cX3_where 0 = .ok (.iload_n 1, 1) := vl_at vq_cX3_where_0 (i := 0) rfl
theorem dX3_where_1 : decode cX3_where 1 = .ok (.invokestatic 200, 3) := vl_at vq_cX3_where_0 (i := 1) rfl
theorem dX3_where_4 : decode cX3_where 4 = .ok (.iload_n 2, 1) := vl_at vq_cX3_where_0 (i := 2) rfl
theorem dX3_where_5 : decode cX3_where 5 = .ok (.iconst 0, 1) := vl_at vq_cX3_where_0 (i := 3) rfl
theorem dX3_where_6 : decode cX3_where 6 = .ok (.iconst 4, 1) := vl_at vq_cX3_where_0 (i := 4) rfl
theorem dX3_where_7 : decode cX3_where 7 = .ok (.invokestatic 76, 3) := vl_at vq_cX3_where_0 (i := 5) rfl
theorem dX3_where_10 : decode cX3_where 10 = .ok (.iload_n 2, 1) := vl_at vq_cX3_where_0 (i := 6) rfl
theorem dX3_where_11 : decode cX3_where 11 = .ok (.ifCond .le 24, 3) := vl_at vq_cX3_where_0 (i := 7) rfl
theorem dX3_where_14 : decode cX3_where 14 = .ok (.aload_n 0, 1) := vl_at vq_cX3_where_0 (i := 8) rfl
theorem dX3_where_15 : decode cX3_where 15 = .ok (.iload_n 1, 1) := vl_at vq_cX3_where_0 (i := 9) rfl
theorem dX3_where_16 : decode cX3_where 16 = .ok (.invokevirtual 203, 3) := vl_at vq_cX3_where_0 (i := 10) rfl
theorem dX3_where_19 : decode cX3_where 19 = .ok (.invokevirtual 213, 3) := vl_at vq_cX3_where_0 (i := 11) rfl
theorem dX3_where_22 : decode cX3_where 22 = .ok (.ifCond .ne 13, 3) := vl_at vq_cX3_where_0 (i := 12) rfl
theorem dX3_where_25 : decode cX3_where 25 = .ok (.new 238, 3) := vl_at vq_cX3_where_0 (i := 13) rfl
theorem dX3_where_28 : decode cX3_where 28 = .ok (.dup, 1) := vl_at vq_cX3_where_0 (i := 14) rfl
theorem dX3_where_29 : decode cX3_where 29 = .ok (.ldc 240, 2) := vl_at vq_cX3_where_0 (i := 15) rfl
theorem dX3_where_31 : decode cX3_where 31 = .ok (.invokespecial 242, 3) := vl_at vq_cX3_where_0 (i := 16) rfl
theorem dX3_where_34 : decode cX3_where 34 = .ok (.athrow, 1) := vl_at vq_cX3_where_0 (i := 17) rfl
theorem dX3_where_35 : decode cX3_where 35 = .ok (.aload_n 0, 1) := vl_at vq_cX3_where_0 (i := 18) rfl
theorem dX3_where_36 : decode cX3_where 36 = .ok (.iload_n 1, 1) := vl_at vq_cX3_where_0 (i := 19) rfl
theorem dX3_where_37 : decode cX3_where 37 = .ok (.iload_n 2, 1) := vl_at vq_cX3_where_0 (i := 20) rfl
theorem dX3_where_38 : decode cX3_where 38 = .ok (.invokevirtual 245, 3) := vl_at vq_cX3_where_0 (i := 21) rfl
theorem dX3_where_41 : decode cX3_where 41 = .ok (.ireturn, 1) := vl_at vq_cX3_where_0 (i := 22) rfl
noncomputable def vl_cX3_order_0 : List (Nat × Instr × Nat) := [(0, .iload_n 1, 1), (1, .iconst 0, 1), (2, .bipush 7, 2), (4, .invokestatic 76, 3), (7, .aload_n 0, 1), (8, .getfield 24, 3), (11, .invokevirtual 248, 3), (14, .ifCond .eq 13, 3), (17, .new 238, 3), (20, .dup, 1), (21, .ldc 251, 2), (23, .invokespecial 242, 3), (26, .athrow, 1), (27, .aload_n 0, 1), (28, .getfield 24, 3), (31, .iload_n 1, 1), (32, .invokevirtual 197, 3), (35, .aload_n 0, 1), (36, .getfield 24, 3), (39, .invokevirtual 65, 3), (42, .ireturn, 1)]
theorem vq_cX3_order_0 : vl_ok cX3_order vl_cX3_order_0 = true := by decide +kernel
theorem dX3_order_0 : decode cX3_order 0 = .ok (.iload_n 1, 1) := vl_at vq_cX3_order_0 (i := 0) rfl
theorem dX3_order_1 : decode cX3_order 1 = .ok (.iconst 0, 1) := vl_at vq_cX3_order_0 (i := 1) rfl
theorem dX3_order_2 : decode cX3_order 2 = .ok (.bipush 7, 2) := vl_at vq_cX3_order_0 (i := 2) rfl
theorem dX3_order_4 : decode cX3_order 4 = .ok (.invokestatic 76, 3) := vl_at vq_cX3_order_0 (i := 3) rfl
theorem dX3_order_7 : decode cX3_order 7 = .ok (.aload_n 0, 1) := vl_at vq_cX3_order_0 (i := 4) rfl
theorem dX3_order_8 : decode cX3_order 8 = .ok (.getfield 24, 3) := vl_at vq_cX3_order_0 (i := 5) rfl
theorem dX3_order_11 : decode cX3_order 11 = .ok (.invokevirtual 248, 3) := vl_at vq_cX3_order_0 (i := 6) rfl
theorem dX3_order_14 : decode cX3_order 14 = .ok (.ifCond .eq 13, 3) := vl_at vq_cX3_order_0 (i := 7) rfl
theorem dX3_order_17 : decode cX3_order 17 = .ok (.new 238, 3) := vl_at vq_cX3_order_0 (i := 8) rfl
theorem dX3_order_20 : decode cX3_order 20 = .ok (.dup, 1) := vl_at vq_cX3_order_0 (i := 9) rfl
theorem dX3_order_21 : decode cX3_order 21 = .ok (.ldc 251, 2) := vl_at vq_cX3_order_0 (i := 10) rfl
theorem dX3_order_23 : decode cX3_order 23 = .ok (.invokespecial 242, 3) := vl_at vq_cX3_order_0 (i := 11) rfl
theorem dX3_order_26 : decode cX3_order 26 = .ok (.athrow, 1) := vl_at vq_cX3_order_0 (i := 12) rfl
theorem dX3_order_27 : decode cX3_order 27 = .ok (.aload_n 0, 1) := vl_at vq_cX3_order_0 (i := 13) rfl
theorem dX3_order_28 : decode cX3_order 28 = .ok (.getfield 24, 3) := vl_at vq_cX3_order_0 (i := 14) rfl
theorem dX3_order_31 : decode cX3_order 31 = .ok (.iload_n 1, 1) := vl_at vq_cX3_order_0 (i := 15) rfl
theorem dX3_order_32 : decode cX3_order 32 = .ok (.invokevirtual 197, 3) := vl_at vq_cX3_order_0 (i := 16) rfl
theorem dX3_order_35 : decode cX3_order 35 = .ok (.aload_n 0, 1) := vl_at vq_cX3_order_0 (i := 17) rfl
theorem dX3_order_36 : decode cX3_order 36 = .ok (.getfield 24, 3) := vl_at vq_cX3_order_0 (i := 18) rfl
theorem dX3_order_39 : decode cX3_order 39 = .ok (.invokevirtual 65, 3) := vl_at vq_cX3_order_0 (i := 19) rfl
theorem dX3_order_42 : decode cX3_order 42 = .ok (.ireturn, 1) := vl_at vq_cX3_order_0 (i := 20) rfl
noncomputable def vl_cX3_work_0 : List (Nat × Instr × Nat) := [(0, .iload_n 1, 1), (1, .iconst 1, 1), (2, .bipush 10, 2), (4, .invokestatic 76, 3), (7, .iconst 0, 1), (8, .istore_n 2, 1), (9, .iconst 0, 1), (10, .istore_n 3, 1), (11, .iload_n 3, 1), (12, .iload_n 1, 1), (13, .if_icmp .ge 59, 3), (16, .aload_n 0, 1), (17, .getfield 24, 3), (20, .invokevirtual 96, 3), (23, .ifCond .ne 49, 3), (26, .aload_n 0, 1), (27, .getfield 24, 3), (30, .iconst 0, 1), (31, .invokevirtual 113, 3), (34, .istore 4, 2), (36, .aload_n 0, 1), (37, .iload 4, 2), (39, .invokevirtual 253, 3), (42, .ifCond .eq 15, 3), (45, .aload_n 0, 1), (46, .iload 4, 2), (48, .invokevirtual 256, 3), (51, .iinc 2 1, 3), (54, .goto 12, 3), (57, .aload_n 0, 1), (58, .getfield 24, 3), (61, .iload 4, 2), (63, .invokevirtual 197, 3), (66, .iinc 3 1, 3), (69, .goto (-58), 3), (72, .iload_n 2, 1), (73, .ireturn, 1)]
theorem vq_cX3_work_0 : vl_ok cX3_work vl_cX3_work_0 = true := by decide +kernel
theorem dX3_work_0 : decode cX3_work 0 = .ok (.iload_n 1, 1) := vl_at vq_cX3_work_0 (i := 0) rfl
theorem dX3_work_1 : decode cX3_work 1 = .ok (.iconst 1, 1) := vl_at vq_cX3_work_0 (i := 1) rfl
theorem dX3_work_2 : decode cX3_work 2 = .ok (.bipush 10, 2) := vl_at vq_cX3_work_0 (i := 2) rfl
theorem dX3_work_4 : decode cX3_work 4 = .ok (.invokestatic 76, 3) := vl_at vq_cX3_work_0 (i := 3) rfl
theorem dX3_work_7 : decode cX3_work 7 = .ok (.iconst 0, 1) := vl_at vq_cX3_work_0 (i := 4) rfl
theorem dX3_work_8 : decode cX3_work 8 = .ok (.istore_n 2, 1) := vl_at vq_cX3_work_0 (i := 5) rfl
theorem dX3_work_9 : decode cX3_work 9 = .ok (.iconst 0, 1) := vl_at vq_cX3_work_0 (i := 6) rfl
theorem dX3_work_10 : decode cX3_work 10 = .ok (.istore_n 3, 1) := vl_at vq_cX3_work_0 (i := 7) rfl
theorem dX3_work_11 : decode cX3_work 11 = .ok (.iload_n 3, 1) := vl_at vq_cX3_work_0 (i := 8) rfl
theorem dX3_work_12 : decode cX3_work 12 = .ok (.iload_n 1, 1) := vl_at vq_cX3_work_0 (i := 9) rfl
theorem dX3_work_13 : decode cX3_work 13 = .ok (.if_icmp .ge 59, 3) := vl_at vq_cX3_work_0 (i := 10) rfl
theorem dX3_work_16 : decode cX3_work 16 = .ok (.aload_n 0, 1) := vl_at vq_cX3_work_0 (i := 11) rfl
theorem dX3_work_17 : decode cX3_work 17 = .ok (.getfield 24, 3) := vl_at vq_cX3_work_0 (i := 12) rfl
theorem dX3_work_20 : decode cX3_work 20 = .ok (.invokevirtual 96, 3) := vl_at vq_cX3_work_0 (i := 13) rfl
theorem dX3_work_23 : decode cX3_work 23 = .ok (.ifCond .ne 49, 3) := vl_at vq_cX3_work_0 (i := 14) rfl
theorem dX3_work_26 : decode cX3_work 26 = .ok (.aload_n 0, 1) := vl_at vq_cX3_work_0 (i := 15) rfl
theorem dX3_work_27 : decode cX3_work 27 = .ok (.getfield 24, 3) := vl_at vq_cX3_work_0 (i := 16) rfl
theorem dX3_work_30 : decode cX3_work 30 = .ok (.iconst 0, 1) := vl_at vq_cX3_work_0 (i := 17) rfl
theorem dX3_work_31 : decode cX3_work 31 = .ok (.invokevirtual 113, 3) := vl_at vq_cX3_work_0 (i := 18) rfl
theorem dX3_work_34 : decode cX3_work 34 = .ok (.istore 4, 2) := vl_at vq_cX3_work_0 (i := 19) rfl
theorem dX3_work_36 : decode cX3_work 36 = .ok (.aload_n 0, 1) := vl_at vq_cX3_work_0 (i := 20) rfl
theorem dX3_work_37 : decode cX3_work 37 = .ok (.iload 4, 2) := vl_at vq_cX3_work_0 (i := 21) rfl
theorem dX3_work_39 : decode cX3_work 39 = .ok (.invokevirtual 253, 3) := vl_at vq_cX3_work_0 (i := 22) rfl
theorem dX3_work_42 : decode cX3_work 42 = .ok (.ifCond .eq 15, 3) := vl_at vq_cX3_work_0 (i := 23) rfl
theorem dX3_work_45 : decode cX3_work 45 = .ok (.aload_n 0, 1) := vl_at vq_cX3_work_0 (i := 24) rfl
theorem dX3_work_46 : decode cX3_work 46 = .ok (.iload 4, 2) := vl_at vq_cX3_work_0 (i := 25) rfl
theorem dX3_work_48 : decode cX3_work 48 = .ok (.invokevirtual 256, 3) := vl_at vq_cX3_work_0 (i := 26) rfl
theorem dX3_work_51 : decode cX3_work 51 = .ok (.iinc 2 1, 3) := vl_at vq_cX3_work_0 (i := 27) rfl
theorem dX3_work_54 : decode cX3_work 54 = .ok (.goto 12, 3) := vl_at vq_cX3_work_0 (i := 28) rfl
theorem dX3_work_57 : decode cX3_work 57 = .ok (.aload_n 0, 1) := vl_at vq_cX3_work_0 (i := 29) rfl
theorem dX3_work_58 : decode cX3_work 58 = .ok (.getfield 24, 3) := vl_at vq_cX3_work_0 (i := 30) rfl
theorem dX3_work_61 : decode cX3_work 61 = .ok (.iload 4, 2) := vl_at vq_cX3_work_0 (i := 31) rfl
theorem dX3_work_63 : decode cX3_work 63 = .ok (.invokevirtual 197, 3) := vl_at vq_cX3_work_0 (i := 32) rfl
theorem dX3_work_66 : decode cX3_work 66 = .ok (.iinc 3 1, 3) := vl_at vq_cX3_work_0 (i := 33) rfl
theorem dX3_work_69 : decode cX3_work 69 = .ok (.goto (-58), 3) := vl_at vq_cX3_work_0 (i := 34) rfl
theorem dX3_work_72 : decode cX3_work 72 = .ok (.iload_n 2, 1) := vl_at vq_cX3_work_0 (i := 35) rfl
theorem dX3_work_73 : decode cX3_work 73 = .ok (.ireturn, 1) := vl_at vq_cX3_work_0 (i := 36) rfl
noncomputable def vl_cX3_cancel_0 : List (Nat × Instr × Nat) := [(0, .iload_n 1, 1), (1, .iconst 0, 1), (2, .bipush 7, 2), (4, .invokestatic 76, 3), (7, .aload_n 0, 1), (8, .getfield 24, 3), (11, .iload_n 1, 1), (12, .iload_n 2, 1), (13, .invokevirtual 259, 3), (16, .istore_n 3, 1), (17, .iload_n 3, 1), (18, .iconst (-1), 1), (19, .if_icmp .ne 5, 3), (22, .iconst 0, 1), (23, .ireturn, 1), (24, .aload_n 0, 1), (25, .getfield 24, 3), (28, .iload_n 3, 1), (29, .invokevirtual 113, 3), (32, .pop, 1), (33, .iconst 1, 1), (34, .ireturn, 1)]
theorem vq_cX3_cancel_0 : vl_ok cX3_cancel vl_cX3_cancel_0 = true := by decide +kernel
theorem dX3_cancel_0 : decode cX3_cancel 0 = .ok (.iload_n 1, 1) := vl_at vq_cX3_cancel_0 (i := 0) rfl
theorem dX3_cancel_1 : decode cX3_cancel 1 = .ok (.iconst 0, 1) := vl_at vq_cX3_cancel_0 (i := 1) rfl
theorem dX3_cancel_2 : decode cX3_cancel 2 = .ok (.bipush 7, 2) := vl_at vq_cX3_cancel_0 (i := 2) rfl
theorem dX3_cancel_4 : decode cX3_cancel 4 = .ok (.invokestatic 76, 3) := vl_at vq_cX3_cancel_0 (i := 3) rfl
theorem dX3_cancel_7 : decode cX3_cancel 7 = .ok (.aload_n 0, 1) := vl_at vq_cX3_cancel_0 (i := 4) rfl
theorem dX3_cancel_8 : decode cX3_cancel 8 = .ok (.getfield 24, 3) := vl_at vq_cX3_cancel_0 (i := 5) rfl
theorem dX3_cancel_11 : decode cX3_cancel 11 = .ok (.iload_n 1, 1) := vl_at vq_cX3_cancel_0 (i := 6) rfl
theorem dX3_cancel_12 : decode cX3_cancel 12 = .ok (.iload_n 2, 1) := vl_at vq_cX3_cancel_0 (i := 7) rfl
theorem dX3_cancel_13 : decode cX3_cancel 13 = .ok (.invokevirtual 259, 3) := vl_at vq_cX3_cancel_0 (i := 8) rfl
theorem dX3_cancel_16 : decode cX3_cancel 16 = .ok (.istore_n 3, 1) := vl_at vq_cX3_cancel_0 (i := 9) rfl
theorem dX3_cancel_17 : decode cX3_cancel 17 = .ok (.iload_n 3, 1) := vl_at vq_cX3_cancel_0 (i := 10) rfl
theorem dX3_cancel_18 : decode cX3_cancel 18 = .ok (.iconst (-1), 1) := vl_at vq_cX3_cancel_0 (i := 11) rfl
theorem dX3_cancel_19 : decode cX3_cancel 19 = .ok (.if_icmp .ne 5, 3) := vl_at vq_cX3_cancel_0 (i := 12) rfl
theorem dX3_cancel_22 : decode cX3_cancel 22 = .ok (.iconst 0, 1) := vl_at vq_cX3_cancel_0 (i := 13) rfl
theorem dX3_cancel_23 : decode cX3_cancel 23 = .ok (.ireturn, 1) := vl_at vq_cX3_cancel_0 (i := 14) rfl
theorem dX3_cancel_24 : decode cX3_cancel 24 = .ok (.aload_n 0, 1) := vl_at vq_cX3_cancel_0 (i := 15) rfl
theorem dX3_cancel_25 : decode cX3_cancel 25 = .ok (.getfield 24, 3) := vl_at vq_cX3_cancel_0 (i := 16) rfl
theorem dX3_cancel_28 : decode cX3_cancel 28 = .ok (.iload_n 3, 1) := vl_at vq_cX3_cancel_0 (i := 17) rfl
theorem dX3_cancel_29 : decode cX3_cancel 29 = .ok (.invokevirtual 113, 3) := vl_at vq_cX3_cancel_0 (i := 18) rfl
theorem dX3_cancel_32 : decode cX3_cancel 32 = .ok (.pop, 1) := vl_at vq_cX3_cancel_0 (i := 19) rfl
theorem dX3_cancel_33 : decode cX3_cancel 33 = .ok (.iconst 1, 1) := vl_at vq_cX3_cancel_0 (i := 20) rfl
theorem dX3_cancel_34 : decode cX3_cancel 34 = .ok (.ireturn, 1) := vl_at vq_cX3_cancel_0 (i := 21) rfl
noncomputable def vl_cX3_ask_0 : List (Nat × Instr × Nat) := [(0, .iload_n 1, 1), (1, .invokestatic 69, 3), (4, .iload_n 2, 1), (5, .iconst 0, 1), (6, .iconst 5, 1), (7, .invokestatic 76, 3), (10, .aload_n 0, 1), (11, .iload_n 1, 1), (12, .iload_n 2, 1), (13, .invokevirtual 262, 3), (16, .ireturn, 1)]
theorem vq_cX3_ask_0 : vl_ok cX3_ask vl_cX3_ask_0 = true := by decide +kernel
theorem dX3_ask_0 : decode cX3_ask 0 = .ok (.iload_n 1, 1) := vl_at vq_cX3_ask_0 (i := 0) rfl
theorem dX3_ask_1 : decode cX3_ask 1 = .ok (.invokestatic 69, 3) := vl_at vq_cX3_ask_0 (i := 1) rfl
theorem dX3_ask_4 : decode cX3_ask 4 = .ok (.iload_n 2, 1) := vl_at vq_cX3_ask_0 (i := 2) rfl
theorem dX3_ask_5 : decode cX3_ask 5 = .ok (.iconst 0, 1) := vl_at vq_cX3_ask_0 (i := 3) rfl
theorem dX3_ask_6 : decode cX3_ask 6 = .ok (.iconst 5, 1) := vl_at vq_cX3_ask_0 (i := 4) rfl
theorem dX3_ask_7 : decode cX3_ask 7 = .ok (.invokestatic 76, 3) := vl_at vq_cX3_ask_0 (i := 5) rfl
theorem dX3_ask_10 : decode cX3_ask 10 = .ok (.aload_n 0, 1) := vl_at vq_cX3_ask_0 (i := 6) rfl
theorem dX3_ask_11 : decode cX3_ask 11 = .ok (.iload_n 1, 1) := vl_at vq_cX3_ask_0 (i := 7) rfl
theorem dX3_ask_12 : decode cX3_ask 12 = .ok (.iload_n 2, 1) := vl_at vq_cX3_ask_0 (i := 8) rfl
theorem dX3_ask_13 : decode cX3_ask 13 = .ok (.invokevirtual 262, 3) := vl_at vq_cX3_ask_0 (i := 9) rfl
theorem dX3_ask_16 : decode cX3_ask 16 = .ok (.ireturn, 1) := vl_at vq_cX3_ask_0 (i := 10) rfl
noncomputable def vl_cX3_ofTrack_0 : List (Nat × Instr × Nat) := [(0, .iload_n 1, 1), (1, .invokestatic 69, 3), (4, .iload_n 2, 1), (5, .iconst 0, 1), (6, .iconst 3, 1), (7, .invokestatic 76, 3), (10, .aload_n 0, 1), (11, .iload_n 1, 1), (12, .iload_n 2, 1), (13, .invokevirtual 265, 3), (16, .ireturn, 1)]
theorem vq_cX3_ofTrack_0 : vl_ok cX3_ofTrack vl_cX3_ofTrack_0 = true := by decide +kernel
theorem dX3_ofTrack_0 : decode cX3_ofTrack 0 = .ok (.iload_n 1, 1) := vl_at vq_cX3_ofTrack_0 (i := 0) rfl
theorem dX3_ofTrack_1 : decode cX3_ofTrack 1 = .ok (.invokestatic 69, 3) := vl_at vq_cX3_ofTrack_0 (i := 1) rfl
theorem dX3_ofTrack_4 : decode cX3_ofTrack 4 = .ok (.iload_n 2, 1) := vl_at vq_cX3_ofTrack_0 (i := 2) rfl
theorem dX3_ofTrack_5 : decode cX3_ofTrack 5 = .ok (.iconst 0, 1) := vl_at vq_cX3_ofTrack_0 (i := 3) rfl
theorem dX3_ofTrack_6 : decode cX3_ofTrack 6 = .ok (.iconst 3, 1) := vl_at vq_cX3_ofTrack_0 (i := 4) rfl
theorem dX3_ofTrack_7 : decode cX3_ofTrack 7 = .ok (.invokestatic 76, 3) := vl_at vq_cX3_ofTrack_0 (i := 5) rfl
theorem dX3_ofTrack_10 : decode cX3_ofTrack 10 = .ok (.aload_n 0, 1) := vl_at vq_cX3_ofTrack_0 (i := 6) rfl
theorem dX3_ofTrack_11 : decode cX3_ofTrack 11 = .ok (.iload_n 1, 1) := vl_at vq_cX3_ofTrack_0 (i := 7) rfl
theorem dX3_ofTrack_12 : decode cX3_ofTrack 12 = .ok (.iload_n 2, 1) := vl_at vq_cX3_ofTrack_0 (i := 8) rfl
theorem dX3_ofTrack_13 : decode cX3_ofTrack 13 = .ok (.invokevirtual 265, 3) := vl_at vq_cX3_ofTrack_0 (i := 9) rfl
theorem dX3_ofTrack_16 : decode cX3_ofTrack 16 = .ok (.ireturn, 1) := vl_at vq_cX3_ofTrack_0 (i := 10) rfl
noncomputable def vl_cX3_has_0 : List (Nat × Instr × Nat) := [(0, .iload_n 1, 1), (1, .invokestatic 69, 3), (4, .iload_n 1, 1), (5, .iload_n 2, 1), (6, .invokestatic 135, 3), (9, .aload_n 0, 1), (10, .iload_n 1, 1), (11, .invokevirtual 61, 3), (14, .iload_n 2, 1), (15, .iconst 0, 1), (16, .invokevirtual 138, 3), (19, .iconst (-1), 1), (20, .if_icmp .eq 7, 3), (23, .iconst 1, 1), (24, .goto 4, 3), (27, .iconst 0, 1), (28, .ireturn, 1)]
theorem vq_cX3_has_0 : vl_ok cX3_has vl_cX3_has_0 = true := by decide +kernel
theorem dX3_has_0 : decode cX3_has 0 = .ok (.iload_n 1, 1) := vl_at vq_cX3_has_0 (i := 0) rfl
theorem dX3_has_1 : decode cX3_has 1 = .ok (.invokestatic 69, 3) := vl_at vq_cX3_has_0 (i := 1) rfl
theorem dX3_has_4 : decode cX3_has 4 = .ok (.iload_n 1, 1) := vl_at vq_cX3_has_0 (i := 2) rfl
theorem dX3_has_5 : decode cX3_has 5 = .ok (.iload_n 2, 1) := vl_at vq_cX3_has_0 (i := 3) rfl
theorem dX3_has_6 : decode cX3_has 6 = .ok (.invokestatic 135, 3) := vl_at vq_cX3_has_0 (i := 4) rfl
theorem dX3_has_9 : decode cX3_has 9 = .ok (.aload_n 0, 1) := vl_at vq_cX3_has_0 (i := 5) rfl
theorem dX3_has_10 : decode cX3_has 10 = .ok (.iload_n 1, 1) := vl_at vq_cX3_has_0 (i := 6) rfl
theorem dX3_has_11 : decode cX3_has 11 = .ok (.invokevirtual 61, 3) := vl_at vq_cX3_has_0 (i := 7) rfl
theorem dX3_has_14 : decode cX3_has 14 = .ok (.iload_n 2, 1) := vl_at vq_cX3_has_0 (i := 8) rfl
theorem dX3_has_15 : decode cX3_has 15 = .ok (.iconst 0, 1) := vl_at vq_cX3_has_0 (i := 9) rfl
theorem dX3_has_16 : decode cX3_has 16 = .ok (.invokevirtual 138, 3) := vl_at vq_cX3_has_0 (i := 10) rfl
theorem dX3_has_19 : decode cX3_has 19 = .ok (.iconst (-1), 1) := vl_at vq_cX3_has_0 (i := 11) rfl
theorem dX3_has_20 : decode cX3_has 20 = .ok (.if_icmp .eq 7, 3) := vl_at vq_cX3_has_0 (i := 12) rfl
theorem dX3_has_23 : decode cX3_has 23 = .ok (.iconst 1, 1) := vl_at vq_cX3_has_0 (i := 13) rfl
theorem dX3_has_24 : decode cX3_has 24 = .ok (.goto 4, 3) := vl_at vq_cX3_has_0 (i := 14) rfl
theorem dX3_has_27 : decode cX3_has 27 = .ok (.iconst 0, 1) := vl_at vq_cX3_has_0 (i := 15) rfl
theorem dX3_has_28 : decode cX3_has 28 = .ok (.ireturn, 1) := vl_at vq_cX3_has_0 (i := 16) rfl
noncomputable def vl_cX3_compare_0 : List (Nat × Instr × Nat) := [(0, .iload_n 1, 1), (1, .ifCond .eq 10, 3), (4, .aload_n 0, 1), (5, .invokevirtual 268, 3), (8, .goto 7, 3), (11, .aload_n 0, 1), (12, .invokevirtual 271, 3), (15, .ireturn, 1)]
theorem vq_cX3_compare_0 : vl_ok cX3_compare vl_cX3_compare_0 = true := by decide +kernel
theorem dX3_compare_0 : decode cX3_compare 0 = .ok (.iload_n 1, 1) := vl_at vq_cX3_compare_0 (i := 0) rfl
theorem dX3_compare_1 : decode cX3_compare 1 = .ok (.ifCond .eq 10, 3) := vl_at vq_cX3_compare_0 (i := 1) rfl
theorem dX3_compare_4 : decode cX3_compare 4 = .ok (.aload_n 0, 1) := vl_at vq_cX3_compare_0 (i := 2) rfl
theorem dX3_compare_5 : decode cX3_compare 5 = .ok (.invokevirtual 268, 3) := vl_at vq_cX3_compare_0 (i := 3) rfl
theorem dX3_compare_8 : decode cX3_compare 8 = .ok (.goto 7, 3) := vl_at vq_cX3_compare_0 (i := 4) rfl
theorem dX3_compare_11 : decode cX3_compare 11 = .ok (.aload_n 0, 1) := vl_at vq_cX3_compare_0 (i := 5) rfl
theorem dX3_compare_12 : decode cX3_compare 12 = .ok (.invokevirtual 271, 3) := vl_at vq_cX3_compare_0 (i := 6) rfl
theorem dX3_compare_15 : decode cX3_compare 15 = .ok (.ireturn, 1) := vl_at vq_cX3_compare_0 (i := 7) rfl
noncomputable def vl_cX3_text_0 : List (Nat × Instr × Nat) := [(0, .iload_n 1, 1), (1, .invokestatic 69, 3), (4, .aload_n 0, 1), (5, .iload_n 1, 1), (6, .invokevirtual 61, 3), (9, .astore_n 3, 1), (10, .new 274, 3), (13, .dup, 1), (14, .invokespecial 276, 3), (17, .astore 4, 2), (19, .iconst 0, 1), (20, .istore 5, 2), (22, .iload 5, 2), (24, .aload_n 3, 1), (25, .invokevirtual 65, 3), (28, .if_icmp .ge 35, 3), (31, .iload 5, 2), (33, .ifCond .le 11, 3), (36, .aload 4, 2), (38, .bipush 32, 2), (40, .invokevirtual 277, 3), (43, .pop, 1), (44, .aload 4, 2), (46, .aload_n 3, 1), (47, .iload_n 2, 1), (48, .iload 5, 2), (50, .invokevirtual 281, 3), (53, .invokevirtual 285, 3), (56, .pop, 1), (57, .iinc 5 1, 3), (60, .goto (-38), 3), (63, .aload 4, 2), (65, .invokevirtual 288, 3), (68, .areturn, 1)]
theorem vq_cX3_text_0 : vl_ok cX3_text vl_cX3_text_0 = true := by decide +kernel
theorem dX3_text_0 : decode cX3_text 0 = .ok (.iload_n 1, 1) := vl_at vq_cX3_text_0 (i := 0) rfl
theorem dX3_text_1 : decode cX3_text 1 = .ok (.invokestatic 69, 3) := vl_at vq_cX3_text_0 (i := 1) rfl
theorem dX3_text_4 : decode cX3_text 4 = .ok (.aload_n 0, 1) := vl_at vq_cX3_text_0 (i := 2) rfl
theorem dX3_text_5 : decode cX3_text 5 = .ok (.iload_n 1, 1) := vl_at vq_cX3_text_0 (i := 3) rfl
theorem dX3_text_6 : decode cX3_text 6 = .ok (.invokevirtual 61, 3) := vl_at vq_cX3_text_0 (i := 4) rfl
theorem dX3_text_9 : decode cX3_text 9 = .ok (.astore_n 3, 1) := vl_at vq_cX3_text_0 (i := 5) rfl
theorem dX3_text_10 : decode cX3_text 10 = .ok (.new 274, 3) := vl_at vq_cX3_text_0 (i := 6) rfl
theorem dX3_text_13 : decode cX3_text 13 = .ok (.dup, 1) := vl_at vq_cX3_text_0 (i := 7) rfl
theorem dX3_text_14 : decode cX3_text 14 = .ok (.invokespecial 276, 3) := vl_at vq_cX3_text_0 (i := 8) rfl
theorem dX3_text_17 : decode cX3_text 17 = .ok (.astore 4, 2) := vl_at vq_cX3_text_0 (i := 9) rfl
theorem dX3_text_19 : decode cX3_text 19 = .ok (.iconst 0, 1) := vl_at vq_cX3_text_0 (i := 10) rfl
theorem dX3_text_20 : decode cX3_text 20 = .ok (.istore 5, 2) := vl_at vq_cX3_text_0 (i := 11) rfl
theorem dX3_text_22 : decode cX3_text 22 = .ok (.iload 5, 2) := vl_at vq_cX3_text_0 (i := 12) rfl
theorem dX3_text_24 : decode cX3_text 24 = .ok (.aload_n 3, 1) := vl_at vq_cX3_text_0 (i := 13) rfl
theorem dX3_text_25 : decode cX3_text 25 = .ok (.invokevirtual 65, 3) := vl_at vq_cX3_text_0 (i := 14) rfl
theorem dX3_text_28 : decode cX3_text 28 = .ok (.if_icmp .ge 35, 3) := vl_at vq_cX3_text_0 (i := 15) rfl
theorem dX3_text_31 : decode cX3_text 31 = .ok (.iload 5, 2) := vl_at vq_cX3_text_0 (i := 16) rfl
theorem dX3_text_33 : decode cX3_text 33 = .ok (.ifCond .le 11, 3) := vl_at vq_cX3_text_0 (i := 17) rfl
theorem dX3_text_36 : decode cX3_text 36 = .ok (.aload 4, 2) := vl_at vq_cX3_text_0 (i := 18) rfl
theorem dX3_text_38 : decode cX3_text 38 = .ok (.bipush 32, 2) := vl_at vq_cX3_text_0 (i := 19) rfl
theorem dX3_text_40 : decode cX3_text 40 = .ok (.invokevirtual 277, 3) := vl_at vq_cX3_text_0 (i := 20) rfl
theorem dX3_text_43 : decode cX3_text 43 = .ok (.pop, 1) := vl_at vq_cX3_text_0 (i := 21) rfl
theorem dX3_text_44 : decode cX3_text 44 = .ok (.aload 4, 2) := vl_at vq_cX3_text_0 (i := 22) rfl
theorem dX3_text_46 : decode cX3_text 46 = .ok (.aload_n 3, 1) := vl_at vq_cX3_text_0 (i := 23) rfl
theorem dX3_text_47 : decode cX3_text 47 = .ok (.iload_n 2, 1) := vl_at vq_cX3_text_0 (i := 24) rfl
theorem dX3_text_48 : decode cX3_text 48 = .ok (.iload 5, 2) := vl_at vq_cX3_text_0 (i := 25) rfl
theorem dX3_text_50 : decode cX3_text 50 = .ok (.invokevirtual 281, 3) := vl_at vq_cX3_text_0 (i := 26) rfl
theorem dX3_text_53 : decode cX3_text 53 = .ok (.invokevirtual 285, 3) := vl_at vq_cX3_text_0 (i := 27) rfl
theorem dX3_text_56 : decode cX3_text 56 = .ok (.pop, 1) := vl_at vq_cX3_text_0 (i := 28) rfl
theorem dX3_text_57 : decode cX3_text 57 = .ok (.iinc 5 1, 3) := vl_at vq_cX3_text_0 (i := 29) rfl
theorem dX3_text_60 : decode cX3_text 60 = .ok (.goto (-38), 3) := vl_at vq_cX3_text_0 (i := 30) rfl
theorem dX3_text_63 : decode cX3_text 63 = .ok (.aload 4, 2) := vl_at vq_cX3_text_0 (i := 31) rfl
theorem dX3_text_65 : decode cX3_text 65 = .ok (.invokevirtual 288, 3) := vl_at vq_cX3_text_0 (i := 32) rfl
theorem dX3_text_68 : decode cX3_text 68 = .ok (.areturn, 1) := vl_at vq_cX3_text_0 (i := 33) rfl
noncomputable def vl_cX3_nested_0 : List (Nat × Instr × Nat) := [(0, .iload_n 1, 1), (1, .invokestatic 69, 3), (4, .aload_n 0, 1), (5, .iload_n 1, 1), (6, .invokevirtual 292, 3), (9, .ireturn, 1)]
theorem vq_cX3_nested_0 : vl_ok cX3_nested vl_cX3_nested_0 = true := by decide +kernel
theorem dX3_nested_0 : decode cX3_nested 0 = .ok (.iload_n 1, 1) := vl_at vq_cX3_nested_0 (i := 0) rfl
theorem dX3_nested_1 : decode cX3_nested 1 = .ok (.invokestatic 69, 3) := vl_at vq_cX3_nested_0 (i := 1) rfl
theorem dX3_nested_4 : decode cX3_nested 4 = .ok (.aload_n 0, 1) := vl_at vq_cX3_nested_0 (i := 2) rfl
theorem dX3_nested_5 : decode cX3_nested 5 = .ok (.iload_n 1, 1) := vl_at vq_cX3_nested_0 (i := 3) rfl
theorem dX3_nested_6 : decode cX3_nested 6 = .ok (.invokevirtual 292, 3) := vl_at vq_cX3_nested_0 (i := 4) rfl
theorem dX3_nested_9 : decode cX3_nested 9 = .ok (.ireturn, 1) := vl_at vq_cX3_nested_0 (i := 5) rfl
noncomputable def vl_cX3_heaviest_0 : List (Nat × Instr × Nat) := [(0, .iload_n 1, 1), (1, .invokestatic 69, 3), (4, .iload_n 3, 1), (5, .bipush 19, 2), (7, .invokestatic 185, 3), (10, .iload_n 2, 1), (11, .iconst 1, 1), (12, .bipush 20, 2), (14, .invokestatic 76, 3), (17, .aload_n 0, 1), (18, .iload_n 1, 1), (19, .invokevirtual 61, 3), (22, .astore 4, 2), (24, .iload_n 3, 1), (25, .iload_n 2, 1), (26, .iadd, 1), (27, .aload 4, 2), (29, .invokevirtual 65, 3), (32, .if_icmp .le 5, 3), (35, .iconst (-1), 1), (36, .ireturn, 1), (37, .iconst 0, 1), (38, .istore 5, 2), (40, .iconst 0, 1), (41, .istore 6, 2), (43, .iload 6, 2), (45, .iload_n 2, 1), (46, .if_icmp .ge 28, 3), (49, .iload 5, 2), (51, .aload 4, 2), (53, .iload_n 3, 1), (54, .iload 6, 2), (56, .iadd, 1), (57, .invokevirtual 144, 3), (60, .invokestatic 153, 3), (63, .invokestatic 295, 3), (66, .istore 5, 2), (68, .iinc 6 1, 3), (71, .goto (-28), 3), (74, .iload 5, 2)]
theorem vq_cX3_heaviest_0 : vl_ok cX3_heaviest vl_cX3_heaviest_0 = true := by decide +kernel
theorem dX3_heaviest_0 : decode cX3_heaviest 0 = .ok (.iload_n 1, 1) := vl_at vq_cX3_heaviest_0 (i := 0) rfl
theorem dX3_heaviest_1 : decode cX3_heaviest 1 = .ok (.invokestatic 69, 3) := vl_at vq_cX3_heaviest_0 (i := 1) rfl
theorem dX3_heaviest_4 : decode cX3_heaviest 4 = .ok (.iload_n 3, 1) := vl_at vq_cX3_heaviest_0 (i := 2) rfl
theorem dX3_heaviest_5 : decode cX3_heaviest 5 = .ok (.bipush 19, 2) := vl_at vq_cX3_heaviest_0 (i := 3) rfl
theorem dX3_heaviest_7 : decode cX3_heaviest 7 = .ok (.invokestatic 185, 3) := vl_at vq_cX3_heaviest_0 (i := 4) rfl
theorem dX3_heaviest_10 : decode cX3_heaviest 10 = .ok (.iload_n 2, 1) := vl_at vq_cX3_heaviest_0 (i := 5) rfl
theorem dX3_heaviest_11 : decode cX3_heaviest 11 = .ok (.iconst 1, 1) := vl_at vq_cX3_heaviest_0 (i := 6) rfl
theorem dX3_heaviest_12 : decode cX3_heaviest 12 = .ok (.bipush 20, 2) := vl_at vq_cX3_heaviest_0 (i := 7) rfl
theorem dX3_heaviest_14 : decode cX3_heaviest 14 = .ok (.invokestatic 76, 3) := vl_at vq_cX3_heaviest_0 (i := 8) rfl
theorem dX3_heaviest_17 : decode cX3_heaviest 17 = .ok (.aload_n 0, 1) := vl_at vq_cX3_heaviest_0 (i := 9) rfl
theorem dX3_heaviest_18 : decode cX3_heaviest 18 = .ok (.iload_n 1, 1) := vl_at vq_cX3_heaviest_0 (i := 10) rfl
theorem dX3_heaviest_19 : decode cX3_heaviest 19 = .ok (.invokevirtual 61, 3) := vl_at vq_cX3_heaviest_0 (i := 11) rfl
theorem dX3_heaviest_22 : decode cX3_heaviest 22 = .ok (.astore 4, 2) := vl_at vq_cX3_heaviest_0 (i := 12) rfl
theorem dX3_heaviest_24 : decode cX3_heaviest 24 = .ok (.iload_n 3, 1) := vl_at vq_cX3_heaviest_0 (i := 13) rfl
theorem dX3_heaviest_25 : decode cX3_heaviest 25 = .ok (.iload_n 2, 1) := vl_at vq_cX3_heaviest_0 (i := 14) rfl
theorem dX3_heaviest_26 : decode cX3_heaviest 26 = .ok (.iadd, 1) := vl_at vq_cX3_heaviest_0 (i := 15) rfl
theorem dX3_heaviest_27 : decode cX3_heaviest 27 = .ok (.aload 4, 2) := vl_at vq_cX3_heaviest_0 (i := 16) rfl
theorem dX3_heaviest_29 : decode cX3_heaviest 29 = .ok (.invokevirtual 65, 3) := vl_at vq_cX3_heaviest_0 (i := 17) rfl
theorem dX3_heaviest_32 : decode cX3_heaviest 32 = .ok (.if_icmp .le 5, 3) := vl_at vq_cX3_heaviest_0 (i := 18) rfl
theorem dX3_heaviest_35 : decode cX3_heaviest 35 = .ok (.iconst (-1), 1) := vl_at vq_cX3_heaviest_0 (i := 19) rfl
theorem dX3_heaviest_36 : decode cX3_heaviest 36 = .ok (.ireturn, 1) := vl_at vq_cX3_heaviest_0 (i := 20) rfl
theorem dX3_heaviest_37 : decode cX3_heaviest 37 = .ok (.iconst 0, 1) := vl_at vq_cX3_heaviest_0 (i := 21) rfl
theorem dX3_heaviest_38 : decode cX3_heaviest 38 = .ok (.istore 5, 2) := vl_at vq_cX3_heaviest_0 (i := 22) rfl
theorem dX3_heaviest_40 : decode cX3_heaviest 40 = .ok (.iconst 0, 1) := vl_at vq_cX3_heaviest_0 (i := 23) rfl
theorem dX3_heaviest_41 : decode cX3_heaviest 41 = .ok (.istore 6, 2) := vl_at vq_cX3_heaviest_0 (i := 24) rfl
theorem dX3_heaviest_43 : decode cX3_heaviest 43 = .ok (.iload 6, 2) := vl_at vq_cX3_heaviest_0 (i := 25) rfl
theorem dX3_heaviest_45 : decode cX3_heaviest 45 = .ok (.iload_n 2, 1) := vl_at vq_cX3_heaviest_0 (i := 26) rfl
theorem dX3_heaviest_46 : decode cX3_heaviest 46 = .ok (.if_icmp .ge 28, 3) := vl_at vq_cX3_heaviest_0 (i := 27) rfl
theorem dX3_heaviest_49 : decode cX3_heaviest 49 = .ok (.iload 5, 2) := vl_at vq_cX3_heaviest_0 (i := 28) rfl
theorem dX3_heaviest_51 : decode cX3_heaviest 51 = .ok (.aload 4, 2) := vl_at vq_cX3_heaviest_0 (i := 29) rfl
theorem dX3_heaviest_53 : decode cX3_heaviest 53 = .ok (.iload_n 3, 1) := vl_at vq_cX3_heaviest_0 (i := 30) rfl
theorem dX3_heaviest_54 : decode cX3_heaviest 54 = .ok (.iload 6, 2) := vl_at vq_cX3_heaviest_0 (i := 31) rfl
theorem dX3_heaviest_56 : decode cX3_heaviest 56 = .ok (.iadd, 1) := vl_at vq_cX3_heaviest_0 (i := 32) rfl
theorem dX3_heaviest_57 : decode cX3_heaviest 57 = .ok (.invokevirtual 144, 3) := vl_at vq_cX3_heaviest_0 (i := 33) rfl
theorem dX3_heaviest_60 : decode cX3_heaviest 60 = .ok (.invokestatic 153, 3) := vl_at vq_cX3_heaviest_0 (i := 34) rfl
theorem dX3_heaviest_63 : decode cX3_heaviest 63 = .ok (.invokestatic 295, 3) := vl_at vq_cX3_heaviest_0 (i := 35) rfl
theorem dX3_heaviest_66 : decode cX3_heaviest 66 = .ok (.istore 5, 2) := vl_at vq_cX3_heaviest_0 (i := 36) rfl
theorem dX3_heaviest_68 : decode cX3_heaviest 68 = .ok (.iinc 6 1, 3) := vl_at vq_cX3_heaviest_0 (i := 37) rfl
theorem dX3_heaviest_71 : decode cX3_heaviest 71 = .ok (.goto (-28), 3) := vl_at vq_cX3_heaviest_0 (i := 38) rfl
theorem dX3_heaviest_74 : decode cX3_heaviest 74 = .ok (.iload 5, 2) := vl_at vq_cX3_heaviest_0 (i := 39) rfl
noncomputable def vl_cX3_heaviest_1 : List (Nat × Instr × Nat) := [(76, .ireturn, 1)]
theorem vq_cX3_heaviest_1 : vl_ok cX3_heaviest vl_cX3_heaviest_1 = true := by decide +kernel
theorem dX3_heaviest_76 : decode cX3_heaviest 76 = .ok (.ireturn, 1) := vl_at vq_cX3_heaviest_1 (i := 0) rfl
noncomputable def vl_cX3_ahead_0 : List (Nat × Instr × Nat) := [(0, .iload_n 1, 1), (1, .invokestatic 69, 3), (4, .iload_n 2, 1), (5, .bipush 19, 2), (7, .invokestatic 185, 3), (10, .aload_n 0, 1), (11, .iload_n 1, 1), (12, .invokevirtual 61, 3), (15, .astore_n 3, 1), (16, .iload_n 2, 1), (17, .aload_n 3, 1), (18, .invokevirtual 65, 3), (21, .if_icmp .lt 6, 3), (24, .bipush (-9), 2), (26, .ireturn, 1), (27, .aload_n 3, 1), (28, .iload_n 2, 1), (29, .invokevirtual 144, 3), (32, .invokestatic 153, 3), (35, .istore 4, 2), (37, .iload_n 2, 1), (38, .iconst 1, 1), (39, .isub, 1), (40, .istore 5, 2), (42, .iload 5, 2), (44, .ifCond .lt 26, 3), (47, .aload_n 3, 1), (48, .iload 5, 2), (50, .invokevirtual 144, 3), (53, .invokestatic 153, 3), (56, .iload 4, 2), (58, .if_icmp .le 6, 3), (61, .iload 5, 2), (63, .ireturn, 1), (64, .iinc 5 (-1), 3), (67, .goto (-25), 3), (70, .iconst (-1), 1), (71, .ireturn, 1)]
theorem vq_cX3_ahead_0 : vl_ok cX3_ahead vl_cX3_ahead_0 = true := by decide +kernel
theorem dX3_ahead_0 : decode cX3_ahead 0 = .ok (.iload_n 1, 1) := vl_at vq_cX3_ahead_0 (i := 0) rfl
theorem dX3_ahead_1 : decode cX3_ahead 1 = .ok (.invokestatic 69, 3) := vl_at vq_cX3_ahead_0 (i := 1) rfl
theorem dX3_ahead_4 : decode cX3_ahead 4 = .ok (.iload_n 2, 1) := vl_at vq_cX3_ahead_0 (i := 2) rfl
theorem dX3_ahead_5 : decode cX3_ahead 5 = .ok (.bipush 19, 2) := vl_at vq_cX3_ahead_0 (i := 3) rfl
theorem dX3_ahead_7 : decode cX3_ahead 7 = .ok (.invokestatic 185, 3) := vl_at vq_cX3_ahead_0 (i := 4) rfl
theorem dX3_ahead_10 : decode cX3_ahead 10 = .ok (.aload_n 0, 1) := vl_at vq_cX3_ahead_0 (i := 5) rfl
theorem dX3_ahead_11 : decode cX3_ahead 11 = .ok (.iload_n 1, 1) := vl_at vq_cX3_ahead_0 (i := 6) rfl
theorem dX3_ahead_12 : decode cX3_ahead 12 = .ok (.invokevirtual 61, 3) := vl_at vq_cX3_ahead_0 (i := 7) rfl
theorem dX3_ahead_15 : decode cX3_ahead 15 = .ok (.astore_n 3, 1) := vl_at vq_cX3_ahead_0 (i := 8) rfl
theorem dX3_ahead_16 : decode cX3_ahead 16 = .ok (.iload_n 2, 1) := vl_at vq_cX3_ahead_0 (i := 9) rfl
theorem dX3_ahead_17 : decode cX3_ahead 17 = .ok (.aload_n 3, 1) := vl_at vq_cX3_ahead_0 (i := 10) rfl
theorem dX3_ahead_18 : decode cX3_ahead 18 = .ok (.invokevirtual 65, 3) := vl_at vq_cX3_ahead_0 (i := 11) rfl
theorem dX3_ahead_21 : decode cX3_ahead 21 = .ok (.if_icmp .lt 6, 3) := vl_at vq_cX3_ahead_0 (i := 12) rfl
theorem dX3_ahead_24 : decode cX3_ahead 24 = .ok (.bipush (-9), 2) := vl_at vq_cX3_ahead_0 (i := 13) rfl
theorem dX3_ahead_26 : decode cX3_ahead 26 = .ok (.ireturn, 1) := vl_at vq_cX3_ahead_0 (i := 14) rfl
theorem dX3_ahead_27 : decode cX3_ahead 27 = .ok (.aload_n 3, 1) := vl_at vq_cX3_ahead_0 (i := 15) rfl
theorem dX3_ahead_28 : decode cX3_ahead 28 = .ok (.iload_n 2, 1) := vl_at vq_cX3_ahead_0 (i := 16) rfl
theorem dX3_ahead_29 : decode cX3_ahead 29 = .ok (.invokevirtual 144, 3) := vl_at vq_cX3_ahead_0 (i := 17) rfl
theorem dX3_ahead_32 : decode cX3_ahead 32 = .ok (.invokestatic 153, 3) := vl_at vq_cX3_ahead_0 (i := 18) rfl
theorem dX3_ahead_35 : decode cX3_ahead 35 = .ok (.istore 4, 2) := vl_at vq_cX3_ahead_0 (i := 19) rfl
theorem dX3_ahead_37 : decode cX3_ahead 37 = .ok (.iload_n 2, 1) := vl_at vq_cX3_ahead_0 (i := 20) rfl
theorem dX3_ahead_38 : decode cX3_ahead 38 = .ok (.iconst 1, 1) := vl_at vq_cX3_ahead_0 (i := 21) rfl
theorem dX3_ahead_39 : decode cX3_ahead 39 = .ok (.isub, 1) := vl_at vq_cX3_ahead_0 (i := 22) rfl
theorem dX3_ahead_40 : decode cX3_ahead 40 = .ok (.istore 5, 2) := vl_at vq_cX3_ahead_0 (i := 23) rfl
theorem dX3_ahead_42 : decode cX3_ahead 42 = .ok (.iload 5, 2) := vl_at vq_cX3_ahead_0 (i := 24) rfl
theorem dX3_ahead_44 : decode cX3_ahead 44 = .ok (.ifCond .lt 26, 3) := vl_at vq_cX3_ahead_0 (i := 25) rfl
theorem dX3_ahead_47 : decode cX3_ahead 47 = .ok (.aload_n 3, 1) := vl_at vq_cX3_ahead_0 (i := 26) rfl
theorem dX3_ahead_48 : decode cX3_ahead 48 = .ok (.iload 5, 2) := vl_at vq_cX3_ahead_0 (i := 27) rfl
theorem dX3_ahead_50 : decode cX3_ahead 50 = .ok (.invokevirtual 144, 3) := vl_at vq_cX3_ahead_0 (i := 28) rfl
theorem dX3_ahead_53 : decode cX3_ahead 53 = .ok (.invokestatic 153, 3) := vl_at vq_cX3_ahead_0 (i := 29) rfl
theorem dX3_ahead_56 : decode cX3_ahead 56 = .ok (.iload 4, 2) := vl_at vq_cX3_ahead_0 (i := 30) rfl
theorem dX3_ahead_58 : decode cX3_ahead 58 = .ok (.if_icmp .le 6, 3) := vl_at vq_cX3_ahead_0 (i := 31) rfl
theorem dX3_ahead_61 : decode cX3_ahead 61 = .ok (.iload 5, 2) := vl_at vq_cX3_ahead_0 (i := 32) rfl
theorem dX3_ahead_63 : decode cX3_ahead 63 = .ok (.ireturn, 1) := vl_at vq_cX3_ahead_0 (i := 33) rfl
theorem dX3_ahead_64 : decode cX3_ahead 64 = .ok (.iinc 5 (-1), 3) := vl_at vq_cX3_ahead_0 (i := 34) rfl
theorem dX3_ahead_67 : decode cX3_ahead 67 = .ok (.goto (-25), 3) := vl_at vq_cX3_ahead_0 (i := 35) rfl
theorem dX3_ahead_70 : decode cX3_ahead 70 = .ok (.iconst (-1), 1) := vl_at vq_cX3_ahead_0 (i := 36) rfl
theorem dX3_ahead_71 : decode cX3_ahead 71 = .ok (.ireturn, 1) := vl_at vq_cX3_ahead_0 (i := 37) rfl
noncomputable def vl_cX3_yard_0 : List (Nat × Instr × Nat) := [(0, .iload_n 1, 1), (1, .iconst 0, 1), (2, .bipush 7, 2), (4, .invokestatic 76, 3), (7, .aload_n 0, 1), (8, .iload_n 1, 1), (9, .invokevirtual 298, 3), (12, .ireturn, 1)]
theorem vq_cX3_yard_0 : vl_ok cX3_yard vl_cX3_yard_0 = true := by decide +kernel
theorem dX3_yard_0 : decode cX3_yard 0 = .ok (.iload_n 1, 1) := vl_at vq_cX3_yard_0 (i := 0) rfl
theorem dX3_yard_1 : decode cX3_yard 1 = .ok (.iconst 0, 1) := vl_at vq_cX3_yard_0 (i := 1) rfl
theorem dX3_yard_2 : decode cX3_yard 2 = .ok (.bipush 7, 2) := vl_at vq_cX3_yard_0 (i := 2) rfl
theorem dX3_yard_4 : decode cX3_yard 4 = .ok (.invokestatic 76, 3) := vl_at vq_cX3_yard_0 (i := 3) rfl
theorem dX3_yard_7 : decode cX3_yard 7 = .ok (.aload_n 0, 1) := vl_at vq_cX3_yard_0 (i := 4) rfl
theorem dX3_yard_8 : decode cX3_yard 8 = .ok (.iload_n 1, 1) := vl_at vq_cX3_yard_0 (i := 5) rfl
theorem dX3_yard_9 : decode cX3_yard 9 = .ok (.invokevirtual 298, 3) := vl_at vq_cX3_yard_0 (i := 6) rfl
theorem dX3_yard_12 : decode cX3_yard 12 = .ok (.ireturn, 1) := vl_at vq_cX3_yard_0 (i := 7) rfl
noncomputable def vl_cX3_knock_0 : List (Nat × Instr × Nat) := [(0, .aload_n 0, 1), (1, .dup, 1), (2, .getfield 44, 3), (5, .iconst 1, 1), (6, .iadd, 1), (7, .putfield 44, 3), (10, .aload_n 0, 1), (11, .getfield 44, 3), (14, .ireturn, 1)]
theorem vq_cX3_knock_0 : vl_ok cX3_knock vl_cX3_knock_0 = true := by decide +kernel
theorem dX3_knock_0 : decode cX3_knock 0 = .ok (.aload_n 0, 1) := vl_at vq_cX3_knock_0 (i := 0) rfl
theorem dX3_knock_1 : decode cX3_knock 1 = .ok (.dup, 1) := vl_at vq_cX3_knock_0 (i := 1) rfl
theorem dX3_knock_2 : decode cX3_knock 2 = .ok (.getfield 44, 3) := vl_at vq_cX3_knock_0 (i := 2) rfl
theorem dX3_knock_5 : decode cX3_knock 5 = .ok (.iconst 1, 1) := vl_at vq_cX3_knock_0 (i := 3) rfl
theorem dX3_knock_6 : decode cX3_knock 6 = .ok (.iadd, 1) := vl_at vq_cX3_knock_0 (i := 4) rfl
theorem dX3_knock_7 : decode cX3_knock 7 = .ok (.putfield 44, 3) := vl_at vq_cX3_knock_0 (i := 5) rfl
theorem dX3_knock_10 : decode cX3_knock 10 = .ok (.aload_n 0, 1) := vl_at vq_cX3_knock_0 (i := 6) rfl
theorem dX3_knock_11 : decode cX3_knock 11 = .ok (.getfield 44, 3) := vl_at vq_cX3_knock_0 (i := 7) rfl
theorem dX3_knock_14 : decode cX3_knock 14 = .ok (.ireturn, 1) := vl_at vq_cX3_knock_0 (i := 8) rfl
noncomputable def vl_cX3_isSound_0 : List (Nat × Instr × Nat) := [(0, .aload_n 0, 1), (1, .getfield 14, 3), (4, .invokestatic 301, 3), (7, .ifCond .eq 90, 3), (10, .aload_n 0, 1), (11, .getfield 18, 3), (14, .invokestatic 301, 3), (17, .ifCond .eq 80, 3), (20, .aload_n 0, 1), (21, .getfield 14, 3), (24, .iconst 0, 1), (25, .iconst 0, 1), (26, .invokevirtual 138, 3), (29, .iconst (-1), 1), (30, .if_icmp .ne 67, 3), (33, .aload_n 0, 1), (34, .invokevirtual 305, 3), (37, .ifCond .eq 60, 3), (40, .aload_n 0, 1), (41, .aload_n 0, 1), (42, .getfield 37, 3), (45, .invokevirtual 308, 3), (48, .ifCond .eq 49, 3), (51, .aload_n 0, 1), (52, .aload_n 0, 1), (53, .getfield 41, 3), (56, .invokevirtual 308, 3), (59, .ifCond .eq 38, 3), (62, .aload_n 0, 1), (63, .getfield 21, 3), (66, .invokevirtual 65, 3), (69, .bipush 12, 2), (71, .if_icmp .gt 26, 3), (74, .aload_n 0, 1), (75, .getfield 24, 3), (78, .invokevirtual 65, 3), (81, .bipush 10, 2), (83, .if_icmp .gt 14, 3), (86, .aload_n 0, 1), (87, .invokevirtual 312, 3)]
theorem vq_cX3_isSound_0 : vl_ok cX3_isSound vl_cX3_isSound_0 = true := by decide +kernel
theorem dX3_isSound_0 : decode cX3_isSound 0 = .ok (.aload_n 0, 1) := vl_at vq_cX3_isSound_0 (i := 0) rfl
theorem dX3_isSound_1 : decode cX3_isSound 1 = .ok (.getfield 14, 3) := vl_at vq_cX3_isSound_0 (i := 1) rfl
theorem dX3_isSound_4 : decode cX3_isSound 4 = .ok (.invokestatic 301, 3) := vl_at vq_cX3_isSound_0 (i := 2) rfl
theorem dX3_isSound_7 : decode cX3_isSound 7 = .ok (.ifCond .eq 90, 3) := vl_at vq_cX3_isSound_0 (i := 3) rfl
theorem dX3_isSound_10 : decode cX3_isSound 10 = .ok (.aload_n 0, 1) := vl_at vq_cX3_isSound_0 (i := 4) rfl
theorem dX3_isSound_11 : decode cX3_isSound 11 = .ok (.getfield 18, 3) := vl_at vq_cX3_isSound_0 (i := 5) rfl
theorem dX3_isSound_14 : decode cX3_isSound 14 = .ok (.invokestatic 301, 3) := vl_at vq_cX3_isSound_0 (i := 6) rfl
theorem dX3_isSound_17 : decode cX3_isSound 17 = .ok (.ifCond .eq 80, 3) := vl_at vq_cX3_isSound_0 (i := 7) rfl
theorem dX3_isSound_20 : decode cX3_isSound 20 = .ok (.aload_n 0, 1) := vl_at vq_cX3_isSound_0 (i := 8) rfl
theorem dX3_isSound_21 : decode cX3_isSound 21 = .ok (.getfield 14, 3) := vl_at vq_cX3_isSound_0 (i := 9) rfl
theorem dX3_isSound_24 : decode cX3_isSound 24 = .ok (.iconst 0, 1) := vl_at vq_cX3_isSound_0 (i := 10) rfl
theorem dX3_isSound_25 : decode cX3_isSound 25 = .ok (.iconst 0, 1) := vl_at vq_cX3_isSound_0 (i := 11) rfl
theorem dX3_isSound_26 : decode cX3_isSound 26 = .ok (.invokevirtual 138, 3) := vl_at vq_cX3_isSound_0 (i := 12) rfl
theorem dX3_isSound_29 : decode cX3_isSound 29 = .ok (.iconst (-1), 1) := vl_at vq_cX3_isSound_0 (i := 13) rfl
theorem dX3_isSound_30 : decode cX3_isSound 30 = .ok (.if_icmp .ne 67, 3) := vl_at vq_cX3_isSound_0 (i := 14) rfl
theorem dX3_isSound_33 : decode cX3_isSound 33 = .ok (.aload_n 0, 1) := vl_at vq_cX3_isSound_0 (i := 15) rfl
theorem dX3_isSound_34 : decode cX3_isSound 34 = .ok (.invokevirtual 305, 3) := vl_at vq_cX3_isSound_0 (i := 16) rfl
theorem dX3_isSound_37 : decode cX3_isSound 37 = .ok (.ifCond .eq 60, 3) := vl_at vq_cX3_isSound_0 (i := 17) rfl
theorem dX3_isSound_40 : decode cX3_isSound 40 = .ok (.aload_n 0, 1) := vl_at vq_cX3_isSound_0 (i := 18) rfl
theorem dX3_isSound_41 : decode cX3_isSound 41 = .ok (.aload_n 0, 1) := vl_at vq_cX3_isSound_0 (i := 19) rfl
theorem dX3_isSound_42 : decode cX3_isSound 42 = .ok (.getfield 37, 3) := vl_at vq_cX3_isSound_0 (i := 20) rfl
theorem dX3_isSound_45 : decode cX3_isSound 45 = .ok (.invokevirtual 308, 3) := vl_at vq_cX3_isSound_0 (i := 21) rfl
theorem dX3_isSound_48 : decode cX3_isSound 48 = .ok (.ifCond .eq 49, 3) := vl_at vq_cX3_isSound_0 (i := 22) rfl
theorem dX3_isSound_51 : decode cX3_isSound 51 = .ok (.aload_n 0, 1) := vl_at vq_cX3_isSound_0 (i := 23) rfl
theorem dX3_isSound_52 : decode cX3_isSound 52 = .ok (.aload_n 0, 1) := vl_at vq_cX3_isSound_0 (i := 24) rfl
theorem dX3_isSound_53 : decode cX3_isSound 53 = .ok (.getfield 41, 3) := vl_at vq_cX3_isSound_0 (i := 25) rfl
theorem dX3_isSound_56 : decode cX3_isSound 56 = .ok (.invokevirtual 308, 3) := vl_at vq_cX3_isSound_0 (i := 26) rfl
theorem dX3_isSound_59 : decode cX3_isSound 59 = .ok (.ifCond .eq 38, 3) := vl_at vq_cX3_isSound_0 (i := 27) rfl
theorem dX3_isSound_62 : decode cX3_isSound 62 = .ok (.aload_n 0, 1) := vl_at vq_cX3_isSound_0 (i := 28) rfl
theorem dX3_isSound_63 : decode cX3_isSound 63 = .ok (.getfield 21, 3) := vl_at vq_cX3_isSound_0 (i := 29) rfl
theorem dX3_isSound_66 : decode cX3_isSound 66 = .ok (.invokevirtual 65, 3) := vl_at vq_cX3_isSound_0 (i := 30) rfl
theorem dX3_isSound_69 : decode cX3_isSound 69 = .ok (.bipush 12, 2) := vl_at vq_cX3_isSound_0 (i := 31) rfl
theorem dX3_isSound_71 : decode cX3_isSound 71 = .ok (.if_icmp .gt 26, 3) := vl_at vq_cX3_isSound_0 (i := 32) rfl
theorem dX3_isSound_74 : decode cX3_isSound 74 = .ok (.aload_n 0, 1) := vl_at vq_cX3_isSound_0 (i := 33) rfl
theorem dX3_isSound_75 : decode cX3_isSound 75 = .ok (.getfield 24, 3) := vl_at vq_cX3_isSound_0 (i := 34) rfl
theorem dX3_isSound_78 : decode cX3_isSound 78 = .ok (.invokevirtual 65, 3) := vl_at vq_cX3_isSound_0 (i := 35) rfl
theorem dX3_isSound_81 : decode cX3_isSound 81 = .ok (.bipush 10, 2) := vl_at vq_cX3_isSound_0 (i := 36) rfl
theorem dX3_isSound_83 : decode cX3_isSound 83 = .ok (.if_icmp .gt 14, 3) := vl_at vq_cX3_isSound_0 (i := 37) rfl
theorem dX3_isSound_86 : decode cX3_isSound 86 = .ok (.aload_n 0, 1) := vl_at vq_cX3_isSound_0 (i := 38) rfl
theorem dX3_isSound_87 : decode cX3_isSound 87 = .ok (.invokevirtual 312, 3) := vl_at vq_cX3_isSound_0 (i := 39) rfl
noncomputable def vl_cX3_isSound_1 : List (Nat × Instr × Nat) := [(90, .ifCond .eq 7, 3), (93, .iconst 1, 1), (94, .goto 4, 3), (97, .iconst 0, 1), (98, .ireturn, 1)]
theorem vq_cX3_isSound_1 : vl_ok cX3_isSound vl_cX3_isSound_1 = true := by decide +kernel
theorem dX3_isSound_90 : decode cX3_isSound 90 = .ok (.ifCond .eq 7, 3) := vl_at vq_cX3_isSound_1 (i := 0) rfl
theorem dX3_isSound_93 : decode cX3_isSound 93 = .ok (.iconst 1, 1) := vl_at vq_cX3_isSound_1 (i := 1) rfl
theorem dX3_isSound_94 : decode cX3_isSound 94 = .ok (.goto 4, 3) := vl_at vq_cX3_isSound_1 (i := 2) rfl
theorem dX3_isSound_97 : decode cX3_isSound 97 = .ok (.iconst 0, 1) := vl_at vq_cX3_isSound_1 (i := 3) rfl
theorem dX3_isSound_98 : decode cX3_isSound 98 = .ok (.ireturn, 1) := vl_at vq_cX3_isSound_1 (i := 4) rfl
noncomputable def vl_cX3_digest_0 : List (Nat × Instr × Nat) := [(0, .ldc2_w 315, 3), (3, .lstore_n 1, 1), (4, .aload_n 0, 1), (5, .lload_n 1, 1), (6, .iconst 0, 1), (7, .invokevirtual 317, 3), (10, .lstore_n 1, 1), (11, .aload_n 0, 1), (12, .lload_n 1, 1), (13, .iconst 1, 1), (14, .invokevirtual 317, 3), (17, .lstore_n 1, 1), (18, .iconst 0, 1), (19, .istore_n 3, 1), (20, .iload_n 3, 1), (21, .bipush 9, 2), (23, .if_icmp .gt 37, 3), (26, .lload_n 1, 1), (27, .aload_n 0, 1), (28, .getfield 18, 3), (31, .iload_n 3, 1), (32, .iconst 0, 1), (33, .invokevirtual 138, 3), (36, .invokestatic 321, 3), (39, .lstore_n 1, 1), (40, .lload_n 1, 1), (41, .aload_n 0, 1), (42, .getfield 18, 3), (45, .iload_n 3, 1), (46, .iconst 1, 1), (47, .invokevirtual 138, 3), (50, .invokestatic 321, 3), (53, .lstore_n 1, 1), (54, .iinc 3 1, 3), (57, .goto (-37), 3), (60, .aload_n 0, 1), (61, .lload_n 1, 1), (62, .iconst 0, 1), (63, .invokevirtual 324, 3), (66, .lstore_n 1, 1)]
theorem vq_cX3_digest_0 : vl_ok cX3_digest vl_cX3_digest_0 = true := by decide +kernel
theorem dX3_digest_0 : decode cX3_digest 0 = .ok (.ldc2_w 315, 3) := vl_at vq_cX3_digest_0 (i := 0) rfl
theorem dX3_digest_3 : decode cX3_digest 3 = .ok (.lstore_n 1, 1) := vl_at vq_cX3_digest_0 (i := 1) rfl
theorem dX3_digest_4 : decode cX3_digest 4 = .ok (.aload_n 0, 1) := vl_at vq_cX3_digest_0 (i := 2) rfl
theorem dX3_digest_5 : decode cX3_digest 5 = .ok (.lload_n 1, 1) := vl_at vq_cX3_digest_0 (i := 3) rfl
theorem dX3_digest_6 : decode cX3_digest 6 = .ok (.iconst 0, 1) := vl_at vq_cX3_digest_0 (i := 4) rfl
theorem dX3_digest_7 : decode cX3_digest 7 = .ok (.invokevirtual 317, 3) := vl_at vq_cX3_digest_0 (i := 5) rfl
theorem dX3_digest_10 : decode cX3_digest 10 = .ok (.lstore_n 1, 1) := vl_at vq_cX3_digest_0 (i := 6) rfl
theorem dX3_digest_11 : decode cX3_digest 11 = .ok (.aload_n 0, 1) := vl_at vq_cX3_digest_0 (i := 7) rfl
theorem dX3_digest_12 : decode cX3_digest 12 = .ok (.lload_n 1, 1) := vl_at vq_cX3_digest_0 (i := 8) rfl
theorem dX3_digest_13 : decode cX3_digest 13 = .ok (.iconst 1, 1) := vl_at vq_cX3_digest_0 (i := 9) rfl
theorem dX3_digest_14 : decode cX3_digest 14 = .ok (.invokevirtual 317, 3) := vl_at vq_cX3_digest_0 (i := 10) rfl
theorem dX3_digest_17 : decode cX3_digest 17 = .ok (.lstore_n 1, 1) := vl_at vq_cX3_digest_0 (i := 11) rfl
theorem dX3_digest_18 : decode cX3_digest 18 = .ok (.iconst 0, 1) := vl_at vq_cX3_digest_0 (i := 12) rfl
theorem dX3_digest_19 : decode cX3_digest 19 = .ok (.istore_n 3, 1) := vl_at vq_cX3_digest_0 (i := 13) rfl
theorem dX3_digest_20 : decode cX3_digest 20 = .ok (.iload_n 3, 1) := vl_at vq_cX3_digest_0 (i := 14) rfl
theorem dX3_digest_21 : decode cX3_digest 21 = .ok (.bipush 9, 2) := vl_at vq_cX3_digest_0 (i := 15) rfl
theorem dX3_digest_23 : decode cX3_digest 23 = .ok (.if_icmp .gt 37, 3) := vl_at vq_cX3_digest_0 (i := 16) rfl
theorem dX3_digest_26 : decode cX3_digest 26 = .ok (.lload_n 1, 1) := vl_at vq_cX3_digest_0 (i := 17) rfl
theorem dX3_digest_27 : decode cX3_digest 27 = .ok (.aload_n 0, 1) := vl_at vq_cX3_digest_0 (i := 18) rfl
theorem dX3_digest_28 : decode cX3_digest 28 = .ok (.getfield 18, 3) := vl_at vq_cX3_digest_0 (i := 19) rfl
theorem dX3_digest_31 : decode cX3_digest 31 = .ok (.iload_n 3, 1) := vl_at vq_cX3_digest_0 (i := 20) rfl
theorem dX3_digest_32 : decode cX3_digest 32 = .ok (.iconst 0, 1) := vl_at vq_cX3_digest_0 (i := 21) rfl
theorem dX3_digest_33 : decode cX3_digest 33 = .ok (.invokevirtual 138, 3) := vl_at vq_cX3_digest_0 (i := 22) rfl
theorem dX3_digest_36 : decode cX3_digest 36 = .ok (.invokestatic 321, 3) := vl_at vq_cX3_digest_0 (i := 23) rfl
theorem dX3_digest_39 : decode cX3_digest 39 = .ok (.lstore_n 1, 1) := vl_at vq_cX3_digest_0 (i := 24) rfl
theorem dX3_digest_40 : decode cX3_digest 40 = .ok (.lload_n 1, 1) := vl_at vq_cX3_digest_0 (i := 25) rfl
theorem dX3_digest_41 : decode cX3_digest 41 = .ok (.aload_n 0, 1) := vl_at vq_cX3_digest_0 (i := 26) rfl
theorem dX3_digest_42 : decode cX3_digest 42 = .ok (.getfield 18, 3) := vl_at vq_cX3_digest_0 (i := 27) rfl
theorem dX3_digest_45 : decode cX3_digest 45 = .ok (.iload_n 3, 1) := vl_at vq_cX3_digest_0 (i := 28) rfl
theorem dX3_digest_46 : decode cX3_digest 46 = .ok (.iconst 1, 1) := vl_at vq_cX3_digest_0 (i := 29) rfl
theorem dX3_digest_47 : decode cX3_digest 47 = .ok (.invokevirtual 138, 3) := vl_at vq_cX3_digest_0 (i := 30) rfl
theorem dX3_digest_50 : decode cX3_digest 50 = .ok (.invokestatic 321, 3) := vl_at vq_cX3_digest_0 (i := 31) rfl
theorem dX3_digest_53 : decode cX3_digest 53 = .ok (.lstore_n 1, 1) := vl_at vq_cX3_digest_0 (i := 32) rfl
theorem dX3_digest_54 : decode cX3_digest 54 = .ok (.iinc 3 1, 3) := vl_at vq_cX3_digest_0 (i := 33) rfl
theorem dX3_digest_57 : decode cX3_digest 57 = .ok (.goto (-37), 3) := vl_at vq_cX3_digest_0 (i := 34) rfl
theorem dX3_digest_60 : decode cX3_digest 60 = .ok (.aload_n 0, 1) := vl_at vq_cX3_digest_0 (i := 35) rfl
theorem dX3_digest_61 : decode cX3_digest 61 = .ok (.lload_n 1, 1) := vl_at vq_cX3_digest_0 (i := 36) rfl
theorem dX3_digest_62 : decode cX3_digest 62 = .ok (.iconst 0, 1) := vl_at vq_cX3_digest_0 (i := 37) rfl
theorem dX3_digest_63 : decode cX3_digest 63 = .ok (.invokevirtual 324, 3) := vl_at vq_cX3_digest_0 (i := 38) rfl
theorem dX3_digest_66 : decode cX3_digest 66 = .ok (.lstore_n 1, 1) := vl_at vq_cX3_digest_0 (i := 39) rfl
noncomputable def vl_cX3_digest_1 : List (Nat × Instr × Nat) := [(67, .aload_n 0, 1), (68, .lload_n 1, 1), (69, .iconst 1, 1), (70, .invokevirtual 324, 3), (73, .lstore_n 1, 1), (74, .iconst 0, 1), (75, .istore_n 3, 1), (76, .iload_n 3, 1), (77, .bipush 7, 2), (79, .if_icmp .gt 19, 3), (82, .lload_n 1, 1), (83, .aload_n 0, 1), (84, .iload_n 3, 1), (85, .invokevirtual 298, 3), (88, .invokestatic 321, 3), (91, .lstore_n 1, 1), (92, .iinc 3 1, 3), (95, .goto (-19), 3), (98, .aload_n 0, 1), (99, .getfield 21, 3), (102, .invokevirtual 65, 3), (105, .iconst 1, 1), (106, .isub, 1), (107, .istore_n 3, 1), (108, .iload_n 3, 1), (109, .ifCond .lt 22, 3), (112, .lload_n 1, 1), (113, .aload_n 0, 1), (114, .getfield 21, 3), (117, .iload_n 3, 1), (118, .invokevirtual 144, 3), (121, .invokestatic 321, 3), (124, .lstore_n 1, 1), (125, .iinc 3 (-1), 3), (128, .goto (-20), 3), (131, .iconst 0, 1), (132, .istore_n 3, 1), (133, .iload_n 3, 1), (134, .aload_n 0, 1), (135, .getfield 24, 3)]
theorem vq_cX3_digest_1 : vl_ok cX3_digest vl_cX3_digest_1 = true := by decide +kernel
theorem dX3_digest_67 : decode cX3_digest 67 = .ok (.aload_n 0, 1) := vl_at vq_cX3_digest_1 (i := 0) rfl
theorem dX3_digest_68 : decode cX3_digest 68 = .ok (.lload_n 1, 1) := vl_at vq_cX3_digest_1 (i := 1) rfl
theorem dX3_digest_69 : decode cX3_digest 69 = .ok (.iconst 1, 1) := vl_at vq_cX3_digest_1 (i := 2) rfl
theorem dX3_digest_70 : decode cX3_digest 70 = .ok (.invokevirtual 324, 3) := vl_at vq_cX3_digest_1 (i := 3) rfl
theorem dX3_digest_73 : decode cX3_digest 73 = .ok (.lstore_n 1, 1) := vl_at vq_cX3_digest_1 (i := 4) rfl
theorem dX3_digest_74 : decode cX3_digest 74 = .ok (.iconst 0, 1) := vl_at vq_cX3_digest_1 (i := 5) rfl
theorem dX3_digest_75 : decode cX3_digest 75 = .ok (.istore_n 3, 1) := vl_at vq_cX3_digest_1 (i := 6) rfl
theorem dX3_digest_76 : decode cX3_digest 76 = .ok (.iload_n 3, 1) := vl_at vq_cX3_digest_1 (i := 7) rfl
theorem dX3_digest_77 : decode cX3_digest 77 = .ok (.bipush 7, 2) := vl_at vq_cX3_digest_1 (i := 8) rfl
theorem dX3_digest_79 : decode cX3_digest 79 = .ok (.if_icmp .gt 19, 3) := vl_at vq_cX3_digest_1 (i := 9) rfl
theorem dX3_digest_82 : decode cX3_digest 82 = .ok (.lload_n 1, 1) := vl_at vq_cX3_digest_1 (i := 10) rfl
theorem dX3_digest_83 : decode cX3_digest 83 = .ok (.aload_n 0, 1) := vl_at vq_cX3_digest_1 (i := 11) rfl
theorem dX3_digest_84 : decode cX3_digest 84 = .ok (.iload_n 3, 1) := vl_at vq_cX3_digest_1 (i := 12) rfl
theorem dX3_digest_85 : decode cX3_digest 85 = .ok (.invokevirtual 298, 3) := vl_at vq_cX3_digest_1 (i := 13) rfl
theorem dX3_digest_88 : decode cX3_digest 88 = .ok (.invokestatic 321, 3) := vl_at vq_cX3_digest_1 (i := 14) rfl
theorem dX3_digest_91 : decode cX3_digest 91 = .ok (.lstore_n 1, 1) := vl_at vq_cX3_digest_1 (i := 15) rfl
theorem dX3_digest_92 : decode cX3_digest 92 = .ok (.iinc 3 1, 3) := vl_at vq_cX3_digest_1 (i := 16) rfl
theorem dX3_digest_95 : decode cX3_digest 95 = .ok (.goto (-19), 3) := vl_at vq_cX3_digest_1 (i := 17) rfl
theorem dX3_digest_98 : decode cX3_digest 98 = .ok (.aload_n 0, 1) := vl_at vq_cX3_digest_1 (i := 18) rfl
theorem dX3_digest_99 : decode cX3_digest 99 = .ok (.getfield 21, 3) := vl_at vq_cX3_digest_1 (i := 19) rfl
theorem dX3_digest_102 : decode cX3_digest 102 = .ok (.invokevirtual 65, 3) := vl_at vq_cX3_digest_1 (i := 20) rfl
theorem dX3_digest_105 : decode cX3_digest 105 = .ok (.iconst 1, 1) := vl_at vq_cX3_digest_1 (i := 21) rfl
theorem dX3_digest_106 : decode cX3_digest 106 = .ok (.isub, 1) := vl_at vq_cX3_digest_1 (i := 22) rfl
theorem dX3_digest_107 : decode cX3_digest 107 = .ok (.istore_n 3, 1) := vl_at vq_cX3_digest_1 (i := 23) rfl
theorem dX3_digest_108 : decode cX3_digest 108 = .ok (.iload_n 3, 1) := vl_at vq_cX3_digest_1 (i := 24) rfl
theorem dX3_digest_109 : decode cX3_digest 109 = .ok (.ifCond .lt 22, 3) := vl_at vq_cX3_digest_1 (i := 25) rfl
theorem dX3_digest_112 : decode cX3_digest 112 = .ok (.lload_n 1, 1) := vl_at vq_cX3_digest_1 (i := 26) rfl
theorem dX3_digest_113 : decode cX3_digest 113 = .ok (.aload_n 0, 1) := vl_at vq_cX3_digest_1 (i := 27) rfl
theorem dX3_digest_114 : decode cX3_digest 114 = .ok (.getfield 21, 3) := vl_at vq_cX3_digest_1 (i := 28) rfl
theorem dX3_digest_117 : decode cX3_digest 117 = .ok (.iload_n 3, 1) := vl_at vq_cX3_digest_1 (i := 29) rfl
theorem dX3_digest_118 : decode cX3_digest 118 = .ok (.invokevirtual 144, 3) := vl_at vq_cX3_digest_1 (i := 30) rfl
theorem dX3_digest_121 : decode cX3_digest 121 = .ok (.invokestatic 321, 3) := vl_at vq_cX3_digest_1 (i := 31) rfl
theorem dX3_digest_124 : decode cX3_digest 124 = .ok (.lstore_n 1, 1) := vl_at vq_cX3_digest_1 (i := 32) rfl
theorem dX3_digest_125 : decode cX3_digest 125 = .ok (.iinc 3 (-1), 3) := vl_at vq_cX3_digest_1 (i := 33) rfl
theorem dX3_digest_128 : decode cX3_digest 128 = .ok (.goto (-20), 3) := vl_at vq_cX3_digest_1 (i := 34) rfl
theorem dX3_digest_131 : decode cX3_digest 131 = .ok (.iconst 0, 1) := vl_at vq_cX3_digest_1 (i := 35) rfl
theorem dX3_digest_132 : decode cX3_digest 132 = .ok (.istore_n 3, 1) := vl_at vq_cX3_digest_1 (i := 36) rfl
theorem dX3_digest_133 : decode cX3_digest 133 = .ok (.iload_n 3, 1) := vl_at vq_cX3_digest_1 (i := 37) rfl
theorem dX3_digest_134 : decode cX3_digest 134 = .ok (.aload_n 0, 1) := vl_at vq_cX3_digest_1 (i := 38) rfl
theorem dX3_digest_135 : decode cX3_digest 135 = .ok (.getfield 24, 3) := vl_at vq_cX3_digest_1 (i := 39) rfl
noncomputable def vl_cX3_digest_2 : List (Nat × Instr × Nat) := [(138, .invokevirtual 65, 3), (141, .if_icmp .ge 22, 3), (144, .lload_n 1, 1), (145, .aload_n 0, 1), (146, .getfield 24, 3), (149, .iload_n 3, 1), (150, .invokevirtual 144, 3), (153, .invokestatic 321, 3), (156, .lstore_n 1, 1), (157, .iinc 3 1, 3), (160, .goto (-27), 3), (163, .lload_n 1, 1), (164, .aload_n 0, 1), (165, .iconst 0, 1), (166, .invokevirtual 327, 3), (169, .invokestatic 331, 3), (172, .invokestatic 321, 3), (175, .lstore_n 1, 1), (176, .lload_n 1, 1), (177, .aload_n 0, 1), (178, .iconst 1, 1), (179, .invokevirtual 327, 3), (182, .invokestatic 331, 3), (185, .invokestatic 321, 3), (188, .lstore_n 1, 1), (189, .lload_n 1, 1), (190, .aload_n 0, 1), (191, .invokevirtual 334, 3), (194, .invokestatic 331, 3), (197, .invokestatic 321, 3), (200, .lreturn, 1)]
theorem vq_cX3_digest_2 : vl_ok cX3_digest vl_cX3_digest_2 = true := by decide +kernel
theorem dX3_digest_138 : decode cX3_digest 138 = .ok (.invokevirtual 65, 3) := vl_at vq_cX3_digest_2 (i := 0) rfl
theorem dX3_digest_141 : decode cX3_digest 141 = .ok (.if_icmp .ge 22, 3) := vl_at vq_cX3_digest_2 (i := 1) rfl
theorem dX3_digest_144 : decode cX3_digest 144 = .ok (.lload_n 1, 1) := vl_at vq_cX3_digest_2 (i := 2) rfl
theorem dX3_digest_145 : decode cX3_digest 145 = .ok (.aload_n 0, 1) := vl_at vq_cX3_digest_2 (i := 3) rfl
theorem dX3_digest_146 : decode cX3_digest 146 = .ok (.getfield 24, 3) := vl_at vq_cX3_digest_2 (i := 4) rfl
theorem dX3_digest_149 : decode cX3_digest 149 = .ok (.iload_n 3, 1) := vl_at vq_cX3_digest_2 (i := 5) rfl
theorem dX3_digest_150 : decode cX3_digest 150 = .ok (.invokevirtual 144, 3) := vl_at vq_cX3_digest_2 (i := 6) rfl
theorem dX3_digest_153 : decode cX3_digest 153 = .ok (.invokestatic 321, 3) := vl_at vq_cX3_digest_2 (i := 7) rfl
theorem dX3_digest_156 : decode cX3_digest 156 = .ok (.lstore_n 1, 1) := vl_at vq_cX3_digest_2 (i := 8) rfl
theorem dX3_digest_157 : decode cX3_digest 157 = .ok (.iinc 3 1, 3) := vl_at vq_cX3_digest_2 (i := 9) rfl
theorem dX3_digest_160 : decode cX3_digest 160 = .ok (.goto (-27), 3) := vl_at vq_cX3_digest_2 (i := 10) rfl
theorem dX3_digest_163 : decode cX3_digest 163 = .ok (.lload_n 1, 1) := vl_at vq_cX3_digest_2 (i := 11) rfl
theorem dX3_digest_164 : decode cX3_digest 164 = .ok (.aload_n 0, 1) := vl_at vq_cX3_digest_2 (i := 12) rfl
theorem dX3_digest_165 : decode cX3_digest 165 = .ok (.iconst 0, 1) := vl_at vq_cX3_digest_2 (i := 13) rfl
theorem dX3_digest_166 : decode cX3_digest 166 = .ok (.invokevirtual 327, 3) := vl_at vq_cX3_digest_2 (i := 14) rfl
theorem dX3_digest_169 : decode cX3_digest 169 = .ok (.invokestatic 331, 3) := vl_at vq_cX3_digest_2 (i := 15) rfl
theorem dX3_digest_172 : decode cX3_digest 172 = .ok (.invokestatic 321, 3) := vl_at vq_cX3_digest_2 (i := 16) rfl
theorem dX3_digest_175 : decode cX3_digest 175 = .ok (.lstore_n 1, 1) := vl_at vq_cX3_digest_2 (i := 17) rfl
theorem dX3_digest_176 : decode cX3_digest 176 = .ok (.lload_n 1, 1) := vl_at vq_cX3_digest_2 (i := 18) rfl
theorem dX3_digest_177 : decode cX3_digest 177 = .ok (.aload_n 0, 1) := vl_at vq_cX3_digest_2 (i := 19) rfl
theorem dX3_digest_178 : decode cX3_digest 178 = .ok (.iconst 1, 1) := vl_at vq_cX3_digest_2 (i := 20) rfl
theorem dX3_digest_179 : decode cX3_digest 179 = .ok (.invokevirtual 327, 3) := vl_at vq_cX3_digest_2 (i := 21) rfl
theorem dX3_digest_182 : decode cX3_digest 182 = .ok (.invokestatic 331, 3) := vl_at vq_cX3_digest_2 (i := 22) rfl
theorem dX3_digest_185 : decode cX3_digest 185 = .ok (.invokestatic 321, 3) := vl_at vq_cX3_digest_2 (i := 23) rfl
theorem dX3_digest_188 : decode cX3_digest 188 = .ok (.lstore_n 1, 1) := vl_at vq_cX3_digest_2 (i := 24) rfl
theorem dX3_digest_189 : decode cX3_digest 189 = .ok (.lload_n 1, 1) := vl_at vq_cX3_digest_2 (i := 25) rfl
theorem dX3_digest_190 : decode cX3_digest 190 = .ok (.aload_n 0, 1) := vl_at vq_cX3_digest_2 (i := 26) rfl
theorem dX3_digest_191 : decode cX3_digest 191 = .ok (.invokevirtual 334, 3) := vl_at vq_cX3_digest_2 (i := 27) rfl
theorem dX3_digest_194 : decode cX3_digest 194 = .ok (.invokestatic 331, 3) := vl_at vq_cX3_digest_2 (i := 28) rfl
theorem dX3_digest_197 : decode cX3_digest 197 = .ok (.invokestatic 321, 3) := vl_at vq_cX3_digest_2 (i := 29) rfl
theorem dX3_digest_200 : decode cX3_digest 200 = .ok (.lreturn, 1) := vl_at vq_cX3_digest_2 (i := 30) rfl
noncomputable def vl_cX3_needWithin_0 : List (Nat × Instr × Nat) := [(0, .iload_n 0, 1), (1, .iload_n 1, 1), (2, .if_icmp .lt 8, 3), (5, .iload_n 0, 1), (6, .iload_n 2, 1), (7, .if_icmp .le 14, 3), (10, .new 337, 3), (13, .dup, 1), (14, .ldc_w 339, 3), (17, .invokespecial 341, 3), (20, .athrow, 1), (21, .return_, 1)]
theorem vq_cX3_needWithin_0 : vl_ok cX3_needWithin vl_cX3_needWithin_0 = true := by decide +kernel
theorem dX3_needWithin_0 : decode cX3_needWithin 0 = .ok (.iload_n 0, 1) := vl_at vq_cX3_needWithin_0 (i := 0) rfl
theorem dX3_needWithin_1 : decode cX3_needWithin 1 = .ok (.iload_n 1, 1) := vl_at vq_cX3_needWithin_0 (i := 1) rfl
theorem dX3_needWithin_2 : decode cX3_needWithin 2 = .ok (.if_icmp .lt 8, 3) := vl_at vq_cX3_needWithin_0 (i := 2) rfl
theorem dX3_needWithin_5 : decode cX3_needWithin 5 = .ok (.iload_n 0, 1) := vl_at vq_cX3_needWithin_0 (i := 3) rfl
theorem dX3_needWithin_6 : decode cX3_needWithin 6 = .ok (.iload_n 2, 1) := vl_at vq_cX3_needWithin_0 (i := 4) rfl
theorem dX3_needWithin_7 : decode cX3_needWithin 7 = .ok (.if_icmp .le 14, 3) := vl_at vq_cX3_needWithin_0 (i := 5) rfl
theorem dX3_needWithin_10 : decode cX3_needWithin 10 = .ok (.new 337, 3) := vl_at vq_cX3_needWithin_0 (i := 6) rfl
theorem dX3_needWithin_13 : decode cX3_needWithin 13 = .ok (.dup, 1) := vl_at vq_cX3_needWithin_0 (i := 7) rfl
theorem dX3_needWithin_14 : decode cX3_needWithin 14 = .ok (.ldc_w 339, 3) := vl_at vq_cX3_needWithin_0 (i := 8) rfl
theorem dX3_needWithin_17 : decode cX3_needWithin 17 = .ok (.invokespecial 341, 3) := vl_at vq_cX3_needWithin_0 (i := 9) rfl
theorem dX3_needWithin_20 : decode cX3_needWithin 20 = .ok (.athrow, 1) := vl_at vq_cX3_needWithin_0 (i := 10) rfl
theorem dX3_needWithin_21 : decode cX3_needWithin 21 = .ok (.return_, 1) := vl_at vq_cX3_needWithin_0 (i := 11) rfl
noncomputable def vl_cX3_needTrack_0 : List (Nat × Instr × Nat) := [(0, .iload_n 0, 1), (1, .ifCond .eq 19, 3), (4, .iload_n 0, 1), (5, .iconst 1, 1), (6, .if_icmp .eq 14, 3), (9, .new 342, 3), (12, .dup, 1), (13, .ldc_w 344, 3), (16, .invokespecial 346, 3), (19, .athrow, 1), (20, .return_, 1)]
theorem vq_cX3_needTrack_0 : vl_ok cX3_needTrack vl_cX3_needTrack_0 = true := by decide +kernel
theorem dX3_needTrack_0 : decode cX3_needTrack 0 = .ok (.iload_n 0, 1) := vl_at vq_cX3_needTrack_0 (i := 0) rfl
theorem dX3_needTrack_1 : decode cX3_needTrack 1 = .ok (.ifCond .eq 19, 3) := vl_at vq_cX3_needTrack_0 (i := 1) rfl
theorem dX3_needTrack_4 : decode cX3_needTrack 4 = .ok (.iload_n 0, 1) := vl_at vq_cX3_needTrack_0 (i := 2) rfl
theorem dX3_needTrack_5 : decode cX3_needTrack 5 = .ok (.iconst 1, 1) := vl_at vq_cX3_needTrack_0 (i := 3) rfl
theorem dX3_needTrack_6 : decode cX3_needTrack 6 = .ok (.if_icmp .eq 14, 3) := vl_at vq_cX3_needTrack_0 (i := 4) rfl
theorem dX3_needTrack_9 : decode cX3_needTrack 9 = .ok (.new 342, 3) := vl_at vq_cX3_needTrack_0 (i := 5) rfl
theorem dX3_needTrack_12 : decode cX3_needTrack 12 = .ok (.dup, 1) := vl_at vq_cX3_needTrack_0 (i := 6) rfl
theorem dX3_needTrack_13 : decode cX3_needTrack 13 = .ok (.ldc_w 344, 3) := vl_at vq_cX3_needTrack_0 (i := 7) rfl
theorem dX3_needTrack_16 : decode cX3_needTrack 16 = .ok (.invokespecial 346, 3) := vl_at vq_cX3_needTrack_0 (i := 8) rfl
theorem dX3_needTrack_19 : decode cX3_needTrack 19 = .ok (.athrow, 1) := vl_at vq_cX3_needTrack_0 (i := 9) rfl
theorem dX3_needTrack_20 : decode cX3_needTrack 20 = .ok (.return_, 1) := vl_at vq_cX3_needTrack_0 (i := 10) rfl
noncomputable def vl_cX3_needWalker_0 : List (Nat × Instr × Nat) := [(0, .iload_n 0, 1), (1, .ifCond .eq 19, 3), (4, .iload_n 0, 1), (5, .iconst 1, 1), (6, .if_icmp .eq 14, 3), (9, .new 342, 3), (12, .dup, 1), (13, .ldc_w 347, 3), (16, .invokespecial 346, 3), (19, .athrow, 1), (20, .return_, 1)]
theorem vq_cX3_needWalker_0 : vl_ok cX3_needWalker vl_cX3_needWalker_0 = true := by decide +kernel
theorem dX3_needWalker_0 : decode cX3_needWalker 0 = .ok (.iload_n 0, 1) := vl_at vq_cX3_needWalker_0 (i := 0) rfl
theorem dX3_needWalker_1 : decode cX3_needWalker 1 = .ok (.ifCond .eq 19, 3) := vl_at vq_cX3_needWalker_0 (i := 1) rfl
theorem dX3_needWalker_4 : decode cX3_needWalker 4 = .ok (.iload_n 0, 1) := vl_at vq_cX3_needWalker_0 (i := 2) rfl
theorem dX3_needWalker_5 : decode cX3_needWalker 5 = .ok (.iconst 1, 1) := vl_at vq_cX3_needWalker_0 (i := 3) rfl
theorem dX3_needWalker_6 : decode cX3_needWalker 6 = .ok (.if_icmp .eq 14, 3) := vl_at vq_cX3_needWalker_0 (i := 4) rfl
theorem dX3_needWalker_9 : decode cX3_needWalker 9 = .ok (.new 342, 3) := vl_at vq_cX3_needWalker_0 (i := 5) rfl
theorem dX3_needWalker_12 : decode cX3_needWalker 12 = .ok (.dup, 1) := vl_at vq_cX3_needWalker_0 (i := 6) rfl
theorem dX3_needWalker_13 : decode cX3_needWalker 13 = .ok (.ldc_w 347, 3) := vl_at vq_cX3_needWalker_0 (i := 7) rfl
theorem dX3_needWalker_16 : decode cX3_needWalker 16 = .ok (.invokespecial 346, 3) := vl_at vq_cX3_needWalker_0 (i := 8) rfl
theorem dX3_needWalker_19 : decode cX3_needWalker 19 = .ok (.athrow, 1) := vl_at vq_cX3_needWalker_0 (i := 9) rfl
theorem dX3_needWalker_20 : decode cX3_needWalker 20 = .ok (.return_, 1) := vl_at vq_cX3_needWalker_0 (i := 10) rfl
noncomputable def vl_cX3_needPlace_0 : List (Nat × Instr × Nat) := [(0, .iload_n 0, 1), (1, .ifCond .lt 8, 3), (4, .iload_n 0, 1), (5, .iload_n 1, 1), (6, .if_icmp .le 14, 3), (9, .new 342, 3), (12, .dup, 1), (13, .ldc_w 349, 3), (16, .invokespecial 346, 3), (19, .athrow, 1), (20, .return_, 1)]
theorem vq_cX3_needPlace_0 : vl_ok cX3_needPlace vl_cX3_needPlace_0 = true := by decide +kernel
theorem dX3_needPlace_0 : decode cX3_needPlace 0 = .ok (.iload_n 0, 1) := vl_at vq_cX3_needPlace_0 (i := 0) rfl
theorem dX3_needPlace_1 : decode cX3_needPlace 1 = .ok (.ifCond .lt 8, 3) := vl_at vq_cX3_needPlace_0 (i := 1) rfl
theorem dX3_needPlace_4 : decode cX3_needPlace 4 = .ok (.iload_n 0, 1) := vl_at vq_cX3_needPlace_0 (i := 2) rfl
theorem dX3_needPlace_5 : decode cX3_needPlace 5 = .ok (.iload_n 1, 1) := vl_at vq_cX3_needPlace_0 (i := 3) rfl
theorem dX3_needPlace_6 : decode cX3_needPlace 6 = .ok (.if_icmp .le 14, 3) := vl_at vq_cX3_needPlace_0 (i := 4) rfl
theorem dX3_needPlace_9 : decode cX3_needPlace 9 = .ok (.new 342, 3) := vl_at vq_cX3_needPlace_0 (i := 5) rfl
theorem dX3_needPlace_12 : decode cX3_needPlace 12 = .ok (.dup, 1) := vl_at vq_cX3_needPlace_0 (i := 6) rfl
theorem dX3_needPlace_13 : decode cX3_needPlace 13 = .ok (.ldc_w 349, 3) := vl_at vq_cX3_needPlace_0 (i := 7) rfl
theorem dX3_needPlace_16 : decode cX3_needPlace 16 = .ok (.invokespecial 346, 3) := vl_at vq_cX3_needPlace_0 (i := 8) rfl
theorem dX3_needPlace_19 : decode cX3_needPlace 19 = .ok (.athrow, 1) := vl_at vq_cX3_needPlace_0 (i := 9) rfl
theorem dX3_needPlace_20 : decode cX3_needPlace 20 = .ok (.return_, 1) := vl_at vq_cX3_needPlace_0 (i := 10) rfl
noncomputable def vl_cX3_needPiece_0 : List (Nat × Instr × Nat) := [(0, .iload_n 0, 1), (1, .iconst 0, 1), (2, .bipush 9, 2), (4, .invokestatic 76, 3), (7, .iload_n 1, 1), (8, .iconst 0, 1), (9, .bipush 99, 2), (11, .invokestatic 76, 3), (14, .return_, 1)]
theorem vq_cX3_needPiece_0 : vl_ok cX3_needPiece vl_cX3_needPiece_0 = true := by decide +kernel
theorem dX3_needPiece_0 : decode cX3_needPiece 0 = .ok (.iload_n 0, 1) := vl_at vq_cX3_needPiece_0 (i := 0) rfl
theorem dX3_needPiece_1 : decode cX3_needPiece 1 = .ok (.iconst 0, 1) := vl_at vq_cX3_needPiece_0 (i := 1) rfl
theorem dX3_needPiece_2 : decode cX3_needPiece 2 = .ok (.bipush 9, 2) := vl_at vq_cX3_needPiece_0 (i := 2) rfl
theorem dX3_needPiece_4 : decode cX3_needPiece 4 = .ok (.invokestatic 76, 3) := vl_at vq_cX3_needPiece_0 (i := 3) rfl
theorem dX3_needPiece_7 : decode cX3_needPiece 7 = .ok (.iload_n 1, 1) := vl_at vq_cX3_needPiece_0 (i := 4) rfl
theorem dX3_needPiece_8 : decode cX3_needPiece 8 = .ok (.iconst 0, 1) := vl_at vq_cX3_needPiece_0 (i := 5) rfl
theorem dX3_needPiece_9 : decode cX3_needPiece 9 = .ok (.bipush 99, 2) := vl_at vq_cX3_needPiece_0 (i := 6) rfl
theorem dX3_needPiece_11 : decode cX3_needPiece 11 = .ok (.invokestatic 76, 3) := vl_at vq_cX3_needPiece_0 (i := 7) rfl
theorem dX3_needPiece_14 : decode cX3_needPiece 14 = .ok (.return_, 1) := vl_at vq_cX3_needPiece_0 (i := 8) rfl
noncomputable def vl_cX3_needKindOf_0 : List (Nat × Instr × Nat) := [(0, .iload_n 1, 1), (1, .iload_n 0, 1), (2, .ifCond .ne 7, 3), (5, .iconst 1, 1), (6, .goto 4, 3), (9, .iconst 0, 1), (10, .bipush 9, 2), (12, .invokestatic 76, 3), (15, .return_, 1)]
theorem vq_cX3_needKindOf_0 : vl_ok cX3_needKindOf vl_cX3_needKindOf_0 = true := by decide +kernel
theorem dX3_needKindOf_0 : decode cX3_needKindOf 0 = .ok (.iload_n 1, 1) := vl_at vq_cX3_needKindOf_0 (i := 0) rfl
theorem dX3_needKindOf_1 : decode cX3_needKindOf 1 = .ok (.iload_n 0, 1) := vl_at vq_cX3_needKindOf_0 (i := 1) rfl
theorem dX3_needKindOf_2 : decode cX3_needKindOf 2 = .ok (.ifCond .ne 7, 3) := vl_at vq_cX3_needKindOf_0 (i := 2) rfl
theorem dX3_needKindOf_5 : decode cX3_needKindOf 5 = .ok (.iconst 1, 1) := vl_at vq_cX3_needKindOf_0 (i := 3) rfl
theorem dX3_needKindOf_6 : decode cX3_needKindOf 6 = .ok (.goto 4, 3) := vl_at vq_cX3_needKindOf_0 (i := 4) rfl
theorem dX3_needKindOf_9 : decode cX3_needKindOf 9 = .ok (.iconst 0, 1) := vl_at vq_cX3_needKindOf_0 (i := 5) rfl
theorem dX3_needKindOf_10 : decode cX3_needKindOf 10 = .ok (.bipush 9, 2) := vl_at vq_cX3_needKindOf_0 (i := 6) rfl
theorem dX3_needKindOf_12 : decode cX3_needKindOf 12 = .ok (.invokestatic 76, 3) := vl_at vq_cX3_needKindOf_0 (i := 7) rfl
theorem dX3_needKindOf_15 : decode cX3_needKindOf 15 = .ok (.return_, 1) := vl_at vq_cX3_needKindOf_0 (i := 8) rfl
noncomputable def vl_cX3_needRoom_0 : List (Nat × Instr × Nat) := [(0, .aload_n 0, 1), (1, .iload_n 1, 1), (2, .invokevirtual 61, 3), (5, .invokevirtual 65, 3), (8, .iload_n 2, 1), (9, .iadd, 1), (10, .bipush 20, 2), (12, .if_icmp .le 14, 3), (15, .new 238, 3), (18, .dup, 1), (19, .ldc_w 351, 3), (22, .invokespecial 242, 3), (25, .athrow, 1), (26, .return_, 1)]
theorem vq_cX3_needRoom_0 : vl_ok cX3_needRoom vl_cX3_needRoom_0 = true := by decide +kernel
theorem dX3_needRoom_0 : decode cX3_needRoom 0 = .ok (.aload_n 0, 1) := vl_at vq_cX3_needRoom_0 (i := 0) rfl
theorem dX3_needRoom_1 : decode cX3_needRoom 1 = .ok (.iload_n 1, 1) := vl_at vq_cX3_needRoom_0 (i := 1) rfl
theorem dX3_needRoom_2 : decode cX3_needRoom 2 = .ok (.invokevirtual 61, 3) := vl_at vq_cX3_needRoom_0 (i := 2) rfl
theorem dX3_needRoom_5 : decode cX3_needRoom 5 = .ok (.invokevirtual 65, 3) := vl_at vq_cX3_needRoom_0 (i := 3) rfl
theorem dX3_needRoom_8 : decode cX3_needRoom 8 = .ok (.iload_n 2, 1) := vl_at vq_cX3_needRoom_0 (i := 4) rfl
theorem dX3_needRoom_9 : decode cX3_needRoom 9 = .ok (.iadd, 1) := vl_at vq_cX3_needRoom_0 (i := 5) rfl
theorem dX3_needRoom_10 : decode cX3_needRoom 10 = .ok (.bipush 20, 2) := vl_at vq_cX3_needRoom_0 (i := 6) rfl
theorem dX3_needRoom_12 : decode cX3_needRoom 12 = .ok (.if_icmp .le 14, 3) := vl_at vq_cX3_needRoom_0 (i := 7) rfl
theorem dX3_needRoom_15 : decode cX3_needRoom 15 = .ok (.new 238, 3) := vl_at vq_cX3_needRoom_0 (i := 8) rfl
theorem dX3_needRoom_18 : decode cX3_needRoom 18 = .ok (.dup, 1) := vl_at vq_cX3_needRoom_0 (i := 9) rfl
theorem dX3_needRoom_19 : decode cX3_needRoom 19 = .ok (.ldc_w 351, 3) := vl_at vq_cX3_needRoom_0 (i := 10) rfl
theorem dX3_needRoom_22 : decode cX3_needRoom 22 = .ok (.invokespecial 242, 3) := vl_at vq_cX3_needRoom_0 (i := 11) rfl
theorem dX3_needRoom_25 : decode cX3_needRoom 25 = .ok (.athrow, 1) := vl_at vq_cX3_needRoom_0 (i := 12) rfl
theorem dX3_needRoom_26 : decode cX3_needRoom 26 = .ok (.return_, 1) := vl_at vq_cX3_needRoom_0 (i := 13) rfl
noncomputable def vl_cX3_needWalk_0 : List (Nat × Instr × Nat) := [(0, .aload_n 0, 1), (1, .getfield 30, 3), (4, .getfield 353, 3), (7, .ifCond .ne 14, 3), (10, .new 238, 3), (13, .dup, 1), (14, .ldc_w 357, 3), (17, .invokespecial 242, 3), (20, .athrow, 1), (21, .return_, 1)]
theorem vq_cX3_needWalk_0 : vl_ok cX3_needWalk vl_cX3_needWalk_0 = true := by decide +kernel
theorem dX3_needWalk_0 : decode cX3_needWalk 0 = .ok (.aload_n 0, 1) := vl_at vq_cX3_needWalk_0 (i := 0) rfl
theorem dX3_needWalk_1 : decode cX3_needWalk 1 = .ok (.getfield 30, 3) := vl_at vq_cX3_needWalk_0 (i := 1) rfl
theorem dX3_needWalk_4 : decode cX3_needWalk 4 = .ok (.getfield 353, 3) := vl_at vq_cX3_needWalk_0 (i := 2) rfl
theorem dX3_needWalk_7 : decode cX3_needWalk 7 = .ok (.ifCond .ne 14, 3) := vl_at vq_cX3_needWalk_0 (i := 3) rfl
theorem dX3_needWalk_10 : decode cX3_needWalk 10 = .ok (.new 238, 3) := vl_at vq_cX3_needWalk_0 (i := 4) rfl
theorem dX3_needWalk_13 : decode cX3_needWalk 13 = .ok (.dup, 1) := vl_at vq_cX3_needWalk_0 (i := 5) rfl
theorem dX3_needWalk_14 : decode cX3_needWalk 14 = .ok (.ldc_w 357, 3) := vl_at vq_cX3_needWalk_0 (i := 6) rfl
theorem dX3_needWalk_17 : decode cX3_needWalk 17 = .ok (.invokespecial 242, 3) := vl_at vq_cX3_needWalk_0 (i := 7) rfl
theorem dX3_needWalk_20 : decode cX3_needWalk 20 = .ok (.athrow, 1) := vl_at vq_cX3_needWalk_0 (i := 8) rfl
theorem dX3_needWalk_21 : decode cX3_needWalk 21 = .ok (.return_, 1) := vl_at vq_cX3_needWalk_0 (i := 9) rfl
noncomputable def vl_cX3_needSomewhere_0 : List (Nat × Instr × Nat) := [(0, .aload_n 0, 1), (1, .iload_n 1, 1), (2, .invokevirtual 203, 3), (5, .getfield 359, 3), (8, .ifCond .ne 14, 3), (11, .new 238, 3), (14, .dup, 1), (15, .ldc_w 362, 3), (18, .invokespecial 242, 3), (21, .athrow, 1), (22, .return_, 1)]
theorem vq_cX3_needSomewhere_0 : vl_ok cX3_needSomewhere vl_cX3_needSomewhere_0 = true := by decide +kernel
theorem dX3_needSomewhere_0 : decode cX3_needSomewhere 0 = .ok (.aload_n 0, 1) := vl_at vq_cX3_needSomewhere_0 (i := 0) rfl
theorem dX3_needSomewhere_1 : decode cX3_needSomewhere 1 = .ok (.iload_n 1, 1) := vl_at vq_cX3_needSomewhere_0 (i := 1) rfl
theorem dX3_needSomewhere_2 : decode cX3_needSomewhere 2 = .ok (.invokevirtual 203, 3) := vl_at vq_cX3_needSomewhere_0 (i := 2) rfl
theorem dX3_needSomewhere_5 : decode cX3_needSomewhere 5 = .ok (.getfield 359, 3) := vl_at vq_cX3_needSomewhere_0 (i := 3) rfl
theorem dX3_needSomewhere_8 : decode cX3_needSomewhere 8 = .ok (.ifCond .ne 14, 3) := vl_at vq_cX3_needSomewhere_0 (i := 4) rfl
theorem dX3_needSomewhere_11 : decode cX3_needSomewhere 11 = .ok (.new 238, 3) := vl_at vq_cX3_needSomewhere_0 (i := 5) rfl
theorem dX3_needSomewhere_14 : decode cX3_needSomewhere 14 = .ok (.dup, 1) := vl_at vq_cX3_needSomewhere_0 (i := 6) rfl
theorem dX3_needSomewhere_15 : decode cX3_needSomewhere 15 = .ok (.ldc_w 362, 3) := vl_at vq_cX3_needSomewhere_0 (i := 7) rfl
theorem dX3_needSomewhere_18 : decode cX3_needSomewhere 18 = .ok (.invokespecial 242, 3) := vl_at vq_cX3_needSomewhere_0 (i := 8) rfl
theorem dX3_needSomewhere_21 : decode cX3_needSomewhere 21 = .ok (.athrow, 1) := vl_at vq_cX3_needSomewhere_0 (i := 9) rfl
theorem dX3_needSomewhere_22 : decode cX3_needSomewhere 22 = .ok (.return_, 1) := vl_at vq_cX3_needSomewhere_0 (i := 10) rfl
noncomputable def vl_cX3_codeOf_0 : List (Nat × Instr × Nat) := [(0, .iload_n 0, 1), (1, .ifCond .ne 7, 3), (4, .iconst 0, 1), (5, .goto 9, 3), (8, .bipush 100, 2), (10, .iload_n 0, 1), (11, .imul, 1), (12, .iload_n 1, 1), (13, .iadd, 1), (14, .ireturn, 1)]
theorem vq_cX3_codeOf_0 : vl_ok cX3_codeOf vl_cX3_codeOf_0 = true := by decide +kernel
theorem dX3_codeOf_0 : decode cX3_codeOf 0 = .ok (.iload_n 0, 1) := vl_at vq_cX3_codeOf_0 (i := 0) rfl
theorem dX3_codeOf_1 : decode cX3_codeOf 1 = .ok (.ifCond .ne 7, 3) := vl_at vq_cX3_codeOf_0 (i := 1) rfl
theorem dX3_codeOf_4 : decode cX3_codeOf 4 = .ok (.iconst 0, 1) := vl_at vq_cX3_codeOf_0 (i := 2) rfl
theorem dX3_codeOf_5 : decode cX3_codeOf 5 = .ok (.goto 9, 3) := vl_at vq_cX3_codeOf_0 (i := 3) rfl
theorem dX3_codeOf_8 : decode cX3_codeOf 8 = .ok (.bipush 100, 2) := vl_at vq_cX3_codeOf_0 (i := 4) rfl
theorem dX3_codeOf_10 : decode cX3_codeOf 10 = .ok (.iload_n 0, 1) := vl_at vq_cX3_codeOf_0 (i := 5) rfl
theorem dX3_codeOf_11 : decode cX3_codeOf 11 = .ok (.imul, 1) := vl_at vq_cX3_codeOf_0 (i := 6) rfl
theorem dX3_codeOf_12 : decode cX3_codeOf 12 = .ok (.iload_n 1, 1) := vl_at vq_cX3_codeOf_0 (i := 7) rfl
theorem dX3_codeOf_13 : decode cX3_codeOf 13 = .ok (.iadd, 1) := vl_at vq_cX3_codeOf_0 (i := 8) rfl
theorem dX3_codeOf_14 : decode cX3_codeOf 14 = .ok (.ireturn, 1) := vl_at vq_cX3_codeOf_0 (i := 9) rfl
noncomputable def vl_cX3_kindOf_0 : List (Nat × Instr × Nat) := [(0, .iload_n 0, 1), (1, .bipush 100, 2), (3, .idiv, 1), (4, .ireturn, 1)]
theorem vq_cX3_kindOf_0 : vl_ok cX3_kindOf vl_cX3_kindOf_0 = true := by decide +kernel
theorem dX3_kindOf_0 : decode cX3_kindOf 0 = .ok (.iload_n 0, 1) := vl_at vq_cX3_kindOf_0 (i := 0) rfl
theorem dX3_kindOf_1 : decode cX3_kindOf 1 = .ok (.bipush 100, 2) := vl_at vq_cX3_kindOf_0 (i := 1) rfl
theorem dX3_kindOf_3 : decode cX3_kindOf 3 = .ok (.idiv, 1) := vl_at vq_cX3_kindOf_0 (i := 2) rfl
theorem dX3_kindOf_4 : decode cX3_kindOf 4 = .ok (.ireturn, 1) := vl_at vq_cX3_kindOf_0 (i := 3) rfl
noncomputable def vl_cX3_loadOf_0 : List (Nat × Instr × Nat) := [(0, .iload_n 0, 1), (1, .bipush 100, 2), (3, .irem, 1), (4, .ireturn, 1)]
theorem vq_cX3_loadOf_0 : vl_ok cX3_loadOf vl_cX3_loadOf_0 = true := by decide +kernel
theorem dX3_loadOf_0 : decode cX3_loadOf 0 = .ok (.iload_n 0, 1) := vl_at vq_cX3_loadOf_0 (i := 0) rfl
theorem dX3_loadOf_1 : decode cX3_loadOf 1 = .ok (.bipush 100, 2) := vl_at vq_cX3_loadOf_0 (i := 1) rfl
theorem dX3_loadOf_3 : decode cX3_loadOf 3 = .ok (.irem, 1) := vl_at vq_cX3_loadOf_0 (i := 2) rfl
theorem dX3_loadOf_4 : decode cX3_loadOf 4 = .ok (.ireturn, 1) := vl_at vq_cX3_loadOf_0 (i := 3) rfl
noncomputable def vl_cX3_slipOf_0 : List (Nat × Instr × Nat) := [(0, .sipush 1000, 3), (3, .iconst 4, 1), (4, .iload_n 0, 1), (5, .imul, 1), (6, .iload_n 1, 1), (7, .ifCond .eq 7, 3), (10, .iconst 2, 1), (11, .goto 4, 3), (14, .iconst 0, 1), (15, .iadd, 1), (16, .iload_n 2, 1), (17, .ifCond .eq 7, 3), (20, .iconst 1, 1), (21, .goto 4, 3), (24, .iconst 0, 1), (25, .iadd, 1), (26, .imul, 1), (27, .iload_n 3, 1), (28, .iadd, 1), (29, .ireturn, 1)]
theorem vq_cX3_slipOf_0 : vl_ok cX3_slipOf vl_cX3_slipOf_0 = true := by decide +kernel
theorem dX3_slipOf_0 : decode cX3_slipOf 0 = .ok (.sipush 1000, 3) := vl_at vq_cX3_slipOf_0 (i := 0) rfl
theorem dX3_slipOf_3 : decode cX3_slipOf 3 = .ok (.iconst 4, 1) := vl_at vq_cX3_slipOf_0 (i := 1) rfl
theorem dX3_slipOf_4 : decode cX3_slipOf 4 = .ok (.iload_n 0, 1) := vl_at vq_cX3_slipOf_0 (i := 2) rfl
theorem dX3_slipOf_5 : decode cX3_slipOf 5 = .ok (.imul, 1) := vl_at vq_cX3_slipOf_0 (i := 3) rfl
theorem dX3_slipOf_6 : decode cX3_slipOf 6 = .ok (.iload_n 1, 1) := vl_at vq_cX3_slipOf_0 (i := 4) rfl
theorem dX3_slipOf_7 : decode cX3_slipOf 7 = .ok (.ifCond .eq 7, 3) := vl_at vq_cX3_slipOf_0 (i := 5) rfl
theorem dX3_slipOf_10 : decode cX3_slipOf 10 = .ok (.iconst 2, 1) := vl_at vq_cX3_slipOf_0 (i := 6) rfl
theorem dX3_slipOf_11 : decode cX3_slipOf 11 = .ok (.goto 4, 3) := vl_at vq_cX3_slipOf_0 (i := 7) rfl
theorem dX3_slipOf_14 : decode cX3_slipOf 14 = .ok (.iconst 0, 1) := vl_at vq_cX3_slipOf_0 (i := 8) rfl
theorem dX3_slipOf_15 : decode cX3_slipOf 15 = .ok (.iadd, 1) := vl_at vq_cX3_slipOf_0 (i := 9) rfl
theorem dX3_slipOf_16 : decode cX3_slipOf 16 = .ok (.iload_n 2, 1) := vl_at vq_cX3_slipOf_0 (i := 10) rfl
theorem dX3_slipOf_17 : decode cX3_slipOf 17 = .ok (.ifCond .eq 7, 3) := vl_at vq_cX3_slipOf_0 (i := 11) rfl
theorem dX3_slipOf_20 : decode cX3_slipOf 20 = .ok (.iconst 1, 1) := vl_at vq_cX3_slipOf_0 (i := 12) rfl
theorem dX3_slipOf_21 : decode cX3_slipOf 21 = .ok (.goto 4, 3) := vl_at vq_cX3_slipOf_0 (i := 13) rfl
theorem dX3_slipOf_24 : decode cX3_slipOf 24 = .ok (.iconst 0, 1) := vl_at vq_cX3_slipOf_0 (i := 14) rfl
theorem dX3_slipOf_25 : decode cX3_slipOf 25 = .ok (.iadd, 1) := vl_at vq_cX3_slipOf_0 (i := 15) rfl
theorem dX3_slipOf_26 : decode cX3_slipOf 26 = .ok (.imul, 1) := vl_at vq_cX3_slipOf_0 (i := 16) rfl
theorem dX3_slipOf_27 : decode cX3_slipOf 27 = .ok (.iload_n 3, 1) := vl_at vq_cX3_slipOf_0 (i := 17) rfl
theorem dX3_slipOf_28 : decode cX3_slipOf 28 = .ok (.iadd, 1) := vl_at vq_cX3_slipOf_0 (i := 18) rfl
theorem dX3_slipOf_29 : decode cX3_slipOf 29 = .ok (.ireturn, 1) := vl_at vq_cX3_slipOf_0 (i := 19) rfl
noncomputable def vl_cX3_slipTrack_0 : List (Nat × Instr × Nat) := [(0, .iload_n 0, 1), (1, .sipush 4000, 3), (4, .idiv, 1), (5, .ireturn, 1)]
theorem vq_cX3_slipTrack_0 : vl_ok cX3_slipTrack vl_cX3_slipTrack_0 = true := by decide +kernel
theorem dX3_slipTrack_0 : decode cX3_slipTrack 0 = .ok (.iload_n 0, 1) := vl_at vq_cX3_slipTrack_0 (i := 0) rfl
theorem dX3_slipTrack_1 : decode cX3_slipTrack 1 = .ok (.sipush 4000, 3) := vl_at vq_cX3_slipTrack_0 (i := 1) rfl
theorem dX3_slipTrack_4 : decode cX3_slipTrack 4 = .ok (.idiv, 1) := vl_at vq_cX3_slipTrack_0 (i := 2) rfl
theorem dX3_slipTrack_5 : decode cX3_slipTrack 5 = .ok (.ireturn, 1) := vl_at vq_cX3_slipTrack_0 (i := 3) rfl
noncomputable def vl_cX3_slipIsBack_0 : List (Nat × Instr × Nat) := [(0, .iload_n 0, 1), (1, .sipush 2000, 3), (4, .idiv, 1), (5, .iconst 2, 1), (6, .irem, 1), (7, .iconst 1, 1), (8, .if_icmp .ne 7, 3), (11, .iconst 1, 1), (12, .goto 4, 3), (15, .iconst 0, 1), (16, .ireturn, 1)]
theorem vq_cX3_slipIsBack_0 : vl_ok cX3_slipIsBack vl_cX3_slipIsBack_0 = true := by decide +kernel
theorem dX3_slipIsBack_0 : decode cX3_slipIsBack 0 = .ok (.iload_n 0, 1) := vl_at vq_cX3_slipIsBack_0 (i := 0) rfl
theorem dX3_slipIsBack_1 : decode cX3_slipIsBack 1 = .ok (.sipush 2000, 3) := vl_at vq_cX3_slipIsBack_0 (i := 1) rfl
theorem dX3_slipIsBack_4 : decode cX3_slipIsBack 4 = .ok (.idiv, 1) := vl_at vq_cX3_slipIsBack_0 (i := 2) rfl
theorem dX3_slipIsBack_5 : decode cX3_slipIsBack 5 = .ok (.iconst 2, 1) := vl_at vq_cX3_slipIsBack_0 (i := 3) rfl
theorem dX3_slipIsBack_6 : decode cX3_slipIsBack 6 = .ok (.irem, 1) := vl_at vq_cX3_slipIsBack_0 (i := 4) rfl
theorem dX3_slipIsBack_7 : decode cX3_slipIsBack 7 = .ok (.iconst 1, 1) := vl_at vq_cX3_slipIsBack_0 (i := 5) rfl
theorem dX3_slipIsBack_8 : decode cX3_slipIsBack 8 = .ok (.if_icmp .ne 7, 3) := vl_at vq_cX3_slipIsBack_0 (i := 6) rfl
theorem dX3_slipIsBack_11 : decode cX3_slipIsBack 11 = .ok (.iconst 1, 1) := vl_at vq_cX3_slipIsBack_0 (i := 7) rfl
theorem dX3_slipIsBack_12 : decode cX3_slipIsBack 12 = .ok (.goto 4, 3) := vl_at vq_cX3_slipIsBack_0 (i := 8) rfl
theorem dX3_slipIsBack_15 : decode cX3_slipIsBack 15 = .ok (.iconst 0, 1) := vl_at vq_cX3_slipIsBack_0 (i := 9) rfl
theorem dX3_slipIsBack_16 : decode cX3_slipIsBack 16 = .ok (.ireturn, 1) := vl_at vq_cX3_slipIsBack_0 (i := 10) rfl
noncomputable def vl_cX3_slipIsPut_0 : List (Nat × Instr × Nat) := [(0, .iload_n 0, 1), (1, .sipush 1000, 3), (4, .idiv, 1), (5, .iconst 2, 1), (6, .irem, 1), (7, .iconst 1, 1), (8, .if_icmp .ne 7, 3), (11, .iconst 1, 1), (12, .goto 4, 3), (15, .iconst 0, 1), (16, .ireturn, 1)]
theorem vq_cX3_slipIsPut_0 : vl_ok cX3_slipIsPut vl_cX3_slipIsPut_0 = true := by decide +kernel
theorem dX3_slipIsPut_0 : decode cX3_slipIsPut 0 = .ok (.iload_n 0, 1) := vl_at vq_cX3_slipIsPut_0 (i := 0) rfl
theorem dX3_slipIsPut_1 : decode cX3_slipIsPut 1 = .ok (.sipush 1000, 3) := vl_at vq_cX3_slipIsPut_0 (i := 1) rfl
theorem dX3_slipIsPut_4 : decode cX3_slipIsPut 4 = .ok (.idiv, 1) := vl_at vq_cX3_slipIsPut_0 (i := 2) rfl
theorem dX3_slipIsPut_5 : decode cX3_slipIsPut 5 = .ok (.iconst 2, 1) := vl_at vq_cX3_slipIsPut_0 (i := 3) rfl
theorem dX3_slipIsPut_6 : decode cX3_slipIsPut 6 = .ok (.irem, 1) := vl_at vq_cX3_slipIsPut_0 (i := 4) rfl
theorem dX3_slipIsPut_7 : decode cX3_slipIsPut 7 = .ok (.iconst 1, 1) := vl_at vq_cX3_slipIsPut_0 (i := 5) rfl
theorem dX3_slipIsPut_8 : decode cX3_slipIsPut 8 = .ok (.if_icmp .ne 7, 3) := vl_at vq_cX3_slipIsPut_0 (i := 6) rfl
theorem dX3_slipIsPut_11 : decode cX3_slipIsPut 11 = .ok (.iconst 1, 1) := vl_at vq_cX3_slipIsPut_0 (i := 7) rfl
theorem dX3_slipIsPut_12 : decode cX3_slipIsPut 12 = .ok (.goto 4, 3) := vl_at vq_cX3_slipIsPut_0 (i := 8) rfl
theorem dX3_slipIsPut_15 : decode cX3_slipIsPut 15 = .ok (.iconst 0, 1) := vl_at vq_cX3_slipIsPut_0 (i := 9) rfl
theorem dX3_slipIsPut_16 : decode cX3_slipIsPut 16 = .ok (.ireturn, 1) := vl_at vq_cX3_slipIsPut_0 (i := 10) rfl
noncomputable def vl_cX3_slipCode_0 : List (Nat × Instr × Nat) := [(0, .iload_n 0, 1), (1, .sipush 1000, 3), (4, .irem, 1), (5, .ireturn, 1)]
theorem vq_cX3_slipCode_0 : vl_ok cX3_slipCode vl_cX3_slipCode_0 = true := by decide +kernel
theorem dX3_slipCode_0 : decode cX3_slipCode 0 = .ok (.iload_n 0, 1) := vl_at vq_cX3_slipCode_0 (i := 0) rfl
theorem dX3_slipCode_1 : decode cX3_slipCode 1 = .ok (.sipush 1000, 3) := vl_at vq_cX3_slipCode_0 (i := 1) rfl
theorem dX3_slipCode_4 : decode cX3_slipCode 4 = .ok (.irem, 1) := vl_at vq_cX3_slipCode_0 (i := 2) rfl
theorem dX3_slipCode_5 : decode cX3_slipCode 5 = .ok (.ireturn, 1) := vl_at vq_cX3_slipCode_0 (i := 3) rfl
noncomputable def vl_cX3_oneIf_0 : List (Nat × Instr × Nat) := [(0, .iload_n 0, 1), (1, .ifCond .eq 7, 3), (4, .iconst 1, 1), (5, .goto 4, 3), (8, .iconst 0, 1), (9, .ireturn, 1)]
theorem vq_cX3_oneIf_0 : vl_ok cX3_oneIf vl_cX3_oneIf_0 = true := by decide +kernel
theorem dX3_oneIf_0 : decode cX3_oneIf 0 = .ok (.iload_n 0, 1) := vl_at vq_cX3_oneIf_0 (i := 0) rfl
theorem dX3_oneIf_1 : decode cX3_oneIf 1 = .ok (.ifCond .eq 7, 3) := vl_at vq_cX3_oneIf_0 (i := 1) rfl
theorem dX3_oneIf_4 : decode cX3_oneIf 4 = .ok (.iconst 1, 1) := vl_at vq_cX3_oneIf_0 (i := 2) rfl
theorem dX3_oneIf_5 : decode cX3_oneIf 5 = .ok (.goto 4, 3) := vl_at vq_cX3_oneIf_0 (i := 3) rfl
theorem dX3_oneIf_8 : decode cX3_oneIf 8 = .ok (.iconst 0, 1) := vl_at vq_cX3_oneIf_0 (i := 4) rfl
theorem dX3_oneIf_9 : decode cX3_oneIf 9 = .ok (.ireturn, 1) := vl_at vq_cX3_oneIf_0 (i := 5) rfl
noncomputable def vl_cX3_trackOf_0 : List (Nat × Instr × Nat) := [(0, .iload_n 1, 1), (1, .ifCond .ne 10, 3), (4, .aload_n 0, 1), (5, .getfield 14, 3), (8, .goto 7, 3), (11, .aload_n 0, 1), (12, .getfield 18, 3), (15, .areturn, 1)]
theorem vq_cX3_trackOf_0 : vl_ok cX3_trackOf vl_cX3_trackOf_0 = true := by decide +kernel
theorem dX3_trackOf_0 : decode cX3_trackOf 0 = .ok (.iload_n 1, 1) := vl_at vq_cX3_trackOf_0 (i := 0) rfl
theorem dX3_trackOf_1 : decode cX3_trackOf 1 = .ok (.ifCond .ne 10, 3) := vl_at vq_cX3_trackOf_0 (i := 1) rfl
theorem dX3_trackOf_4 : decode cX3_trackOf 4 = .ok (.aload_n 0, 1) := vl_at vq_cX3_trackOf_0 (i := 2) rfl
theorem dX3_trackOf_5 : decode cX3_trackOf 5 = .ok (.getfield 14, 3) := vl_at vq_cX3_trackOf_0 (i := 3) rfl
theorem dX3_trackOf_8 : decode cX3_trackOf 8 = .ok (.goto 7, 3) := vl_at vq_cX3_trackOf_0 (i := 4) rfl
theorem dX3_trackOf_11 : decode cX3_trackOf 11 = .ok (.aload_n 0, 1) := vl_at vq_cX3_trackOf_0 (i := 5) rfl
theorem dX3_trackOf_12 : decode cX3_trackOf 12 = .ok (.getfield 18, 3) := vl_at vq_cX3_trackOf_0 (i := 6) rfl
theorem dX3_trackOf_15 : decode cX3_trackOf 15 = .ok (.areturn, 1) := vl_at vq_cX3_trackOf_0 (i := 7) rfl
noncomputable def vl_cX3_walkerOf_0 : List (Nat × Instr × Nat) := [(0, .iload_n 1, 1), (1, .ifCond .ne 10, 3), (4, .aload_n 0, 1), (5, .getfield 37, 3), (8, .goto 7, 3), (11, .aload_n 0, 1), (12, .getfield 41, 3), (15, .areturn, 1)]
theorem vq_cX3_walkerOf_0 : vl_ok cX3_walkerOf vl_cX3_walkerOf_0 = true := by decide +kernel
theorem dX3_walkerOf_0 : decode cX3_walkerOf 0 = .ok (.iload_n 1, 1) := vl_at vq_cX3_walkerOf_0 (i := 0) rfl
theorem dX3_walkerOf_1 : decode cX3_walkerOf 1 = .ok (.ifCond .ne 10, 3) := vl_at vq_cX3_walkerOf_0 (i := 1) rfl
theorem dX3_walkerOf_4 : decode cX3_walkerOf 4 = .ok (.aload_n 0, 1) := vl_at vq_cX3_walkerOf_0 (i := 2) rfl
theorem dX3_walkerOf_5 : decode cX3_walkerOf 5 = .ok (.getfield 37, 3) := vl_at vq_cX3_walkerOf_0 (i := 3) rfl
theorem dX3_walkerOf_8 : decode cX3_walkerOf 8 = .ok (.goto 7, 3) := vl_at vq_cX3_walkerOf_0 (i := 4) rfl
theorem dX3_walkerOf_11 : decode cX3_walkerOf 11 = .ok (.aload_n 0, 1) := vl_at vq_cX3_walkerOf_0 (i := 5) rfl
theorem dX3_walkerOf_12 : decode cX3_walkerOf 12 = .ok (.getfield 41, 3) := vl_at vq_cX3_walkerOf_0 (i := 6) rfl
theorem dX3_walkerOf_15 : decode cX3_walkerOf 15 = .ok (.areturn, 1) := vl_at vq_cX3_walkerOf_0 (i := 7) rfl
noncomputable def vl_cX3_bringPiece_0 : List (Nat × Instr × Nat) := [(0, .iload_n 1, 1), (1, .invokestatic 69, 3), (4, .iload_n 3, 1), (5, .iload 4, 2), (7, .invokestatic 188, 3), (10, .aload_n 0, 1), (11, .iload_n 1, 1), (12, .iconst 1, 1), (13, .invokevirtual 80, 3), (16, .iload_n 1, 1), (17, .ifCond .ne 9, 3), (20, .iload_n 3, 1), (21, .ifCond .ne 5, 3), (24, .iconst 0, 1), (25, .ireturn, 1), (26, .aload_n 0, 1), (27, .iload_n 1, 1), (28, .iload_n 2, 1), (29, .iload_n 3, 1), (30, .iload 4, 2), (32, .invokestatic 84, 3), (35, .invokevirtual 88, 3), (38, .iconst 1, 1), (39, .ireturn, 1)]
theorem vq_cX3_bringPiece_0 : vl_ok cX3_bringPiece vl_cX3_bringPiece_0 = true := by decide +kernel
theorem dX3_bringPiece_0 : decode cX3_bringPiece 0 = .ok (.iload_n 1, 1) := vl_at vq_cX3_bringPiece_0 (i := 0) rfl
theorem dX3_bringPiece_1 : decode cX3_bringPiece 1 = .ok (.invokestatic 69, 3) := vl_at vq_cX3_bringPiece_0 (i := 1) rfl
theorem dX3_bringPiece_4 : decode cX3_bringPiece 4 = .ok (.iload_n 3, 1) := vl_at vq_cX3_bringPiece_0 (i := 2) rfl
theorem dX3_bringPiece_5 : decode cX3_bringPiece 5 = .ok (.iload 4, 2) := vl_at vq_cX3_bringPiece_0 (i := 3) rfl
theorem dX3_bringPiece_7 : decode cX3_bringPiece 7 = .ok (.invokestatic 188, 3) := vl_at vq_cX3_bringPiece_0 (i := 4) rfl
theorem dX3_bringPiece_10 : decode cX3_bringPiece 10 = .ok (.aload_n 0, 1) := vl_at vq_cX3_bringPiece_0 (i := 5) rfl
theorem dX3_bringPiece_11 : decode cX3_bringPiece 11 = .ok (.iload_n 1, 1) := vl_at vq_cX3_bringPiece_0 (i := 6) rfl
theorem dX3_bringPiece_12 : decode cX3_bringPiece 12 = .ok (.iconst 1, 1) := vl_at vq_cX3_bringPiece_0 (i := 7) rfl
theorem dX3_bringPiece_13 : decode cX3_bringPiece 13 = .ok (.invokevirtual 80, 3) := vl_at vq_cX3_bringPiece_0 (i := 8) rfl
theorem dX3_bringPiece_16 : decode cX3_bringPiece 16 = .ok (.iload_n 1, 1) := vl_at vq_cX3_bringPiece_0 (i := 9) rfl
theorem dX3_bringPiece_17 : decode cX3_bringPiece 17 = .ok (.ifCond .ne 9, 3) := vl_at vq_cX3_bringPiece_0 (i := 10) rfl
theorem dX3_bringPiece_20 : decode cX3_bringPiece 20 = .ok (.iload_n 3, 1) := vl_at vq_cX3_bringPiece_0 (i := 11) rfl
theorem dX3_bringPiece_21 : decode cX3_bringPiece 21 = .ok (.ifCond .ne 5, 3) := vl_at vq_cX3_bringPiece_0 (i := 12) rfl
theorem dX3_bringPiece_24 : decode cX3_bringPiece 24 = .ok (.iconst 0, 1) := vl_at vq_cX3_bringPiece_0 (i := 13) rfl
theorem dX3_bringPiece_25 : decode cX3_bringPiece 25 = .ok (.ireturn, 1) := vl_at vq_cX3_bringPiece_0 (i := 14) rfl
theorem dX3_bringPiece_26 : decode cX3_bringPiece 26 = .ok (.aload_n 0, 1) := vl_at vq_cX3_bringPiece_0 (i := 15) rfl
theorem dX3_bringPiece_27 : decode cX3_bringPiece 27 = .ok (.iload_n 1, 1) := vl_at vq_cX3_bringPiece_0 (i := 16) rfl
theorem dX3_bringPiece_28 : decode cX3_bringPiece 28 = .ok (.iload_n 2, 1) := vl_at vq_cX3_bringPiece_0 (i := 17) rfl
theorem dX3_bringPiece_29 : decode cX3_bringPiece 29 = .ok (.iload_n 3, 1) := vl_at vq_cX3_bringPiece_0 (i := 18) rfl
theorem dX3_bringPiece_30 : decode cX3_bringPiece 30 = .ok (.iload 4, 2) := vl_at vq_cX3_bringPiece_0 (i := 19) rfl
theorem dX3_bringPiece_32 : decode cX3_bringPiece 32 = .ok (.invokestatic 84, 3) := vl_at vq_cX3_bringPiece_0 (i := 20) rfl
theorem dX3_bringPiece_35 : decode cX3_bringPiece 35 = .ok (.invokevirtual 88, 3) := vl_at vq_cX3_bringPiece_0 (i := 21) rfl
theorem dX3_bringPiece_38 : decode cX3_bringPiece 38 = .ok (.iconst 1, 1) := vl_at vq_cX3_bringPiece_0 (i := 22) rfl
theorem dX3_bringPiece_39 : decode cX3_bringPiece 39 = .ok (.ireturn, 1) := vl_at vq_cX3_bringPiece_0 (i := 23) rfl
noncomputable def vl_cX3_fetchPiece_0 : List (Nat × Instr × Nat) := [(0, .aload_n 0, 1), (1, .iload_n 1, 1), (2, .invokevirtual 61, 3), (5, .invokevirtual 96, 3), (8, .ifCond .eq 7, 3), (11, .iload_n 3, 1), (12, .goto 9, 3), (15, .aload_n 0, 1), (16, .iload_n 1, 1), (17, .iload_n 2, 1), (18, .invokevirtual 106, 3), (21, .ireturn, 1)]
theorem vq_cX3_fetchPiece_0 : vl_ok cX3_fetchPiece vl_cX3_fetchPiece_0 = true := by decide +kernel
theorem dX3_fetchPiece_0 : decode cX3_fetchPiece 0 = .ok (.aload_n 0, 1) := vl_at vq_cX3_fetchPiece_0 (i := 0) rfl
theorem dX3_fetchPiece_1 : decode cX3_fetchPiece 1 = .ok (.iload_n 1, 1) := vl_at vq_cX3_fetchPiece_0 (i := 1) rfl
theorem dX3_fetchPiece_2 : decode cX3_fetchPiece 2 = .ok (.invokevirtual 61, 3) := vl_at vq_cX3_fetchPiece_0 (i := 2) rfl
theorem dX3_fetchPiece_5 : decode cX3_fetchPiece 5 = .ok (.invokevirtual 96, 3) := vl_at vq_cX3_fetchPiece_0 (i := 3) rfl
theorem dX3_fetchPiece_8 : decode cX3_fetchPiece 8 = .ok (.ifCond .eq 7, 3) := vl_at vq_cX3_fetchPiece_0 (i := 4) rfl
theorem dX3_fetchPiece_11 : decode cX3_fetchPiece 11 = .ok (.iload_n 3, 1) := vl_at vq_cX3_fetchPiece_0 (i := 5) rfl
theorem dX3_fetchPiece_12 : decode cX3_fetchPiece 12 = .ok (.goto 9, 3) := vl_at vq_cX3_fetchPiece_0 (i := 6) rfl
theorem dX3_fetchPiece_15 : decode cX3_fetchPiece 15 = .ok (.aload_n 0, 1) := vl_at vq_cX3_fetchPiece_0 (i := 7) rfl
theorem dX3_fetchPiece_16 : decode cX3_fetchPiece 16 = .ok (.iload_n 1, 1) := vl_at vq_cX3_fetchPiece_0 (i := 8) rfl
theorem dX3_fetchPiece_17 : decode cX3_fetchPiece 17 = .ok (.iload_n 2, 1) := vl_at vq_cX3_fetchPiece_0 (i := 9) rfl
theorem dX3_fetchPiece_18 : decode cX3_fetchPiece 18 = .ok (.invokevirtual 106, 3) := vl_at vq_cX3_fetchPiece_0 (i := 10) rfl
theorem dX3_fetchPiece_21 : decode cX3_fetchPiece 21 = .ok (.ireturn, 1) := vl_at vq_cX3_fetchPiece_0 (i := 11) rfl
noncomputable def vl_cX3_stepOn_0 : List (Nat × Instr × Nat) := [(0, .aload_n 0, 1), (1, .iload_n 1, 1), (2, .invokevirtual 61, 3), (5, .astore 4, 2), (7, .aload 4, 2), (9, .iload_n 2, 1), (10, .ifCond .eq 11, 3), (13, .aload 4, 2), (15, .invokevirtual 65, 3), (18, .goto 4, 3), (21, .iconst 0, 1), (22, .iload_n 3, 1), (23, .invokevirtual 129, 3), (26, .aload_n 0, 1), (27, .iload_n 1, 1), (28, .iload_n 2, 1), (29, .iconst 1, 1), (30, .iload_n 3, 1), (31, .invokestatic 364, 3), (34, .invokevirtual 368, 3), (37, .aload_n 0, 1), (38, .iload_n 1, 1), (39, .invokevirtual 132, 3), (42, .return_, 1)]
theorem vq_cX3_stepOn_0 : vl_ok cX3_stepOn vl_cX3_stepOn_0 = true := by decide +kernel
theorem dX3_stepOn_0 : decode cX3_stepOn 0 = .ok (.aload_n 0, 1) := vl_at vq_cX3_stepOn_0 (i := 0) rfl
theorem dX3_stepOn_1 : decode cX3_stepOn 1 = .ok (.iload_n 1, 1) := vl_at vq_cX3_stepOn_0 (i := 1) rfl
theorem dX3_stepOn_2 : decode cX3_stepOn 2 = .ok (.invokevirtual 61, 3) := vl_at vq_cX3_stepOn_0 (i := 2) rfl
theorem dX3_stepOn_5 : decode cX3_stepOn 5 = .ok (.astore 4, 2) := vl_at vq_cX3_stepOn_0 (i := 3) rfl
theorem dX3_stepOn_7 : decode cX3_stepOn 7 = .ok (.aload 4, 2) := vl_at vq_cX3_stepOn_0 (i := 4) rfl
theorem dX3_stepOn_9 : decode cX3_stepOn 9 = .ok (.iload_n 2, 1) := vl_at vq_cX3_stepOn_0 (i := 5) rfl
theorem dX3_stepOn_10 : decode cX3_stepOn 10 = .ok (.ifCond .eq 11, 3) := vl_at vq_cX3_stepOn_0 (i := 6) rfl
theorem dX3_stepOn_13 : decode cX3_stepOn 13 = .ok (.aload 4, 2) := vl_at vq_cX3_stepOn_0 (i := 7) rfl
theorem dX3_stepOn_15 : decode cX3_stepOn 15 = .ok (.invokevirtual 65, 3) := vl_at vq_cX3_stepOn_0 (i := 8) rfl
theorem dX3_stepOn_18 : decode cX3_stepOn 18 = .ok (.goto 4, 3) := vl_at vq_cX3_stepOn_0 (i := 9) rfl
theorem dX3_stepOn_21 : decode cX3_stepOn 21 = .ok (.iconst 0, 1) := vl_at vq_cX3_stepOn_0 (i := 10) rfl
theorem dX3_stepOn_22 : decode cX3_stepOn 22 = .ok (.iload_n 3, 1) := vl_at vq_cX3_stepOn_0 (i := 11) rfl
theorem dX3_stepOn_23 : decode cX3_stepOn 23 = .ok (.invokevirtual 129, 3) := vl_at vq_cX3_stepOn_0 (i := 12) rfl
theorem dX3_stepOn_26 : decode cX3_stepOn 26 = .ok (.aload_n 0, 1) := vl_at vq_cX3_stepOn_0 (i := 13) rfl
theorem dX3_stepOn_27 : decode cX3_stepOn 27 = .ok (.iload_n 1, 1) := vl_at vq_cX3_stepOn_0 (i := 14) rfl
theorem dX3_stepOn_28 : decode cX3_stepOn 28 = .ok (.iload_n 2, 1) := vl_at vq_cX3_stepOn_0 (i := 15) rfl
theorem dX3_stepOn_29 : decode cX3_stepOn 29 = .ok (.iconst 1, 1) := vl_at vq_cX3_stepOn_0 (i := 16) rfl
theorem dX3_stepOn_30 : decode cX3_stepOn 30 = .ok (.iload_n 3, 1) := vl_at vq_cX3_stepOn_0 (i := 17) rfl
theorem dX3_stepOn_31 : decode cX3_stepOn 31 = .ok (.invokestatic 364, 3) := vl_at vq_cX3_stepOn_0 (i := 18) rfl
theorem dX3_stepOn_34 : decode cX3_stepOn 34 = .ok (.invokevirtual 368, 3) := vl_at vq_cX3_stepOn_0 (i := 19) rfl
theorem dX3_stepOn_37 : decode cX3_stepOn 37 = .ok (.aload_n 0, 1) := vl_at vq_cX3_stepOn_0 (i := 20) rfl
theorem dX3_stepOn_38 : decode cX3_stepOn 38 = .ok (.iload_n 1, 1) := vl_at vq_cX3_stepOn_0 (i := 21) rfl
theorem dX3_stepOn_39 : decode cX3_stepOn 39 = .ok (.invokevirtual 132, 3) := vl_at vq_cX3_stepOn_0 (i := 22) rfl
theorem dX3_stepOn_42 : decode cX3_stepOn 42 = .ok (.return_, 1) := vl_at vq_cX3_stepOn_0 (i := 23) rfl
noncomputable def vl_cX3_stepOff_0 : List (Nat × Instr × Nat) := [(0, .aload_n 0, 1), (1, .iload_n 1, 1), (2, .invokevirtual 61, 3), (5, .astore_n 3, 1), (6, .aload_n 3, 1), (7, .aload_n 3, 1), (8, .iload_n 2, 1), (9, .invokevirtual 109, 3), (12, .invokevirtual 113, 3), (15, .istore 4, 2), (17, .aload_n 0, 1), (18, .iload_n 1, 1), (19, .iload_n 2, 1), (20, .iconst 0, 1), (21, .iload 4, 2), (23, .invokestatic 364, 3), (26, .invokevirtual 368, 3), (29, .aload_n 0, 1), (30, .iload_n 1, 1), (31, .invokevirtual 132, 3), (34, .iload 4, 2), (36, .ireturn, 1)]
theorem vq_cX3_stepOff_0 : vl_ok cX3_stepOff vl_cX3_stepOff_0 = true := by decide +kernel
theorem dX3_stepOff_0 : decode cX3_stepOff 0 = .ok (.aload_n 0, 1) := vl_at vq_cX3_stepOff_0 (i := 0) rfl
theorem dX3_stepOff_1 : decode cX3_stepOff 1 = .ok (.iload_n 1, 1) := vl_at vq_cX3_stepOff_0 (i := 1) rfl
theorem dX3_stepOff_2 : decode cX3_stepOff 2 = .ok (.invokevirtual 61, 3) := vl_at vq_cX3_stepOff_0 (i := 2) rfl
theorem dX3_stepOff_5 : decode cX3_stepOff 5 = .ok (.astore_n 3, 1) := vl_at vq_cX3_stepOff_0 (i := 3) rfl
theorem dX3_stepOff_6 : decode cX3_stepOff 6 = .ok (.aload_n 3, 1) := vl_at vq_cX3_stepOff_0 (i := 4) rfl
theorem dX3_stepOff_7 : decode cX3_stepOff 7 = .ok (.aload_n 3, 1) := vl_at vq_cX3_stepOff_0 (i := 5) rfl
theorem dX3_stepOff_8 : decode cX3_stepOff 8 = .ok (.iload_n 2, 1) := vl_at vq_cX3_stepOff_0 (i := 6) rfl
theorem dX3_stepOff_9 : decode cX3_stepOff 9 = .ok (.invokevirtual 109, 3) := vl_at vq_cX3_stepOff_0 (i := 7) rfl
theorem dX3_stepOff_12 : decode cX3_stepOff 12 = .ok (.invokevirtual 113, 3) := vl_at vq_cX3_stepOff_0 (i := 8) rfl
theorem dX3_stepOff_15 : decode cX3_stepOff 15 = .ok (.istore 4, 2) := vl_at vq_cX3_stepOff_0 (i := 9) rfl
theorem dX3_stepOff_17 : decode cX3_stepOff 17 = .ok (.aload_n 0, 1) := vl_at vq_cX3_stepOff_0 (i := 10) rfl
theorem dX3_stepOff_18 : decode cX3_stepOff 18 = .ok (.iload_n 1, 1) := vl_at vq_cX3_stepOff_0 (i := 11) rfl
theorem dX3_stepOff_19 : decode cX3_stepOff 19 = .ok (.iload_n 2, 1) := vl_at vq_cX3_stepOff_0 (i := 12) rfl
theorem dX3_stepOff_20 : decode cX3_stepOff 20 = .ok (.iconst 0, 1) := vl_at vq_cX3_stepOff_0 (i := 13) rfl
theorem dX3_stepOff_21 : decode cX3_stepOff 21 = .ok (.iload 4, 2) := vl_at vq_cX3_stepOff_0 (i := 14) rfl
theorem dX3_stepOff_23 : decode cX3_stepOff 23 = .ok (.invokestatic 364, 3) := vl_at vq_cX3_stepOff_0 (i := 15) rfl
theorem dX3_stepOff_26 : decode cX3_stepOff 26 = .ok (.invokevirtual 368, 3) := vl_at vq_cX3_stepOff_0 (i := 16) rfl
theorem dX3_stepOff_29 : decode cX3_stepOff 29 = .ok (.aload_n 0, 1) := vl_at vq_cX3_stepOff_0 (i := 17) rfl
theorem dX3_stepOff_30 : decode cX3_stepOff 30 = .ok (.iload_n 1, 1) := vl_at vq_cX3_stepOff_0 (i := 18) rfl
theorem dX3_stepOff_31 : decode cX3_stepOff 31 = .ok (.invokevirtual 132, 3) := vl_at vq_cX3_stepOff_0 (i := 19) rfl
theorem dX3_stepOff_34 : decode cX3_stepOff 34 = .ok (.iload 4, 2) := vl_at vq_cX3_stepOff_0 (i := 20) rfl
theorem dX3_stepOff_36 : decode cX3_stepOff 36 = .ok (.ireturn, 1) := vl_at vq_cX3_stepOff_0 (i := 21) rfl
noncomputable def vl_cX3_laySlip_0 : List (Nat × Instr × Nat) := [(0, .aload_n 0, 1), (1, .getfield 21, 3), (4, .invokevirtual 248, 3), (7, .ifCond .eq 12, 3), (10, .aload_n 0, 1), (11, .getfield 21, 3), (14, .iconst 0, 1), (15, .invokevirtual 113, 3), (18, .pop, 1), (19, .aload_n 0, 1), (20, .getfield 21, 3), (23, .iload_n 1, 1), (24, .invokevirtual 197, 3), (27, .return_, 1)]
theorem vq_cX3_laySlip_0 : vl_ok cX3_laySlip vl_cX3_laySlip_0 = true := by decide +kernel
theorem dX3_laySlip_0 : decode cX3_laySlip 0 = .ok (.aload_n 0, 1) := vl_at vq_cX3_laySlip_0 (i := 0) rfl
theorem dX3_laySlip_1 : decode cX3_laySlip 1 = .ok (.getfield 21, 3) := vl_at vq_cX3_laySlip_0 (i := 1) rfl
theorem dX3_laySlip_4 : decode cX3_laySlip 4 = .ok (.invokevirtual 248, 3) := vl_at vq_cX3_laySlip_0 (i := 2) rfl
theorem dX3_laySlip_7 : decode cX3_laySlip 7 = .ok (.ifCond .eq 12, 3) := vl_at vq_cX3_laySlip_0 (i := 3) rfl
theorem dX3_laySlip_10 : decode cX3_laySlip 10 = .ok (.aload_n 0, 1) := vl_at vq_cX3_laySlip_0 (i := 4) rfl
theorem dX3_laySlip_11 : decode cX3_laySlip 11 = .ok (.getfield 21, 3) := vl_at vq_cX3_laySlip_0 (i := 5) rfl
theorem dX3_laySlip_14 : decode cX3_laySlip 14 = .ok (.iconst 0, 1) := vl_at vq_cX3_laySlip_0 (i := 6) rfl
theorem dX3_laySlip_15 : decode cX3_laySlip 15 = .ok (.invokevirtual 113, 3) := vl_at vq_cX3_laySlip_0 (i := 7) rfl
theorem dX3_laySlip_18 : decode cX3_laySlip 18 = .ok (.pop, 1) := vl_at vq_cX3_laySlip_0 (i := 8) rfl
theorem dX3_laySlip_19 : decode cX3_laySlip 19 = .ok (.aload_n 0, 1) := vl_at vq_cX3_laySlip_0 (i := 9) rfl
theorem dX3_laySlip_20 : decode cX3_laySlip 20 = .ok (.getfield 21, 3) := vl_at vq_cX3_laySlip_0 (i := 10) rfl
theorem dX3_laySlip_23 : decode cX3_laySlip 23 = .ok (.iload_n 1, 1) := vl_at vq_cX3_laySlip_0 (i := 11) rfl
theorem dX3_laySlip_24 : decode cX3_laySlip 24 = .ok (.invokevirtual 197, 3) := vl_at vq_cX3_laySlip_0 (i := 12) rfl
theorem dX3_laySlip_27 : decode cX3_laySlip 27 = .ok (.return_, 1) := vl_at vq_cX3_laySlip_0 (i := 13) rfl
noncomputable def vl_cX3_disturb_0 : List (Nat × Instr × Nat) := [(0, .iload_n 1, 1), (1, .ifCond .ne 13, 3), (4, .aload_n 0, 1), (5, .getfield 30, 3), (8, .invokevirtual 371, 3), (11, .goto 17, 3), (14, .aload_n 0, 1), (15, .getfield 37, 3), (18, .invokevirtual 374, 3), (21, .aload_n 0, 1), (22, .getfield 41, 3), (25, .invokevirtual 374, 3), (28, .return_, 1)]
theorem vq_cX3_disturb_0 : vl_ok cX3_disturb vl_cX3_disturb_0 = true := by decide +kernel
theorem dX3_disturb_0 : decode cX3_disturb 0 = .ok (.iload_n 1, 1) := vl_at vq_cX3_disturb_0 (i := 0) rfl
theorem dX3_disturb_1 : decode cX3_disturb 1 = .ok (.ifCond .ne 13, 3) := vl_at vq_cX3_disturb_0 (i := 1) rfl
theorem dX3_disturb_4 : decode cX3_disturb 4 = .ok (.aload_n 0, 1) := vl_at vq_cX3_disturb_0 (i := 2) rfl
theorem dX3_disturb_5 : decode cX3_disturb 5 = .ok (.getfield 30, 3) := vl_at vq_cX3_disturb_0 (i := 3) rfl
theorem dX3_disturb_8 : decode cX3_disturb 8 = .ok (.invokevirtual 371, 3) := vl_at vq_cX3_disturb_0 (i := 4) rfl
theorem dX3_disturb_11 : decode cX3_disturb 11 = .ok (.goto 17, 3) := vl_at vq_cX3_disturb_0 (i := 5) rfl
theorem dX3_disturb_14 : decode cX3_disturb 14 = .ok (.aload_n 0, 1) := vl_at vq_cX3_disturb_0 (i := 6) rfl
theorem dX3_disturb_15 : decode cX3_disturb 15 = .ok (.getfield 37, 3) := vl_at vq_cX3_disturb_0 (i := 7) rfl
theorem dX3_disturb_18 : decode cX3_disturb 18 = .ok (.invokevirtual 374, 3) := vl_at vq_cX3_disturb_0 (i := 8) rfl
theorem dX3_disturb_21 : decode cX3_disturb 21 = .ok (.aload_n 0, 1) := vl_at vq_cX3_disturb_0 (i := 9) rfl
theorem dX3_disturb_22 : decode cX3_disturb 22 = .ok (.getfield 41, 3) := vl_at vq_cX3_disturb_0 (i := 10) rfl
theorem dX3_disturb_25 : decode cX3_disturb 25 = .ok (.invokevirtual 374, 3) := vl_at vq_cX3_disturb_0 (i := 11) rfl
theorem dX3_disturb_28 : decode cX3_disturb 28 = .ok (.return_, 1) := vl_at vq_cX3_disturb_0 (i := 12) rfl
noncomputable def vl_cX3_tearFor_0 : List (Nat × Instr × Nat) := [(0, .aload_n 0, 1), (1, .getfield 21, 3), (4, .invokevirtual 159, 3), (7, .aload_n 0, 1), (8, .iload_n 1, 1), (9, .invokevirtual 132, 3), (12, .return_, 1)]
theorem vq_cX3_tearFor_0 : vl_ok cX3_tearFor vl_cX3_tearFor_0 = true := by decide +kernel
theorem dX3_tearFor_0 : decode cX3_tearFor 0 = .ok (.aload_n 0, 1) := vl_at vq_cX3_tearFor_0 (i := 0) rfl
theorem dX3_tearFor_1 : decode cX3_tearFor 1 = .ok (.getfield 21, 3) := vl_at vq_cX3_tearFor_0 (i := 1) rfl
theorem dX3_tearFor_4 : decode cX3_tearFor 4 = .ok (.invokevirtual 159, 3) := vl_at vq_cX3_tearFor_0 (i := 2) rfl
theorem dX3_tearFor_7 : decode cX3_tearFor 7 = .ok (.aload_n 0, 1) := vl_at vq_cX3_tearFor_0 (i := 3) rfl
theorem dX3_tearFor_8 : decode cX3_tearFor 8 = .ok (.iload_n 1, 1) := vl_at vq_cX3_tearFor_0 (i := 4) rfl
theorem dX3_tearFor_9 : decode cX3_tearFor 9 = .ok (.invokevirtual 132, 3) := vl_at vq_cX3_tearFor_0 (i := 5) rfl
theorem dX3_tearFor_12 : decode cX3_tearFor 12 = .ok (.return_, 1) := vl_at vq_cX3_tearFor_0 (i := 6) rfl
noncomputable def vl_cX3_tearIfAny_0 : List (Nat × Instr × Nat) := [(0, .iload_n 2, 1), (1, .ifCond .le 8, 3), (4, .aload_n 0, 1), (5, .iload_n 1, 1), (6, .invokevirtual 141, 3), (9, .return_, 1)]
theorem vq_cX3_tearIfAny_0 : vl_ok cX3_tearIfAny vl_cX3_tearIfAny_0 = true := by decide +kernel
theorem dX3_tearIfAny_0 : decode cX3_tearIfAny 0 = .ok (.iload_n 2, 1) := vl_at vq_cX3_tearIfAny_0 (i := 0) rfl
theorem dX3_tearIfAny_1 : decode cX3_tearIfAny 1 = .ok (.ifCond .le 8, 3) := vl_at vq_cX3_tearIfAny_0 (i := 1) rfl
theorem dX3_tearIfAny_4 : decode cX3_tearIfAny 4 = .ok (.aload_n 0, 1) := vl_at vq_cX3_tearIfAny_0 (i := 2) rfl
theorem dX3_tearIfAny_5 : decode cX3_tearIfAny 5 = .ok (.iload_n 1, 1) := vl_at vq_cX3_tearIfAny_0 (i := 3) rfl
theorem dX3_tearIfAny_6 : decode cX3_tearIfAny 6 = .ok (.invokevirtual 141, 3) := vl_at vq_cX3_tearIfAny_0 (i := 4) rfl
theorem dX3_tearIfAny_9 : decode cX3_tearIfAny 9 = .ok (.return_, 1) := vl_at vq_cX3_tearIfAny_0 (i := 5) rfl
noncomputable def vl_cX3_tearForWalker_0 : List (Nat × Instr × Nat) := [(0, .aload_n 0, 1), (1, .getfield 21, 3), (4, .invokevirtual 159, 3), (7, .aload_n 0, 1), (8, .iconst 1, 1), (9, .iload_n 1, 1), (10, .isub, 1), (11, .invokevirtual 203, 3), (14, .invokevirtual 374, 3), (17, .return_, 1)]
theorem vq_cX3_tearForWalker_0 : vl_ok cX3_tearForWalker vl_cX3_tearForWalker_0 = true := by decide +kernel
theorem dX3_tearForWalker_0 : decode cX3_tearForWalker 0 = .ok (.aload_n 0, 1) := vl_at vq_cX3_tearForWalker_0 (i := 0) rfl
theorem dX3_tearForWalker_1 : decode cX3_tearForWalker 1 = .ok (.getfield 21, 3) := vl_at vq_cX3_tearForWalker_0 (i := 1) rfl
theorem dX3_tearForWalker_4 : decode cX3_tearForWalker 4 = .ok (.invokevirtual 159, 3) := vl_at vq_cX3_tearForWalker_0 (i := 2) rfl
theorem dX3_tearForWalker_7 : decode cX3_tearForWalker 7 = .ok (.aload_n 0, 1) := vl_at vq_cX3_tearForWalker_0 (i := 3) rfl
theorem dX3_tearForWalker_8 : decode cX3_tearForWalker 8 = .ok (.iconst 1, 1) := vl_at vq_cX3_tearForWalker_0 (i := 4) rfl
theorem dX3_tearForWalker_9 : decode cX3_tearForWalker 9 = .ok (.iload_n 1, 1) := vl_at vq_cX3_tearForWalker_0 (i := 5) rfl
theorem dX3_tearForWalker_10 : decode cX3_tearForWalker 10 = .ok (.isub, 1) := vl_at vq_cX3_tearForWalker_0 (i := 6) rfl
theorem dX3_tearForWalker_11 : decode cX3_tearForWalker 11 = .ok (.invokevirtual 203, 3) := vl_at vq_cX3_tearForWalker_0 (i := 7) rfl
theorem dX3_tearForWalker_14 : decode cX3_tearForWalker 14 = .ok (.invokevirtual 374, 3) := vl_at vq_cX3_tearForWalker_0 (i := 8) rfl
theorem dX3_tearForWalker_17 : decode cX3_tearForWalker 17 = .ok (.return_, 1) := vl_at vq_cX3_tearForWalker_0 (i := 9) rfl
noncomputable def vl_cX3_layAnew_0 : List (Nat × Instr × Nat) := [(0, .aload_n 0, 1), (1, .getfield 18, 3), (4, .iload_n 1, 1), (5, .iload_n 2, 1), (6, .invokevirtual 156, 3), (9, .aload_n 0, 1), (10, .getfield 21, 3), (13, .invokevirtual 159, 3), (16, .return_, 1)]
theorem vq_cX3_layAnew_0 : vl_ok cX3_layAnew vl_cX3_layAnew_0 = true := by decide +kernel
theorem dX3_layAnew_0 : decode cX3_layAnew 0 = .ok (.aload_n 0, 1) := vl_at vq_cX3_layAnew_0 (i := 0) rfl
theorem dX3_layAnew_1 : decode cX3_layAnew 1 = .ok (.getfield 18, 3) := vl_at vq_cX3_layAnew_0 (i := 1) rfl
theorem dX3_layAnew_4 : decode cX3_layAnew 4 = .ok (.iload_n 1, 1) := vl_at vq_cX3_layAnew_0 (i := 2) rfl
theorem dX3_layAnew_5 : decode cX3_layAnew 5 = .ok (.iload_n 2, 1) := vl_at vq_cX3_layAnew_0 (i := 3) rfl
theorem dX3_layAnew_6 : decode cX3_layAnew 6 = .ok (.invokevirtual 156, 3) := vl_at vq_cX3_layAnew_0 (i := 4) rfl
theorem dX3_layAnew_9 : decode cX3_layAnew 9 = .ok (.aload_n 0, 1) := vl_at vq_cX3_layAnew_0 (i := 5) rfl
theorem dX3_layAnew_10 : decode cX3_layAnew 10 = .ok (.getfield 21, 3) := vl_at vq_cX3_layAnew_0 (i := 6) rfl
theorem dX3_layAnew_13 : decode cX3_layAnew 13 = .ok (.invokevirtual 159, 3) := vl_at vq_cX3_layAnew_0 (i := 7) rfl
theorem dX3_layAnew_16 : decode cX3_layAnew 16 = .ok (.return_, 1) := vl_at vq_cX3_layAnew_0 (i := 8) rfl
noncomputable def vl_cX3_orderTrack_0 : List (Nat × Instr × Nat) := [(0, .iload_n 0, 1), (1, .iconst 4, 1), (2, .idiv, 1), (3, .ireturn, 1)]
theorem vq_cX3_orderTrack_0 : vl_ok cX3_orderTrack vl_cX3_orderTrack_0 = true := by decide +kernel
theorem dX3_orderTrack_0 : decode cX3_orderTrack 0 = .ok (.iload_n 0, 1) := vl_at vq_cX3_orderTrack_0 (i := 0) rfl
theorem dX3_orderTrack_1 : decode cX3_orderTrack 1 = .ok (.iconst 4, 1) := vl_at vq_cX3_orderTrack_0 (i := 1) rfl
theorem dX3_orderTrack_2 : decode cX3_orderTrack 2 = .ok (.idiv, 1) := vl_at vq_cX3_orderTrack_0 (i := 2) rfl
theorem dX3_orderTrack_3 : decode cX3_orderTrack 3 = .ok (.ireturn, 1) := vl_at vq_cX3_orderTrack_0 (i := 3) rfl
noncomputable def vl_cX3_orderIsFromBack_0 : List (Nat × Instr × Nat) := [(0, .iload_n 0, 1), (1, .iconst 2, 1), (2, .idiv, 1), (3, .iconst 2, 1), (4, .irem, 1), (5, .iconst 1, 1), (6, .if_icmp .ne 7, 3), (9, .iconst 1, 1), (10, .goto 4, 3), (13, .iconst 0, 1), (14, .ireturn, 1)]
theorem vq_cX3_orderIsFromBack_0 : vl_ok cX3_orderIsFromBack vl_cX3_orderIsFromBack_0 = true := by decide +kernel
theorem dX3_orderIsFromBack_0 : decode cX3_orderIsFromBack 0 = .ok (.iload_n 0, 1) := vl_at vq_cX3_orderIsFromBack_0 (i := 0) rfl
theorem dX3_orderIsFromBack_1 : decode cX3_orderIsFromBack 1 = .ok (.iconst 2, 1) := vl_at vq_cX3_orderIsFromBack_0 (i := 1) rfl
theorem dX3_orderIsFromBack_2 : decode cX3_orderIsFromBack 2 = .ok (.idiv, 1) := vl_at vq_cX3_orderIsFromBack_0 (i := 2) rfl
theorem dX3_orderIsFromBack_3 : decode cX3_orderIsFromBack 3 = .ok (.iconst 2, 1) := vl_at vq_cX3_orderIsFromBack_0 (i := 3) rfl
theorem dX3_orderIsFromBack_4 : decode cX3_orderIsFromBack 4 = .ok (.irem, 1) := vl_at vq_cX3_orderIsFromBack_0 (i := 4) rfl
theorem dX3_orderIsFromBack_5 : decode cX3_orderIsFromBack 5 = .ok (.iconst 1, 1) := vl_at vq_cX3_orderIsFromBack_0 (i := 5) rfl
theorem dX3_orderIsFromBack_6 : decode cX3_orderIsFromBack 6 = .ok (.if_icmp .ne 7, 3) := vl_at vq_cX3_orderIsFromBack_0 (i := 6) rfl
theorem dX3_orderIsFromBack_9 : decode cX3_orderIsFromBack 9 = .ok (.iconst 1, 1) := vl_at vq_cX3_orderIsFromBack_0 (i := 7) rfl
theorem dX3_orderIsFromBack_10 : decode cX3_orderIsFromBack 10 = .ok (.goto 4, 3) := vl_at vq_cX3_orderIsFromBack_0 (i := 8) rfl
theorem dX3_orderIsFromBack_13 : decode cX3_orderIsFromBack 13 = .ok (.iconst 0, 1) := vl_at vq_cX3_orderIsFromBack_0 (i := 9) rfl
theorem dX3_orderIsFromBack_14 : decode cX3_orderIsFromBack 14 = .ok (.ireturn, 1) := vl_at vq_cX3_orderIsFromBack_0 (i := 10) rfl
noncomputable def vl_cX3_orderIsToBack_0 : List (Nat × Instr × Nat) := [(0, .iload_n 0, 1), (1, .iconst 2, 1), (2, .irem, 1), (3, .iconst 1, 1), (4, .if_icmp .ne 7, 3), (7, .iconst 1, 1), (8, .goto 4, 3), (11, .iconst 0, 1), (12, .ireturn, 1)]
theorem vq_cX3_orderIsToBack_0 : vl_ok cX3_orderIsToBack vl_cX3_orderIsToBack_0 = true := by decide +kernel
theorem dX3_orderIsToBack_0 : decode cX3_orderIsToBack 0 = .ok (.iload_n 0, 1) := vl_at vq_cX3_orderIsToBack_0 (i := 0) rfl
theorem dX3_orderIsToBack_1 : decode cX3_orderIsToBack 1 = .ok (.iconst 2, 1) := vl_at vq_cX3_orderIsToBack_0 (i := 1) rfl
theorem dX3_orderIsToBack_2 : decode cX3_orderIsToBack 2 = .ok (.irem, 1) := vl_at vq_cX3_orderIsToBack_0 (i := 2) rfl
theorem dX3_orderIsToBack_3 : decode cX3_orderIsToBack 3 = .ok (.iconst 1, 1) := vl_at vq_cX3_orderIsToBack_0 (i := 3) rfl
theorem dX3_orderIsToBack_4 : decode cX3_orderIsToBack 4 = .ok (.if_icmp .ne 7, 3) := vl_at vq_cX3_orderIsToBack_0 (i := 4) rfl
theorem dX3_orderIsToBack_7 : decode cX3_orderIsToBack 7 = .ok (.iconst 1, 1) := vl_at vq_cX3_orderIsToBack_0 (i := 5) rfl
theorem dX3_orderIsToBack_8 : decode cX3_orderIsToBack 8 = .ok (.goto 4, 3) := vl_at vq_cX3_orderIsToBack_0 (i := 6) rfl
theorem dX3_orderIsToBack_11 : decode cX3_orderIsToBack 11 = .ok (.iconst 0, 1) := vl_at vq_cX3_orderIsToBack_0 (i := 7) rfl
theorem dX3_orderIsToBack_12 : decode cX3_orderIsToBack 12 = .ok (.ireturn, 1) := vl_at vq_cX3_orderIsToBack_0 (i := 8) rfl
noncomputable def vl_cX3_canMove_0 : List (Nat × Instr × Nat) := [(0, .iload_n 1, 1), (1, .invokestatic 377, 3), (4, .istore_n 2, 1), (5, .iconst 1, 1), (6, .iload_n 2, 1), (7, .isub, 1), (8, .istore_n 3, 1), (9, .aload_n 0, 1), (10, .iload_n 2, 1), (11, .invokevirtual 61, 3), (14, .invokevirtual 96, 3), (17, .ifCond .ne 14, 3), (20, .aload_n 0, 1), (21, .iload_n 3, 1), (22, .invokevirtual 61, 3), (25, .invokevirtual 248, 3), (28, .ifCond .eq 5, 3), (31, .iconst 0, 1), (32, .ireturn, 1), (33, .iload_n 3, 1), (34, .iconst 1, 1), (35, .if_icmp .eq 18, 3), (38, .aload_n 0, 1), (39, .iload_n 2, 1), (40, .iload_n 1, 1), (41, .invokestatic 380, 3), (44, .invokevirtual 72, 3), (47, .invokestatic 147, 3), (50, .ifCond .eq 7, 3), (53, .iconst 1, 1), (54, .goto 4, 3), (57, .iconst 0, 1), (58, .ireturn, 1)]
theorem vq_cX3_canMove_0 : vl_ok cX3_canMove vl_cX3_canMove_0 = true := by decide +kernel
theorem dX3_canMove_0 : decode cX3_canMove 0 = .ok (.iload_n 1, 1) := vl_at vq_cX3_canMove_0 (i := 0) rfl
theorem dX3_canMove_1 : decode cX3_canMove 1 = .ok (.invokestatic 377, 3) := vl_at vq_cX3_canMove_0 (i := 1) rfl
theorem dX3_canMove_4 : decode cX3_canMove 4 = .ok (.istore_n 2, 1) := vl_at vq_cX3_canMove_0 (i := 2) rfl
theorem dX3_canMove_5 : decode cX3_canMove 5 = .ok (.iconst 1, 1) := vl_at vq_cX3_canMove_0 (i := 3) rfl
theorem dX3_canMove_6 : decode cX3_canMove 6 = .ok (.iload_n 2, 1) := vl_at vq_cX3_canMove_0 (i := 4) rfl
theorem dX3_canMove_7 : decode cX3_canMove 7 = .ok (.isub, 1) := vl_at vq_cX3_canMove_0 (i := 5) rfl
theorem dX3_canMove_8 : decode cX3_canMove 8 = .ok (.istore_n 3, 1) := vl_at vq_cX3_canMove_0 (i := 6) rfl
theorem dX3_canMove_9 : decode cX3_canMove 9 = .ok (.aload_n 0, 1) := vl_at vq_cX3_canMove_0 (i := 7) rfl
theorem dX3_canMove_10 : decode cX3_canMove 10 = .ok (.iload_n 2, 1) := vl_at vq_cX3_canMove_0 (i := 8) rfl
theorem dX3_canMove_11 : decode cX3_canMove 11 = .ok (.invokevirtual 61, 3) := vl_at vq_cX3_canMove_0 (i := 9) rfl
theorem dX3_canMove_14 : decode cX3_canMove 14 = .ok (.invokevirtual 96, 3) := vl_at vq_cX3_canMove_0 (i := 10) rfl
theorem dX3_canMove_17 : decode cX3_canMove 17 = .ok (.ifCond .ne 14, 3) := vl_at vq_cX3_canMove_0 (i := 11) rfl
theorem dX3_canMove_20 : decode cX3_canMove 20 = .ok (.aload_n 0, 1) := vl_at vq_cX3_canMove_0 (i := 12) rfl
theorem dX3_canMove_21 : decode cX3_canMove 21 = .ok (.iload_n 3, 1) := vl_at vq_cX3_canMove_0 (i := 13) rfl
theorem dX3_canMove_22 : decode cX3_canMove 22 = .ok (.invokevirtual 61, 3) := vl_at vq_cX3_canMove_0 (i := 14) rfl
theorem dX3_canMove_25 : decode cX3_canMove 25 = .ok (.invokevirtual 248, 3) := vl_at vq_cX3_canMove_0 (i := 15) rfl
theorem dX3_canMove_28 : decode cX3_canMove 28 = .ok (.ifCond .eq 5, 3) := vl_at vq_cX3_canMove_0 (i := 16) rfl
theorem dX3_canMove_31 : decode cX3_canMove 31 = .ok (.iconst 0, 1) := vl_at vq_cX3_canMove_0 (i := 17) rfl
theorem dX3_canMove_32 : decode cX3_canMove 32 = .ok (.ireturn, 1) := vl_at vq_cX3_canMove_0 (i := 18) rfl
theorem dX3_canMove_33 : decode cX3_canMove 33 = .ok (.iload_n 3, 1) := vl_at vq_cX3_canMove_0 (i := 19) rfl
theorem dX3_canMove_34 : decode cX3_canMove 34 = .ok (.iconst 1, 1) := vl_at vq_cX3_canMove_0 (i := 20) rfl
theorem dX3_canMove_35 : decode cX3_canMove 35 = .ok (.if_icmp .eq 18, 3) := vl_at vq_cX3_canMove_0 (i := 21) rfl
theorem dX3_canMove_38 : decode cX3_canMove 38 = .ok (.aload_n 0, 1) := vl_at vq_cX3_canMove_0 (i := 22) rfl
theorem dX3_canMove_39 : decode cX3_canMove 39 = .ok (.iload_n 2, 1) := vl_at vq_cX3_canMove_0 (i := 23) rfl
theorem dX3_canMove_40 : decode cX3_canMove 40 = .ok (.iload_n 1, 1) := vl_at vq_cX3_canMove_0 (i := 24) rfl
theorem dX3_canMove_41 : decode cX3_canMove 41 = .ok (.invokestatic 380, 3) := vl_at vq_cX3_canMove_0 (i := 25) rfl
theorem dX3_canMove_44 : decode cX3_canMove 44 = .ok (.invokevirtual 72, 3) := vl_at vq_cX3_canMove_0 (i := 26) rfl
theorem dX3_canMove_47 : decode cX3_canMove 47 = .ok (.invokestatic 147, 3) := vl_at vq_cX3_canMove_0 (i := 27) rfl
theorem dX3_canMove_50 : decode cX3_canMove 50 = .ok (.ifCond .eq 7, 3) := vl_at vq_cX3_canMove_0 (i := 28) rfl
theorem dX3_canMove_53 : decode cX3_canMove 53 = .ok (.iconst 1, 1) := vl_at vq_cX3_canMove_0 (i := 29) rfl
theorem dX3_canMove_54 : decode cX3_canMove 54 = .ok (.goto 4, 3) := vl_at vq_cX3_canMove_0 (i := 30) rfl
theorem dX3_canMove_57 : decode cX3_canMove 57 = .ok (.iconst 0, 1) := vl_at vq_cX3_canMove_0 (i := 31) rfl
theorem dX3_canMove_58 : decode cX3_canMove 58 = .ok (.ireturn, 1) := vl_at vq_cX3_canMove_0 (i := 32) rfl
noncomputable def vl_cX3_move_0 : List (Nat × Instr × Nat) := [(0, .iload_n 1, 1), (1, .invokestatic 377, 3), (4, .istore_n 2, 1), (5, .aload_n 0, 1), (6, .iload_n 2, 1), (7, .iload_n 1, 1), (8, .invokestatic 380, 3), (11, .invokevirtual 106, 3), (14, .istore_n 3, 1), (15, .aload_n 0, 1), (16, .iconst 1, 1), (17, .iload_n 2, 1), (18, .isub, 1), (19, .iload_n 1, 1), (20, .invokestatic 383, 3), (23, .iload_n 3, 1), (24, .invokevirtual 88, 3), (27, .return_, 1)]
theorem vq_cX3_move_0 : vl_ok cX3_move vl_cX3_move_0 = true := by decide +kernel
theorem dX3_move_0 : decode cX3_move 0 = .ok (.iload_n 1, 1) := vl_at vq_cX3_move_0 (i := 0) rfl
theorem dX3_move_1 : decode cX3_move 1 = .ok (.invokestatic 377, 3) := vl_at vq_cX3_move_0 (i := 1) rfl
theorem dX3_move_4 : decode cX3_move 4 = .ok (.istore_n 2, 1) := vl_at vq_cX3_move_0 (i := 2) rfl
theorem dX3_move_5 : decode cX3_move 5 = .ok (.aload_n 0, 1) := vl_at vq_cX3_move_0 (i := 3) rfl
theorem dX3_move_6 : decode cX3_move 6 = .ok (.iload_n 2, 1) := vl_at vq_cX3_move_0 (i := 4) rfl
theorem dX3_move_7 : decode cX3_move 7 = .ok (.iload_n 1, 1) := vl_at vq_cX3_move_0 (i := 5) rfl
theorem dX3_move_8 : decode cX3_move 8 = .ok (.invokestatic 380, 3) := vl_at vq_cX3_move_0 (i := 6) rfl
theorem dX3_move_11 : decode cX3_move 11 = .ok (.invokevirtual 106, 3) := vl_at vq_cX3_move_0 (i := 7) rfl
theorem dX3_move_14 : decode cX3_move 14 = .ok (.istore_n 3, 1) := vl_at vq_cX3_move_0 (i := 8) rfl
theorem dX3_move_15 : decode cX3_move 15 = .ok (.aload_n 0, 1) := vl_at vq_cX3_move_0 (i := 9) rfl
theorem dX3_move_16 : decode cX3_move 16 = .ok (.iconst 1, 1) := vl_at vq_cX3_move_0 (i := 10) rfl
theorem dX3_move_17 : decode cX3_move 17 = .ok (.iload_n 2, 1) := vl_at vq_cX3_move_0 (i := 11) rfl
theorem dX3_move_18 : decode cX3_move 18 = .ok (.isub, 1) := vl_at vq_cX3_move_0 (i := 12) rfl
theorem dX3_move_19 : decode cX3_move 19 = .ok (.iload_n 1, 1) := vl_at vq_cX3_move_0 (i := 13) rfl
theorem dX3_move_20 : decode cX3_move 20 = .ok (.invokestatic 383, 3) := vl_at vq_cX3_move_0 (i := 14) rfl
theorem dX3_move_23 : decode cX3_move 23 = .ok (.iload_n 3, 1) := vl_at vq_cX3_move_0 (i := 15) rfl
theorem dX3_move_24 : decode cX3_move 24 = .ok (.invokevirtual 88, 3) := vl_at vq_cX3_move_0 (i := 16) rfl
theorem dX3_move_27 : decode cX3_move 27 = .ok (.return_, 1) := vl_at vq_cX3_move_0 (i := 17) rfl
noncomputable def vl_cX3_codeAtEnd_0 : List (Nat × Instr × Nat) := [(0, .aload_n 0, 1), (1, .iload_n 1, 1), (2, .invokevirtual 61, 3), (5, .astore_n 3, 1), (6, .aload_n 3, 1), (7, .aload_n 3, 1), (8, .iload_n 2, 1), (9, .invokevirtual 109, 3), (12, .invokevirtual 144, 3), (15, .ireturn, 1)]
theorem vq_cX3_codeAtEnd_0 : vl_ok cX3_codeAtEnd vl_cX3_codeAtEnd_0 = true := by decide +kernel
theorem dX3_codeAtEnd_0 : decode cX3_codeAtEnd 0 = .ok (.aload_n 0, 1) := vl_at vq_cX3_codeAtEnd_0 (i := 0) rfl
theorem dX3_codeAtEnd_1 : decode cX3_codeAtEnd 1 = .ok (.iload_n 1, 1) := vl_at vq_cX3_codeAtEnd_0 (i := 1) rfl
theorem dX3_codeAtEnd_2 : decode cX3_codeAtEnd 2 = .ok (.invokevirtual 61, 3) := vl_at vq_cX3_codeAtEnd_0 (i := 2) rfl
theorem dX3_codeAtEnd_5 : decode cX3_codeAtEnd 5 = .ok (.astore_n 3, 1) := vl_at vq_cX3_codeAtEnd_0 (i := 3) rfl
theorem dX3_codeAtEnd_6 : decode cX3_codeAtEnd 6 = .ok (.aload_n 3, 1) := vl_at vq_cX3_codeAtEnd_0 (i := 4) rfl
theorem dX3_codeAtEnd_7 : decode cX3_codeAtEnd 7 = .ok (.aload_n 3, 1) := vl_at vq_cX3_codeAtEnd_0 (i := 5) rfl
theorem dX3_codeAtEnd_8 : decode cX3_codeAtEnd 8 = .ok (.iload_n 2, 1) := vl_at vq_cX3_codeAtEnd_0 (i := 6) rfl
theorem dX3_codeAtEnd_9 : decode cX3_codeAtEnd 9 = .ok (.invokevirtual 109, 3) := vl_at vq_cX3_codeAtEnd_0 (i := 7) rfl
theorem dX3_codeAtEnd_12 : decode cX3_codeAtEnd 12 = .ok (.invokevirtual 144, 3) := vl_at vq_cX3_codeAtEnd_0 (i := 8) rfl
theorem dX3_codeAtEnd_15 : decode cX3_codeAtEnd 15 = .ok (.ireturn, 1) := vl_at vq_cX3_codeAtEnd_0 (i := 9) rfl
noncomputable def vl_cX3_atEnd_0 : List (Nat × Instr × Nat) := [(0, .aload_n 0, 1), (1, .iload_n 1, 1), (2, .invokevirtual 61, 3), (5, .invokevirtual 96, 3), (8, .ifCond .eq 24, 3), (11, .iload_n 2, 1), (12, .ifCond .eq 13, 3), (15, .iload_n 2, 1), (16, .iconst 1, 1), (17, .if_icmp .eq 8, 3), (20, .iload_n 2, 1), (21, .iconst 4, 1), (22, .if_icmp .ne 8, 3), (25, .bipush (-9), 2), (27, .goto 4, 3), (30, .iconst 0, 1), (31, .ireturn, 1), (32, .aload_n 0, 1), (33, .iload_n 1, 1), (34, .iload_n 2, 1), (35, .iconst 1, 1), (36, .if_icmp .eq 8, 3), (39, .iload_n 2, 1), (40, .iconst 3, 1), (41, .if_icmp .ne 7, 3), (44, .iconst 1, 1), (45, .goto 4, 3), (48, .iconst 0, 1), (49, .invokevirtual 72, 3), (52, .ireturn, 1)]
theorem vq_cX3_atEnd_0 : vl_ok cX3_atEnd vl_cX3_atEnd_0 = true := by decide +kernel
theorem dX3_atEnd_0 : decode cX3_atEnd 0 = .ok (.aload_n 0, 1) := vl_at vq_cX3_atEnd_0 (i := 0) rfl
theorem dX3_atEnd_1 : decode cX3_atEnd 1 = .ok (.iload_n 1, 1) := vl_at vq_cX3_atEnd_0 (i := 1) rfl
theorem dX3_atEnd_2 : decode cX3_atEnd 2 = .ok (.invokevirtual 61, 3) := vl_at vq_cX3_atEnd_0 (i := 2) rfl
theorem dX3_atEnd_5 : decode cX3_atEnd 5 = .ok (.invokevirtual 96, 3) := vl_at vq_cX3_atEnd_0 (i := 3) rfl
theorem dX3_atEnd_8 : decode cX3_atEnd 8 = .ok (.ifCond .eq 24, 3) := vl_at vq_cX3_atEnd_0 (i := 4) rfl
theorem dX3_atEnd_11 : decode cX3_atEnd 11 = .ok (.iload_n 2, 1) := vl_at vq_cX3_atEnd_0 (i := 5) rfl
theorem dX3_atEnd_12 : decode cX3_atEnd 12 = .ok (.ifCond .eq 13, 3) := vl_at vq_cX3_atEnd_0 (i := 6) rfl
theorem dX3_atEnd_15 : decode cX3_atEnd 15 = .ok (.iload_n 2, 1) := vl_at vq_cX3_atEnd_0 (i := 7) rfl
theorem dX3_atEnd_16 : decode cX3_atEnd 16 = .ok (.iconst 1, 1) := vl_at vq_cX3_atEnd_0 (i := 8) rfl
theorem dX3_atEnd_17 : decode cX3_atEnd 17 = .ok (.if_icmp .eq 8, 3) := vl_at vq_cX3_atEnd_0 (i := 9) rfl
theorem dX3_atEnd_20 : decode cX3_atEnd 20 = .ok (.iload_n 2, 1) := vl_at vq_cX3_atEnd_0 (i := 10) rfl
theorem dX3_atEnd_21 : decode cX3_atEnd 21 = .ok (.iconst 4, 1) := vl_at vq_cX3_atEnd_0 (i := 11) rfl
theorem dX3_atEnd_22 : decode cX3_atEnd 22 = .ok (.if_icmp .ne 8, 3) := vl_at vq_cX3_atEnd_0 (i := 12) rfl
theorem dX3_atEnd_25 : decode cX3_atEnd 25 = .ok (.bipush (-9), 2) := vl_at vq_cX3_atEnd_0 (i := 13) rfl
theorem dX3_atEnd_27 : decode cX3_atEnd 27 = .ok (.goto 4, 3) := vl_at vq_cX3_atEnd_0 (i := 14) rfl
theorem dX3_atEnd_30 : decode cX3_atEnd 30 = .ok (.iconst 0, 1) := vl_at vq_cX3_atEnd_0 (i := 15) rfl
theorem dX3_atEnd_31 : decode cX3_atEnd 31 = .ok (.ireturn, 1) := vl_at vq_cX3_atEnd_0 (i := 16) rfl
theorem dX3_atEnd_32 : decode cX3_atEnd 32 = .ok (.aload_n 0, 1) := vl_at vq_cX3_atEnd_0 (i := 17) rfl
theorem dX3_atEnd_33 : decode cX3_atEnd 33 = .ok (.iload_n 1, 1) := vl_at vq_cX3_atEnd_0 (i := 18) rfl
theorem dX3_atEnd_34 : decode cX3_atEnd 34 = .ok (.iload_n 2, 1) := vl_at vq_cX3_atEnd_0 (i := 19) rfl
theorem dX3_atEnd_35 : decode cX3_atEnd 35 = .ok (.iconst 1, 1) := vl_at vq_cX3_atEnd_0 (i := 20) rfl
theorem dX3_atEnd_36 : decode cX3_atEnd 36 = .ok (.if_icmp .eq 8, 3) := vl_at vq_cX3_atEnd_0 (i := 21) rfl
theorem dX3_atEnd_39 : decode cX3_atEnd 39 = .ok (.iload_n 2, 1) := vl_at vq_cX3_atEnd_0 (i := 22) rfl
theorem dX3_atEnd_40 : decode cX3_atEnd 40 = .ok (.iconst 3, 1) := vl_at vq_cX3_atEnd_0 (i := 23) rfl
theorem dX3_atEnd_41 : decode cX3_atEnd 41 = .ok (.if_icmp .ne 7, 3) := vl_at vq_cX3_atEnd_0 (i := 24) rfl
theorem dX3_atEnd_44 : decode cX3_atEnd 44 = .ok (.iconst 1, 1) := vl_at vq_cX3_atEnd_0 (i := 25) rfl
theorem dX3_atEnd_45 : decode cX3_atEnd 45 = .ok (.goto 4, 3) := vl_at vq_cX3_atEnd_0 (i := 26) rfl
theorem dX3_atEnd_48 : decode cX3_atEnd 48 = .ok (.iconst 0, 1) := vl_at vq_cX3_atEnd_0 (i := 27) rfl
theorem dX3_atEnd_49 : decode cX3_atEnd 49 = .ok (.invokevirtual 72, 3) := vl_at vq_cX3_atEnd_0 (i := 28) rfl
theorem dX3_atEnd_52 : decode cX3_atEnd 52 = .ok (.ireturn, 1) := vl_at vq_cX3_atEnd_0 (i := 29) rfl
noncomputable def vl_cX3_factOfTrack_0 : List (Nat × Instr × Nat) := [(0, .aload_n 0, 1), (1, .iload_n 1, 1), (2, .invokevirtual 61, 3), (5, .astore_n 3, 1), (6, .iload_n 2, 1), (7, .tableswitch 43 0 2 #[25, 30, 38], 25), (32, .aload_n 3, 1), (33, .invokevirtual 65, 3), (36, .ireturn, 1), (37, .aload_n 3, 1), (38, .invokevirtual 96, 3), (41, .invokestatic 331, 3), (44, .ireturn, 1), (45, .aload_n 3, 1), (46, .invokestatic 386, 3), (49, .ireturn, 1), (50, .aload_n 3, 1), (51, .invokestatic 390, 3), (54, .ireturn, 1)]
theorem vq_cX3_factOfTrack_0 : vl_ok cX3_factOfTrack vl_cX3_factOfTrack_0 = true := by decide +kernel
theorem dX3_factOfTrack_0 : decode cX3_factOfTrack 0 = .ok (.aload_n 0, 1) := vl_at vq_cX3_factOfTrack_0 (i := 0) rfl
theorem dX3_factOfTrack_1 : decode cX3_factOfTrack 1 = .ok (.iload_n 1, 1) := vl_at vq_cX3_factOfTrack_0 (i := 1) rfl
theorem dX3_factOfTrack_2 : decode cX3_factOfTrack 2 = .ok (.invokevirtual 61, 3) := vl_at vq_cX3_factOfTrack_0 (i := 2) rfl
theorem dX3_factOfTrack_5 : decode cX3_factOfTrack 5 = .ok (.astore_n 3, 1) := vl_at vq_cX3_factOfTrack_0 (i := 3) rfl
theorem dX3_factOfTrack_6 : decode cX3_factOfTrack 6 = .ok (.iload_n 2, 1) := vl_at vq_cX3_factOfTrack_0 (i := 4) rfl
theorem dX3_factOfTrack_7 : decode cX3_factOfTrack 7 = .ok (.tableswitch 43 0 2 #[25, 30, 38], 25) := vl_at vq_cX3_factOfTrack_0 (i := 5) rfl
theorem dX3_factOfTrack_32 : decode cX3_factOfTrack 32 = .ok (.aload_n 3, 1) := vl_at vq_cX3_factOfTrack_0 (i := 6) rfl
theorem dX3_factOfTrack_33 : decode cX3_factOfTrack 33 = .ok (.invokevirtual 65, 3) := vl_at vq_cX3_factOfTrack_0 (i := 7) rfl
theorem dX3_factOfTrack_36 : decode cX3_factOfTrack 36 = .ok (.ireturn, 1) := vl_at vq_cX3_factOfTrack_0 (i := 8) rfl
theorem dX3_factOfTrack_37 : decode cX3_factOfTrack 37 = .ok (.aload_n 3, 1) := vl_at vq_cX3_factOfTrack_0 (i := 9) rfl
theorem dX3_factOfTrack_38 : decode cX3_factOfTrack 38 = .ok (.invokevirtual 96, 3) := vl_at vq_cX3_factOfTrack_0 (i := 10) rfl
theorem dX3_factOfTrack_41 : decode cX3_factOfTrack 41 = .ok (.invokestatic 331, 3) := vl_at vq_cX3_factOfTrack_0 (i := 11) rfl
theorem dX3_factOfTrack_44 : decode cX3_factOfTrack 44 = .ok (.ireturn, 1) := vl_at vq_cX3_factOfTrack_0 (i := 12) rfl
theorem dX3_factOfTrack_45 : decode cX3_factOfTrack 45 = .ok (.aload_n 3, 1) := vl_at vq_cX3_factOfTrack_0 (i := 13) rfl
theorem dX3_factOfTrack_46 : decode cX3_factOfTrack 46 = .ok (.invokestatic 386, 3) := vl_at vq_cX3_factOfTrack_0 (i := 14) rfl
theorem dX3_factOfTrack_49 : decode cX3_factOfTrack 49 = .ok (.ireturn, 1) := vl_at vq_cX3_factOfTrack_0 (i := 15) rfl
theorem dX3_factOfTrack_50 : decode cX3_factOfTrack 50 = .ok (.aload_n 3, 1) := vl_at vq_cX3_factOfTrack_0 (i := 16) rfl
theorem dX3_factOfTrack_51 : decode cX3_factOfTrack 51 = .ok (.invokestatic 390, 3) := vl_at vq_cX3_factOfTrack_0 (i := 17) rfl
theorem dX3_factOfTrack_54 : decode cX3_factOfTrack 54 = .ok (.ireturn, 1) := vl_at vq_cX3_factOfTrack_0 (i := 18) rfl
noncomputable def vl_cX3_sumOfLoads_0 : List (Nat × Instr × Nat) := [(0, .iconst 0, 1), (1, .istore_n 1, 1), (2, .iconst 0, 1), (3, .istore_n 2, 1), (4, .iload_n 2, 1), (5, .aload_n 0, 1), (6, .invokevirtual 65, 3), (9, .if_icmp .ge 20, 3), (12, .iload_n 1, 1), (13, .aload_n 0, 1), (14, .iload_n 2, 1), (15, .invokevirtual 144, 3), (18, .invokestatic 153, 3), (21, .iadd, 1), (22, .istore_n 1, 1), (23, .iinc 2 1, 3), (26, .goto (-22), 3), (29, .iload_n 1, 1), (30, .ireturn, 1)]
theorem vq_cX3_sumOfLoads_0 : vl_ok cX3_sumOfLoads vl_cX3_sumOfLoads_0 = true := by decide +kernel
theorem dX3_sumOfLoads_0 : decode cX3_sumOfLoads 0 = .ok (.iconst 0, 1) := vl_at vq_cX3_sumOfLoads_0 (i := 0) rfl
theorem dX3_sumOfLoads_1 : decode cX3_sumOfLoads 1 = .ok (.istore_n 1, 1) := vl_at vq_cX3_sumOfLoads_0 (i := 1) rfl
theorem dX3_sumOfLoads_2 : decode cX3_sumOfLoads 2 = .ok (.iconst 0, 1) := vl_at vq_cX3_sumOfLoads_0 (i := 2) rfl
theorem dX3_sumOfLoads_3 : decode cX3_sumOfLoads 3 = .ok (.istore_n 2, 1) := vl_at vq_cX3_sumOfLoads_0 (i := 3) rfl
theorem dX3_sumOfLoads_4 : decode cX3_sumOfLoads 4 = .ok (.iload_n 2, 1) := vl_at vq_cX3_sumOfLoads_0 (i := 4) rfl
theorem dX3_sumOfLoads_5 : decode cX3_sumOfLoads 5 = .ok (.aload_n 0, 1) := vl_at vq_cX3_sumOfLoads_0 (i := 5) rfl
theorem dX3_sumOfLoads_6 : decode cX3_sumOfLoads 6 = .ok (.invokevirtual 65, 3) := vl_at vq_cX3_sumOfLoads_0 (i := 6) rfl
theorem dX3_sumOfLoads_9 : decode cX3_sumOfLoads 9 = .ok (.if_icmp .ge 20, 3) := vl_at vq_cX3_sumOfLoads_0 (i := 7) rfl
theorem dX3_sumOfLoads_12 : decode cX3_sumOfLoads 12 = .ok (.iload_n 1, 1) := vl_at vq_cX3_sumOfLoads_0 (i := 8) rfl
theorem dX3_sumOfLoads_13 : decode cX3_sumOfLoads 13 = .ok (.aload_n 0, 1) := vl_at vq_cX3_sumOfLoads_0 (i := 9) rfl
theorem dX3_sumOfLoads_14 : decode cX3_sumOfLoads 14 = .ok (.iload_n 2, 1) := vl_at vq_cX3_sumOfLoads_0 (i := 10) rfl
theorem dX3_sumOfLoads_15 : decode cX3_sumOfLoads 15 = .ok (.invokevirtual 144, 3) := vl_at vq_cX3_sumOfLoads_0 (i := 11) rfl
theorem dX3_sumOfLoads_18 : decode cX3_sumOfLoads 18 = .ok (.invokestatic 153, 3) := vl_at vq_cX3_sumOfLoads_0 (i := 12) rfl
theorem dX3_sumOfLoads_21 : decode cX3_sumOfLoads 21 = .ok (.iadd, 1) := vl_at vq_cX3_sumOfLoads_0 (i := 13) rfl
theorem dX3_sumOfLoads_22 : decode cX3_sumOfLoads 22 = .ok (.istore_n 1, 1) := vl_at vq_cX3_sumOfLoads_0 (i := 14) rfl
theorem dX3_sumOfLoads_23 : decode cX3_sumOfLoads 23 = .ok (.iinc 2 1, 3) := vl_at vq_cX3_sumOfLoads_0 (i := 15) rfl
theorem dX3_sumOfLoads_26 : decode cX3_sumOfLoads 26 = .ok (.goto (-22), 3) := vl_at vq_cX3_sumOfLoads_0 (i := 16) rfl
theorem dX3_sumOfLoads_29 : decode cX3_sumOfLoads 29 = .ok (.iload_n 1, 1) := vl_at vq_cX3_sumOfLoads_0 (i := 17) rfl
theorem dX3_sumOfLoads_30 : decode cX3_sumOfLoads 30 = .ok (.ireturn, 1) := vl_at vq_cX3_sumOfLoads_0 (i := 18) rfl
noncomputable def vl_cX3_sealOf_0 : List (Nat × Instr × Nat) := [(0, .iconst 1, 1), (1, .istore_n 1, 1), (2, .iconst 0, 1), (3, .istore_n 2, 1), (4, .iload_n 2, 1), (5, .aload_n 0, 1), (6, .invokevirtual 65, 3), (9, .if_icmp .ge 23, 3), (12, .bipush 31, 2), (14, .iload_n 1, 1), (15, .imul, 1), (16, .aload_n 0, 1), (17, .iload_n 2, 1), (18, .invokevirtual 144, 3), (21, .invokestatic 147, 3), (24, .iadd, 1), (25, .istore_n 1, 1), (26, .iinc 2 1, 3), (29, .goto (-25), 3), (32, .iload_n 1, 1), (33, .ireturn, 1)]
theorem vq_cX3_sealOf_0 : vl_ok cX3_sealOf vl_cX3_sealOf_0 = true := by decide +kernel
theorem dX3_sealOf_0 : decode cX3_sealOf 0 = .ok (.iconst 1, 1) := vl_at vq_cX3_sealOf_0 (i := 0) rfl
theorem dX3_sealOf_1 : decode cX3_sealOf 1 = .ok (.istore_n 1, 1) := vl_at vq_cX3_sealOf_0 (i := 1) rfl
theorem dX3_sealOf_2 : decode cX3_sealOf 2 = .ok (.iconst 0, 1) := vl_at vq_cX3_sealOf_0 (i := 2) rfl
theorem dX3_sealOf_3 : decode cX3_sealOf 3 = .ok (.istore_n 2, 1) := vl_at vq_cX3_sealOf_0 (i := 3) rfl
theorem dX3_sealOf_4 : decode cX3_sealOf 4 = .ok (.iload_n 2, 1) := vl_at vq_cX3_sealOf_0 (i := 4) rfl
theorem dX3_sealOf_5 : decode cX3_sealOf 5 = .ok (.aload_n 0, 1) := vl_at vq_cX3_sealOf_0 (i := 5) rfl
theorem dX3_sealOf_6 : decode cX3_sealOf 6 = .ok (.invokevirtual 65, 3) := vl_at vq_cX3_sealOf_0 (i := 6) rfl
theorem dX3_sealOf_9 : decode cX3_sealOf 9 = .ok (.if_icmp .ge 23, 3) := vl_at vq_cX3_sealOf_0 (i := 7) rfl
theorem dX3_sealOf_12 : decode cX3_sealOf 12 = .ok (.bipush 31, 2) := vl_at vq_cX3_sealOf_0 (i := 8) rfl
theorem dX3_sealOf_14 : decode cX3_sealOf 14 = .ok (.iload_n 1, 1) := vl_at vq_cX3_sealOf_0 (i := 9) rfl
theorem dX3_sealOf_15 : decode cX3_sealOf 15 = .ok (.imul, 1) := vl_at vq_cX3_sealOf_0 (i := 10) rfl
theorem dX3_sealOf_16 : decode cX3_sealOf 16 = .ok (.aload_n 0, 1) := vl_at vq_cX3_sealOf_0 (i := 11) rfl
theorem dX3_sealOf_17 : decode cX3_sealOf 17 = .ok (.iload_n 2, 1) := vl_at vq_cX3_sealOf_0 (i := 12) rfl
theorem dX3_sealOf_18 : decode cX3_sealOf 18 = .ok (.invokevirtual 144, 3) := vl_at vq_cX3_sealOf_0 (i := 13) rfl
theorem dX3_sealOf_21 : decode cX3_sealOf 21 = .ok (.invokestatic 147, 3) := vl_at vq_cX3_sealOf_0 (i := 14) rfl
theorem dX3_sealOf_24 : decode cX3_sealOf 24 = .ok (.iadd, 1) := vl_at vq_cX3_sealOf_0 (i := 15) rfl
theorem dX3_sealOf_25 : decode cX3_sealOf 25 = .ok (.istore_n 1, 1) := vl_at vq_cX3_sealOf_0 (i := 16) rfl
theorem dX3_sealOf_26 : decode cX3_sealOf 26 = .ok (.iinc 2 1, 3) := vl_at vq_cX3_sealOf_0 (i := 17) rfl
theorem dX3_sealOf_29 : decode cX3_sealOf 29 = .ok (.goto (-25), 3) := vl_at vq_cX3_sealOf_0 (i := 18) rfl
theorem dX3_sealOf_32 : decode cX3_sealOf 32 = .ok (.iload_n 1, 1) := vl_at vq_cX3_sealOf_0 (i := 19) rfl
theorem dX3_sealOf_33 : decode cX3_sealOf 33 = .ok (.ireturn, 1) := vl_at vq_cX3_sealOf_0 (i := 20) rfl
noncomputable def vl_cX3_ofWalker_0 : List (Nat × Instr × Nat) := [(0, .aload_n 0, 1), (1, .iload_n 1, 1), (2, .invokevirtual 203, 3), (5, .astore_n 3, 1), (6, .iload_n 2, 1), (7, .tableswitch 69 0 3 #[29, 34, 39, 46], 29), (36, .aload_n 3, 1), (37, .getfield 359, 3), (40, .ireturn, 1), (41, .aload_n 3, 1), (42, .getfield 216, 3), (45, .ireturn, 1), (46, .aload_n 3, 1), (47, .getfield 216, 3), (50, .iconst 1, 1), (51, .isub, 1), (52, .ireturn, 1), (53, .aload_n 3, 1), (54, .getfield 216, 3), (57, .aload_n 0, 1), (58, .getfield 18, 3), (61, .invokevirtual 65, 3), (64, .if_icmp .ge 7, 3), (67, .iconst 1, 1), (68, .goto 4, 3), (71, .iconst 0, 1), (72, .invokestatic 331, 3), (75, .ireturn, 1), (76, .aload_n 3, 1), (77, .getfield 216, 3), (80, .ifCond .le 7, 3), (83, .iconst 1, 1), (84, .goto 4, 3), (87, .iconst 0, 1), (88, .invokestatic 331, 3), (91, .ireturn, 1)]
theorem vq_cX3_ofWalker_0 : vl_ok cX3_ofWalker vl_cX3_ofWalker_0 = true := by decide +kernel
theorem dX3_ofWalker_0 : decode cX3_ofWalker 0 = .ok (.aload_n 0, 1) := vl_at vq_cX3_ofWalker_0 (i := 0) rfl
theorem dX3_ofWalker_1 : decode cX3_ofWalker 1 = .ok (.iload_n 1, 1) := vl_at vq_cX3_ofWalker_0 (i := 1) rfl
theorem dX3_ofWalker_2 : decode cX3_ofWalker 2 = .ok (.invokevirtual 203, 3) := vl_at vq_cX3_ofWalker_0 (i := 2) rfl
theorem dX3_ofWalker_5 : decode cX3_ofWalker 5 = .ok (.astore_n 3, 1) := vl_at vq_cX3_ofWalker_0 (i := 3) rfl
theorem dX3_ofWalker_6 : decode cX3_ofWalker 6 = .ok (.iload_n 2, 1) := vl_at vq_cX3_ofWalker_0 (i := 4) rfl
theorem dX3_ofWalker_7 : decode cX3_ofWalker 7 = .ok (.tableswitch 69 0 3 #[29, 34, 39, 46], 29) := vl_at vq_cX3_ofWalker_0 (i := 5) rfl
theorem dX3_ofWalker_36 : decode cX3_ofWalker 36 = .ok (.aload_n 3, 1) := vl_at vq_cX3_ofWalker_0 (i := 6) rfl
theorem dX3_ofWalker_37 : decode cX3_ofWalker 37 = .ok (.getfield 359, 3) := vl_at vq_cX3_ofWalker_0 (i := 7) rfl
theorem dX3_ofWalker_40 : decode cX3_ofWalker 40 = .ok (.ireturn, 1) := vl_at vq_cX3_ofWalker_0 (i := 8) rfl
theorem dX3_ofWalker_41 : decode cX3_ofWalker 41 = .ok (.aload_n 3, 1) := vl_at vq_cX3_ofWalker_0 (i := 9) rfl
theorem dX3_ofWalker_42 : decode cX3_ofWalker 42 = .ok (.getfield 216, 3) := vl_at vq_cX3_ofWalker_0 (i := 10) rfl
theorem dX3_ofWalker_45 : decode cX3_ofWalker 45 = .ok (.ireturn, 1) := vl_at vq_cX3_ofWalker_0 (i := 11) rfl
theorem dX3_ofWalker_46 : decode cX3_ofWalker 46 = .ok (.aload_n 3, 1) := vl_at vq_cX3_ofWalker_0 (i := 12) rfl
theorem dX3_ofWalker_47 : decode cX3_ofWalker 47 = .ok (.getfield 216, 3) := vl_at vq_cX3_ofWalker_0 (i := 13) rfl
theorem dX3_ofWalker_50 : decode cX3_ofWalker 50 = .ok (.iconst 1, 1) := vl_at vq_cX3_ofWalker_0 (i := 14) rfl
theorem dX3_ofWalker_51 : decode cX3_ofWalker 51 = .ok (.isub, 1) := vl_at vq_cX3_ofWalker_0 (i := 15) rfl
theorem dX3_ofWalker_52 : decode cX3_ofWalker 52 = .ok (.ireturn, 1) := vl_at vq_cX3_ofWalker_0 (i := 16) rfl
theorem dX3_ofWalker_53 : decode cX3_ofWalker 53 = .ok (.aload_n 3, 1) := vl_at vq_cX3_ofWalker_0 (i := 17) rfl
theorem dX3_ofWalker_54 : decode cX3_ofWalker 54 = .ok (.getfield 216, 3) := vl_at vq_cX3_ofWalker_0 (i := 18) rfl
theorem dX3_ofWalker_57 : decode cX3_ofWalker 57 = .ok (.aload_n 0, 1) := vl_at vq_cX3_ofWalker_0 (i := 19) rfl
theorem dX3_ofWalker_58 : decode cX3_ofWalker 58 = .ok (.getfield 18, 3) := vl_at vq_cX3_ofWalker_0 (i := 20) rfl
theorem dX3_ofWalker_61 : decode cX3_ofWalker 61 = .ok (.invokevirtual 65, 3) := vl_at vq_cX3_ofWalker_0 (i := 21) rfl
theorem dX3_ofWalker_64 : decode cX3_ofWalker 64 = .ok (.if_icmp .ge 7, 3) := vl_at vq_cX3_ofWalker_0 (i := 22) rfl
theorem dX3_ofWalker_67 : decode cX3_ofWalker 67 = .ok (.iconst 1, 1) := vl_at vq_cX3_ofWalker_0 (i := 23) rfl
theorem dX3_ofWalker_68 : decode cX3_ofWalker 68 = .ok (.goto 4, 3) := vl_at vq_cX3_ofWalker_0 (i := 24) rfl
theorem dX3_ofWalker_71 : decode cX3_ofWalker 71 = .ok (.iconst 0, 1) := vl_at vq_cX3_ofWalker_0 (i := 25) rfl
theorem dX3_ofWalker_72 : decode cX3_ofWalker 72 = .ok (.invokestatic 331, 3) := vl_at vq_cX3_ofWalker_0 (i := 26) rfl
theorem dX3_ofWalker_75 : decode cX3_ofWalker 75 = .ok (.ireturn, 1) := vl_at vq_cX3_ofWalker_0 (i := 27) rfl
theorem dX3_ofWalker_76 : decode cX3_ofWalker 76 = .ok (.aload_n 3, 1) := vl_at vq_cX3_ofWalker_0 (i := 28) rfl
theorem dX3_ofWalker_77 : decode cX3_ofWalker 77 = .ok (.getfield 216, 3) := vl_at vq_cX3_ofWalker_0 (i := 29) rfl
theorem dX3_ofWalker_80 : decode cX3_ofWalker 80 = .ok (.ifCond .le 7, 3) := vl_at vq_cX3_ofWalker_0 (i := 30) rfl
theorem dX3_ofWalker_83 : decode cX3_ofWalker 83 = .ok (.iconst 1, 1) := vl_at vq_cX3_ofWalker_0 (i := 31) rfl
theorem dX3_ofWalker_84 : decode cX3_ofWalker 84 = .ok (.goto 4, 3) := vl_at vq_cX3_ofWalker_0 (i := 32) rfl
theorem dX3_ofWalker_87 : decode cX3_ofWalker 87 = .ok (.iconst 0, 1) := vl_at vq_cX3_ofWalker_0 (i := 33) rfl
theorem dX3_ofWalker_88 : decode cX3_ofWalker 88 = .ok (.invokestatic 331, 3) := vl_at vq_cX3_ofWalker_0 (i := 34) rfl
theorem dX3_ofWalker_91 : decode cX3_ofWalker 91 = .ok (.ireturn, 1) := vl_at vq_cX3_ofWalker_0 (i := 35) rfl
noncomputable def vl_cX3_factOfYard_0 : List (Nat × Instr × Nat) := [(0, .iload_n 1, 1), (1, .tableswitch 165 0 6 #[43, 51, 74, 104, 112, 142, 147], 43), (44, .aload_n 0, 1), (45, .getfield 24, 3), (48, .invokevirtual 65, 3), (51, .ireturn, 1), (52, .aload_n 0, 1), (53, .getfield 24, 3), (56, .invokevirtual 96, 3), (59, .ifCond .eq 7, 3), (62, .iconst (-1), 1), (63, .goto 11, 3), (66, .aload_n 0, 1), (67, .getfield 24, 3), (70, .iconst 0, 1), (71, .invokevirtual 144, 3), (74, .ireturn, 1), (75, .aload_n 0, 1), (76, .getfield 24, 3), (79, .invokevirtual 96, 3), (82, .ifCond .eq 7, 3), (85, .iconst (-1), 1), (86, .goto 18, 3), (89, .aload_n 0, 1), (90, .getfield 24, 3), (93, .aload_n 0, 1), (94, .getfield 24, 3), (97, .iconst 1, 1), (98, .invokevirtual 109, 3), (101, .invokevirtual 144, 3), (104, .ireturn, 1), (105, .aload_n 0, 1), (106, .getfield 21, 3), (109, .invokevirtual 65, 3), (112, .ireturn, 1), (113, .aload_n 0, 1), (114, .getfield 21, 3), (117, .invokevirtual 96, 3), (120, .ifCond .eq 7, 3), (123, .iconst (-1), 1)]
theorem vq_cX3_factOfYard_0 : vl_ok cX3_factOfYard vl_cX3_factOfYard_0 = true := by decide +kernel
theorem dX3_factOfYard_0 : decode cX3_factOfYard 0 = .ok (.iload_n 1, 1) := vl_at vq_cX3_factOfYard_0 (i := 0) rfl
theorem dX3_factOfYard_1 : decode cX3_factOfYard 1 = .ok (.tableswitch 165 0 6 #[43, 51, 74, 104, 112, 142, 147], 43) := vl_at vq_cX3_factOfYard_0 (i := 1) rfl
theorem dX3_factOfYard_44 : decode cX3_factOfYard 44 = .ok (.aload_n 0, 1) := vl_at vq_cX3_factOfYard_0 (i := 2) rfl
theorem dX3_factOfYard_45 : decode cX3_factOfYard 45 = .ok (.getfield 24, 3) := vl_at vq_cX3_factOfYard_0 (i := 3) rfl
theorem dX3_factOfYard_48 : decode cX3_factOfYard 48 = .ok (.invokevirtual 65, 3) := vl_at vq_cX3_factOfYard_0 (i := 4) rfl
theorem dX3_factOfYard_51 : decode cX3_factOfYard 51 = .ok (.ireturn, 1) := vl_at vq_cX3_factOfYard_0 (i := 5) rfl
theorem dX3_factOfYard_52 : decode cX3_factOfYard 52 = .ok (.aload_n 0, 1) := vl_at vq_cX3_factOfYard_0 (i := 6) rfl
theorem dX3_factOfYard_53 : decode cX3_factOfYard 53 = .ok (.getfield 24, 3) := vl_at vq_cX3_factOfYard_0 (i := 7) rfl
theorem dX3_factOfYard_56 : decode cX3_factOfYard 56 = .ok (.invokevirtual 96, 3) := vl_at vq_cX3_factOfYard_0 (i := 8) rfl
theorem dX3_factOfYard_59 : decode cX3_factOfYard 59 = .ok (.ifCond .eq 7, 3) := vl_at vq_cX3_factOfYard_0 (i := 9) rfl
theorem dX3_factOfYard_62 : decode cX3_factOfYard 62 = .ok (.iconst (-1), 1) := vl_at vq_cX3_factOfYard_0 (i := 10) rfl
theorem dX3_factOfYard_63 : decode cX3_factOfYard 63 = .ok (.goto 11, 3) := vl_at vq_cX3_factOfYard_0 (i := 11) rfl
theorem dX3_factOfYard_66 : decode cX3_factOfYard 66 = .ok (.aload_n 0, 1) := vl_at vq_cX3_factOfYard_0 (i := 12) rfl
theorem dX3_factOfYard_67 : decode cX3_factOfYard 67 = .ok (.getfield 24, 3) := vl_at vq_cX3_factOfYard_0 (i := 13) rfl
theorem dX3_factOfYard_70 : decode cX3_factOfYard 70 = .ok (.iconst 0, 1) := vl_at vq_cX3_factOfYard_0 (i := 14) rfl
theorem dX3_factOfYard_71 : decode cX3_factOfYard 71 = .ok (.invokevirtual 144, 3) := vl_at vq_cX3_factOfYard_0 (i := 15) rfl
theorem dX3_factOfYard_74 : decode cX3_factOfYard 74 = .ok (.ireturn, 1) := vl_at vq_cX3_factOfYard_0 (i := 16) rfl
theorem dX3_factOfYard_75 : decode cX3_factOfYard 75 = .ok (.aload_n 0, 1) := vl_at vq_cX3_factOfYard_0 (i := 17) rfl
theorem dX3_factOfYard_76 : decode cX3_factOfYard 76 = .ok (.getfield 24, 3) := vl_at vq_cX3_factOfYard_0 (i := 18) rfl
theorem dX3_factOfYard_79 : decode cX3_factOfYard 79 = .ok (.invokevirtual 96, 3) := vl_at vq_cX3_factOfYard_0 (i := 19) rfl
theorem dX3_factOfYard_82 : decode cX3_factOfYard 82 = .ok (.ifCond .eq 7, 3) := vl_at vq_cX3_factOfYard_0 (i := 20) rfl
theorem dX3_factOfYard_85 : decode cX3_factOfYard 85 = .ok (.iconst (-1), 1) := vl_at vq_cX3_factOfYard_0 (i := 21) rfl
theorem dX3_factOfYard_86 : decode cX3_factOfYard 86 = .ok (.goto 18, 3) := vl_at vq_cX3_factOfYard_0 (i := 22) rfl
theorem dX3_factOfYard_89 : decode cX3_factOfYard 89 = .ok (.aload_n 0, 1) := vl_at vq_cX3_factOfYard_0 (i := 23) rfl
theorem dX3_factOfYard_90 : decode cX3_factOfYard 90 = .ok (.getfield 24, 3) := vl_at vq_cX3_factOfYard_0 (i := 24) rfl
theorem dX3_factOfYard_93 : decode cX3_factOfYard 93 = .ok (.aload_n 0, 1) := vl_at vq_cX3_factOfYard_0 (i := 25) rfl
theorem dX3_factOfYard_94 : decode cX3_factOfYard 94 = .ok (.getfield 24, 3) := vl_at vq_cX3_factOfYard_0 (i := 26) rfl
theorem dX3_factOfYard_97 : decode cX3_factOfYard 97 = .ok (.iconst 1, 1) := vl_at vq_cX3_factOfYard_0 (i := 27) rfl
theorem dX3_factOfYard_98 : decode cX3_factOfYard 98 = .ok (.invokevirtual 109, 3) := vl_at vq_cX3_factOfYard_0 (i := 28) rfl
theorem dX3_factOfYard_101 : decode cX3_factOfYard 101 = .ok (.invokevirtual 144, 3) := vl_at vq_cX3_factOfYard_0 (i := 29) rfl
theorem dX3_factOfYard_104 : decode cX3_factOfYard 104 = .ok (.ireturn, 1) := vl_at vq_cX3_factOfYard_0 (i := 30) rfl
theorem dX3_factOfYard_105 : decode cX3_factOfYard 105 = .ok (.aload_n 0, 1) := vl_at vq_cX3_factOfYard_0 (i := 31) rfl
theorem dX3_factOfYard_106 : decode cX3_factOfYard 106 = .ok (.getfield 21, 3) := vl_at vq_cX3_factOfYard_0 (i := 32) rfl
theorem dX3_factOfYard_109 : decode cX3_factOfYard 109 = .ok (.invokevirtual 65, 3) := vl_at vq_cX3_factOfYard_0 (i := 33) rfl
theorem dX3_factOfYard_112 : decode cX3_factOfYard 112 = .ok (.ireturn, 1) := vl_at vq_cX3_factOfYard_0 (i := 34) rfl
theorem dX3_factOfYard_113 : decode cX3_factOfYard 113 = .ok (.aload_n 0, 1) := vl_at vq_cX3_factOfYard_0 (i := 35) rfl
theorem dX3_factOfYard_114 : decode cX3_factOfYard 114 = .ok (.getfield 21, 3) := vl_at vq_cX3_factOfYard_0 (i := 36) rfl
theorem dX3_factOfYard_117 : decode cX3_factOfYard 117 = .ok (.invokevirtual 96, 3) := vl_at vq_cX3_factOfYard_0 (i := 37) rfl
theorem dX3_factOfYard_120 : decode cX3_factOfYard 120 = .ok (.ifCond .eq 7, 3) := vl_at vq_cX3_factOfYard_0 (i := 38) rfl
theorem dX3_factOfYard_123 : decode cX3_factOfYard 123 = .ok (.iconst (-1), 1) := vl_at vq_cX3_factOfYard_0 (i := 39) rfl
noncomputable def vl_cX3_factOfYard_1 : List (Nat × Instr × Nat) := [(124, .goto 18, 3), (127, .aload_n 0, 1), (128, .getfield 21, 3), (131, .aload_n 0, 1), (132, .getfield 21, 3), (135, .iconst 1, 1), (136, .invokevirtual 109, 3), (139, .invokevirtual 144, 3), (142, .ireturn, 1), (143, .aload_n 0, 1), (144, .invokevirtual 393, 3), (147, .ireturn, 1), (148, .aload_n 0, 1), (149, .getfield 30, 3), (152, .aload_n 0, 1), (153, .getfield 14, 3), (156, .invokevirtual 65, 3), (159, .invokevirtual 173, 3), (162, .invokestatic 331, 3), (165, .ireturn, 1), (166, .aload_n 0, 1), (167, .getfield 44, 3), (170, .ireturn, 1)]
theorem vq_cX3_factOfYard_1 : vl_ok cX3_factOfYard vl_cX3_factOfYard_1 = true := by decide +kernel
theorem dX3_factOfYard_124 : decode cX3_factOfYard 124 = .ok (.goto 18, 3) := vl_at vq_cX3_factOfYard_1 (i := 0) rfl
theorem dX3_factOfYard_127 : decode cX3_factOfYard 127 = .ok (.aload_n 0, 1) := vl_at vq_cX3_factOfYard_1 (i := 1) rfl
theorem dX3_factOfYard_128 : decode cX3_factOfYard 128 = .ok (.getfield 21, 3) := vl_at vq_cX3_factOfYard_1 (i := 2) rfl
theorem dX3_factOfYard_131 : decode cX3_factOfYard 131 = .ok (.aload_n 0, 1) := vl_at vq_cX3_factOfYard_1 (i := 3) rfl
theorem dX3_factOfYard_132 : decode cX3_factOfYard 132 = .ok (.getfield 21, 3) := vl_at vq_cX3_factOfYard_1 (i := 4) rfl
theorem dX3_factOfYard_135 : decode cX3_factOfYard 135 = .ok (.iconst 1, 1) := vl_at vq_cX3_factOfYard_1 (i := 5) rfl
theorem dX3_factOfYard_136 : decode cX3_factOfYard 136 = .ok (.invokevirtual 109, 3) := vl_at vq_cX3_factOfYard_1 (i := 6) rfl
theorem dX3_factOfYard_139 : decode cX3_factOfYard 139 = .ok (.invokevirtual 144, 3) := vl_at vq_cX3_factOfYard_1 (i := 7) rfl
theorem dX3_factOfYard_142 : decode cX3_factOfYard 142 = .ok (.ireturn, 1) := vl_at vq_cX3_factOfYard_1 (i := 8) rfl
theorem dX3_factOfYard_143 : decode cX3_factOfYard 143 = .ok (.aload_n 0, 1) := vl_at vq_cX3_factOfYard_1 (i := 9) rfl
theorem dX3_factOfYard_144 : decode cX3_factOfYard 144 = .ok (.invokevirtual 393, 3) := vl_at vq_cX3_factOfYard_1 (i := 10) rfl
theorem dX3_factOfYard_147 : decode cX3_factOfYard 147 = .ok (.ireturn, 1) := vl_at vq_cX3_factOfYard_1 (i := 11) rfl
theorem dX3_factOfYard_148 : decode cX3_factOfYard 148 = .ok (.aload_n 0, 1) := vl_at vq_cX3_factOfYard_1 (i := 12) rfl
theorem dX3_factOfYard_149 : decode cX3_factOfYard 149 = .ok (.getfield 30, 3) := vl_at vq_cX3_factOfYard_1 (i := 13) rfl
theorem dX3_factOfYard_152 : decode cX3_factOfYard 152 = .ok (.aload_n 0, 1) := vl_at vq_cX3_factOfYard_1 (i := 14) rfl
theorem dX3_factOfYard_153 : decode cX3_factOfYard 153 = .ok (.getfield 14, 3) := vl_at vq_cX3_factOfYard_1 (i := 15) rfl
theorem dX3_factOfYard_156 : decode cX3_factOfYard 156 = .ok (.invokevirtual 65, 3) := vl_at vq_cX3_factOfYard_1 (i := 16) rfl
theorem dX3_factOfYard_159 : decode cX3_factOfYard 159 = .ok (.invokevirtual 173, 3) := vl_at vq_cX3_factOfYard_1 (i := 17) rfl
theorem dX3_factOfYard_162 : decode cX3_factOfYard 162 = .ok (.invokestatic 331, 3) := vl_at vq_cX3_factOfYard_1 (i := 18) rfl
theorem dX3_factOfYard_165 : decode cX3_factOfYard 165 = .ok (.ireturn, 1) := vl_at vq_cX3_factOfYard_1 (i := 19) rfl
theorem dX3_factOfYard_166 : decode cX3_factOfYard 166 = .ok (.aload_n 0, 1) := vl_at vq_cX3_factOfYard_1 (i := 20) rfl
theorem dX3_factOfYard_167 : decode cX3_factOfYard 167 = .ok (.getfield 44, 3) := vl_at vq_cX3_factOfYard_1 (i := 21) rfl
theorem dX3_factOfYard_170 : decode cX3_factOfYard 170 = .ok (.ireturn, 1) := vl_at vq_cX3_factOfYard_1 (i := 22) rfl
noncomputable def vl_cX3_wayOfWalk_0 : List (Nat × Instr × Nat) := [(0, .aload_n 0, 1), (1, .getfield 30, 3), (4, .getfield 353, 3), (7, .ifCond .ne 5, 3), (10, .iconst 0, 1), (11, .ireturn, 1), (12, .aload_n 0, 1), (13, .getfield 30, 3), (16, .getfield 396, 3), (19, .ifCond .eq 7, 3), (22, .iconst 2, 1), (23, .goto 4, 3), (26, .iconst 1, 1), (27, .ireturn, 1)]
theorem vq_cX3_wayOfWalk_0 : vl_ok cX3_wayOfWalk vl_cX3_wayOfWalk_0 = true := by decide +kernel
theorem dX3_wayOfWalk_0 : decode cX3_wayOfWalk 0 = .ok (.aload_n 0, 1) := vl_at vq_cX3_wayOfWalk_0 (i := 0) rfl
theorem dX3_wayOfWalk_1 : decode cX3_wayOfWalk 1 = .ok (.getfield 30, 3) := vl_at vq_cX3_wayOfWalk_0 (i := 1) rfl
theorem dX3_wayOfWalk_4 : decode cX3_wayOfWalk 4 = .ok (.getfield 353, 3) := vl_at vq_cX3_wayOfWalk_0 (i := 2) rfl
theorem dX3_wayOfWalk_7 : decode cX3_wayOfWalk 7 = .ok (.ifCond .ne 5, 3) := vl_at vq_cX3_wayOfWalk_0 (i := 3) rfl
theorem dX3_wayOfWalk_10 : decode cX3_wayOfWalk 10 = .ok (.iconst 0, 1) := vl_at vq_cX3_wayOfWalk_0 (i := 4) rfl
theorem dX3_wayOfWalk_11 : decode cX3_wayOfWalk 11 = .ok (.ireturn, 1) := vl_at vq_cX3_wayOfWalk_0 (i := 5) rfl
theorem dX3_wayOfWalk_12 : decode cX3_wayOfWalk 12 = .ok (.aload_n 0, 1) := vl_at vq_cX3_wayOfWalk_0 (i := 6) rfl
theorem dX3_wayOfWalk_13 : decode cX3_wayOfWalk 13 = .ok (.getfield 30, 3) := vl_at vq_cX3_wayOfWalk_0 (i := 7) rfl
theorem dX3_wayOfWalk_16 : decode cX3_wayOfWalk 16 = .ok (.getfield 396, 3) := vl_at vq_cX3_wayOfWalk_0 (i := 8) rfl
theorem dX3_wayOfWalk_19 : decode cX3_wayOfWalk 19 = .ok (.ifCond .eq 7, 3) := vl_at vq_cX3_wayOfWalk_0 (i := 9) rfl
theorem dX3_wayOfWalk_22 : decode cX3_wayOfWalk 22 = .ok (.iconst 2, 1) := vl_at vq_cX3_wayOfWalk_0 (i := 10) rfl
theorem dX3_wayOfWalk_23 : decode cX3_wayOfWalk 23 = .ok (.goto 4, 3) := vl_at vq_cX3_wayOfWalk_0 (i := 11) rfl
theorem dX3_wayOfWalk_26 : decode cX3_wayOfWalk 26 = .ok (.iconst 1, 1) := vl_at vq_cX3_wayOfWalk_0 (i := 12) rfl
theorem dX3_wayOfWalk_27 : decode cX3_wayOfWalk 27 = .ok (.ireturn, 1) := vl_at vq_cX3_wayOfWalk_0 (i := 13) rfl
noncomputable def vl_cX3_isLikeOneOf_0 : List (Nat × Instr × Nat) := [(0, .aload_n 0, 1), (1, .iload_n 1, 1), (2, .invokestatic 147, 3), (5, .iconst 0, 1), (6, .invokevirtual 138, 3), (9, .iconst (-1), 1), (10, .if_icmp .eq 7, 3), (13, .iconst 1, 1), (14, .goto 4, 3), (17, .iconst 0, 1), (18, .ireturn, 1)]
theorem vq_cX3_isLikeOneOf_0 : vl_ok cX3_isLikeOneOf vl_cX3_isLikeOneOf_0 = true := by decide +kernel
theorem dX3_isLikeOneOf_0 : decode cX3_isLikeOneOf 0 = .ok (.aload_n 0, 1) := vl_at vq_cX3_isLikeOneOf_0 (i := 0) rfl
theorem dX3_isLikeOneOf_1 : decode cX3_isLikeOneOf 1 = .ok (.iload_n 1, 1) := vl_at vq_cX3_isLikeOneOf_0 (i := 1) rfl
theorem dX3_isLikeOneOf_2 : decode cX3_isLikeOneOf 2 = .ok (.invokestatic 147, 3) := vl_at vq_cX3_isLikeOneOf_0 (i := 2) rfl
theorem dX3_isLikeOneOf_5 : decode cX3_isLikeOneOf 5 = .ok (.iconst 0, 1) := vl_at vq_cX3_isLikeOneOf_0 (i := 3) rfl
theorem dX3_isLikeOneOf_6 : decode cX3_isLikeOneOf 6 = .ok (.invokevirtual 138, 3) := vl_at vq_cX3_isLikeOneOf_0 (i := 4) rfl
theorem dX3_isLikeOneOf_9 : decode cX3_isLikeOneOf 9 = .ok (.iconst (-1), 1) := vl_at vq_cX3_isLikeOneOf_0 (i := 5) rfl
theorem dX3_isLikeOneOf_10 : decode cX3_isLikeOneOf 10 = .ok (.if_icmp .eq 7, 3) := vl_at vq_cX3_isLikeOneOf_0 (i := 6) rfl
theorem dX3_isLikeOneOf_13 : decode cX3_isLikeOneOf 13 = .ok (.iconst 1, 1) := vl_at vq_cX3_isLikeOneOf_0 (i := 7) rfl
theorem dX3_isLikeOneOf_14 : decode cX3_isLikeOneOf 14 = .ok (.goto 4, 3) := vl_at vq_cX3_isLikeOneOf_0 (i := 8) rfl
theorem dX3_isLikeOneOf_17 : decode cX3_isLikeOneOf 17 = .ok (.iconst 0, 1) := vl_at vq_cX3_isLikeOneOf_0 (i := 9) rfl
theorem dX3_isLikeOneOf_18 : decode cX3_isLikeOneOf 18 = .ok (.ireturn, 1) := vl_at vq_cX3_isLikeOneOf_0 (i := 10) rfl
noncomputable def vl_cX3_isSameAllAlong_0 : List (Nat × Instr × Nat) := [(0, .aload_n 0, 1), (1, .getfield 14, 3), (4, .invokevirtual 65, 3), (7, .aload_n 0, 1), (8, .getfield 18, 3), (11, .invokevirtual 65, 3), (14, .if_icmp .eq 5, 3), (17, .iconst 0, 1), (18, .ireturn, 1), (19, .iconst 0, 1), (20, .istore_n 1, 1), (21, .iload_n 1, 1), (22, .aload_n 0, 1), (23, .getfield 18, 3), (26, .invokevirtual 65, 3), (29, .if_icmp .ge 36, 3), (32, .aload_n 0, 1), (33, .getfield 14, 3), (36, .iload_n 1, 1), (37, .invokevirtual 144, 3), (40, .invokestatic 147, 3), (43, .aload_n 0, 1), (44, .getfield 18, 3), (47, .iload_n 1, 1), (48, .invokevirtual 144, 3), (51, .invokestatic 147, 3), (54, .if_icmp .eq 5, 3), (57, .iconst 0, 1), (58, .ireturn, 1), (59, .iinc 1 1, 3), (62, .goto (-41), 3), (65, .iconst 1, 1), (66, .ireturn, 1)]
theorem vq_cX3_isSameAllAlong_0 : vl_ok cX3_isSameAllAlong vl_cX3_isSameAllAlong_0 = true := by decide +kernel
theorem dX3_isSameAllAlong_0 : decode cX3_isSameAllAlong 0 = .ok (.aload_n 0, 1) := vl_at vq_cX3_isSameAllAlong_0 (i := 0) rfl
theorem dX3_isSameAllAlong_1 : decode cX3_isSameAllAlong 1 = .ok (.getfield 14, 3) := vl_at vq_cX3_isSameAllAlong_0 (i := 1) rfl
theorem dX3_isSameAllAlong_4 : decode cX3_isSameAllAlong 4 = .ok (.invokevirtual 65, 3) := vl_at vq_cX3_isSameAllAlong_0 (i := 2) rfl
theorem dX3_isSameAllAlong_7 : decode cX3_isSameAllAlong 7 = .ok (.aload_n 0, 1) := vl_at vq_cX3_isSameAllAlong_0 (i := 3) rfl
theorem dX3_isSameAllAlong_8 : decode cX3_isSameAllAlong 8 = .ok (.getfield 18, 3) := vl_at vq_cX3_isSameAllAlong_0 (i := 4) rfl
theorem dX3_isSameAllAlong_11 : decode cX3_isSameAllAlong 11 = .ok (.invokevirtual 65, 3) := vl_at vq_cX3_isSameAllAlong_0 (i := 5) rfl
theorem dX3_isSameAllAlong_14 : decode cX3_isSameAllAlong 14 = .ok (.if_icmp .eq 5, 3) := vl_at vq_cX3_isSameAllAlong_0 (i := 6) rfl
theorem dX3_isSameAllAlong_17 : decode cX3_isSameAllAlong 17 = .ok (.iconst 0, 1) := vl_at vq_cX3_isSameAllAlong_0 (i := 7) rfl
theorem dX3_isSameAllAlong_18 : decode cX3_isSameAllAlong 18 = .ok (.ireturn, 1) := vl_at vq_cX3_isSameAllAlong_0 (i := 8) rfl
theorem dX3_isSameAllAlong_19 : decode cX3_isSameAllAlong 19 = .ok (.iconst 0, 1) := vl_at vq_cX3_isSameAllAlong_0 (i := 9) rfl
theorem dX3_isSameAllAlong_20 : decode cX3_isSameAllAlong 20 = .ok (.istore_n 1, 1) := vl_at vq_cX3_isSameAllAlong_0 (i := 10) rfl
theorem dX3_isSameAllAlong_21 : decode cX3_isSameAllAlong 21 = .ok (.iload_n 1, 1) := vl_at vq_cX3_isSameAllAlong_0 (i := 11) rfl
theorem dX3_isSameAllAlong_22 : decode cX3_isSameAllAlong 22 = .ok (.aload_n 0, 1) := vl_at vq_cX3_isSameAllAlong_0 (i := 12) rfl
theorem dX3_isSameAllAlong_23 : decode cX3_isSameAllAlong 23 = .ok (.getfield 18, 3) := vl_at vq_cX3_isSameAllAlong_0 (i := 13) rfl
theorem dX3_isSameAllAlong_26 : decode cX3_isSameAllAlong 26 = .ok (.invokevirtual 65, 3) := vl_at vq_cX3_isSameAllAlong_0 (i := 14) rfl
theorem dX3_isSameAllAlong_29 : decode cX3_isSameAllAlong 29 = .ok (.if_icmp .ge 36, 3) := vl_at vq_cX3_isSameAllAlong_0 (i := 15) rfl
theorem dX3_isSameAllAlong_32 : decode cX3_isSameAllAlong 32 = .ok (.aload_n 0, 1) := vl_at vq_cX3_isSameAllAlong_0 (i := 16) rfl
theorem dX3_isSameAllAlong_33 : decode cX3_isSameAllAlong 33 = .ok (.getfield 14, 3) := vl_at vq_cX3_isSameAllAlong_0 (i := 17) rfl
theorem dX3_isSameAllAlong_36 : decode cX3_isSameAllAlong 36 = .ok (.iload_n 1, 1) := vl_at vq_cX3_isSameAllAlong_0 (i := 18) rfl
theorem dX3_isSameAllAlong_37 : decode cX3_isSameAllAlong 37 = .ok (.invokevirtual 144, 3) := vl_at vq_cX3_isSameAllAlong_0 (i := 19) rfl
theorem dX3_isSameAllAlong_40 : decode cX3_isSameAllAlong 40 = .ok (.invokestatic 147, 3) := vl_at vq_cX3_isSameAllAlong_0 (i := 20) rfl
theorem dX3_isSameAllAlong_43 : decode cX3_isSameAllAlong 43 = .ok (.aload_n 0, 1) := vl_at vq_cX3_isSameAllAlong_0 (i := 21) rfl
theorem dX3_isSameAllAlong_44 : decode cX3_isSameAllAlong 44 = .ok (.getfield 18, 3) := vl_at vq_cX3_isSameAllAlong_0 (i := 22) rfl
theorem dX3_isSameAllAlong_47 : decode cX3_isSameAllAlong 47 = .ok (.iload_n 1, 1) := vl_at vq_cX3_isSameAllAlong_0 (i := 23) rfl
theorem dX3_isSameAllAlong_48 : decode cX3_isSameAllAlong 48 = .ok (.invokevirtual 144, 3) := vl_at vq_cX3_isSameAllAlong_0 (i := 24) rfl
theorem dX3_isSameAllAlong_51 : decode cX3_isSameAllAlong 51 = .ok (.invokestatic 147, 3) := vl_at vq_cX3_isSameAllAlong_0 (i := 25) rfl
theorem dX3_isSameAllAlong_54 : decode cX3_isSameAllAlong 54 = .ok (.if_icmp .eq 5, 3) := vl_at vq_cX3_isSameAllAlong_0 (i := 26) rfl
theorem dX3_isSameAllAlong_57 : decode cX3_isSameAllAlong 57 = .ok (.iconst 0, 1) := vl_at vq_cX3_isSameAllAlong_0 (i := 27) rfl
theorem dX3_isSameAllAlong_58 : decode cX3_isSameAllAlong 58 = .ok (.ireturn, 1) := vl_at vq_cX3_isSameAllAlong_0 (i := 28) rfl
theorem dX3_isSameAllAlong_59 : decode cX3_isSameAllAlong 59 = .ok (.iinc 1 1, 3) := vl_at vq_cX3_isSameAllAlong_0 (i := 29) rfl
theorem dX3_isSameAllAlong_62 : decode cX3_isSameAllAlong 62 = .ok (.goto (-41), 3) := vl_at vq_cX3_isSameAllAlong_0 (i := 30) rfl
theorem dX3_isSameAllAlong_65 : decode cX3_isSameAllAlong 65 = .ok (.iconst 1, 1) := vl_at vq_cX3_isSameAllAlong_0 (i := 31) rfl
theorem dX3_isSameAllAlong_66 : decode cX3_isSameAllAlong 66 = .ok (.ireturn, 1) := vl_at vq_cX3_isSameAllAlong_0 (i := 32) rfl
noncomputable def vl_cX3_isSidingAmongLine_0 : List (Nat × Instr × Nat) := [(0, .iconst 0, 1), (1, .istore_n 1, 1), (2, .iload_n 1, 1), (3, .aload_n 0, 1), (4, .getfield 14, 3), (7, .invokevirtual 65, 3), (10, .if_icmp .ge 29, 3), (13, .aload_n 0, 1), (14, .getfield 18, 3), (17, .aload_n 0, 1), (18, .getfield 14, 3), (21, .iload_n 1, 1), (22, .invokevirtual 144, 3), (25, .invokestatic 162, 3), (28, .ifCond .ne 5, 3), (31, .iconst 0, 1), (32, .ireturn, 1), (33, .iinc 1 1, 3), (36, .goto (-34), 3), (39, .iconst 1, 1), (40, .ireturn, 1)]
theorem vq_cX3_isSidingAmongLine_0 : vl_ok cX3_isSidingAmongLine vl_cX3_isSidingAmongLine_0 = true := by decide +kernel
theorem dX3_isSidingAmongLine_0 : decode cX3_isSidingAmongLine 0 = .ok (.iconst 0, 1) := vl_at vq_cX3_isSidingAmongLine_0 (i := 0) rfl
theorem dX3_isSidingAmongLine_1 : decode cX3_isSidingAmongLine 1 = .ok (.istore_n 1, 1) := vl_at vq_cX3_isSidingAmongLine_0 (i := 1) rfl
theorem dX3_isSidingAmongLine_2 : decode cX3_isSidingAmongLine 2 = .ok (.iload_n 1, 1) := vl_at vq_cX3_isSidingAmongLine_0 (i := 2) rfl
theorem dX3_isSidingAmongLine_3 : decode cX3_isSidingAmongLine 3 = .ok (.aload_n 0, 1) := vl_at vq_cX3_isSidingAmongLine_0 (i := 3) rfl
theorem dX3_isSidingAmongLine_4 : decode cX3_isSidingAmongLine 4 = .ok (.getfield 14, 3) := vl_at vq_cX3_isSidingAmongLine_0 (i := 4) rfl
theorem dX3_isSidingAmongLine_7 : decode cX3_isSidingAmongLine 7 = .ok (.invokevirtual 65, 3) := vl_at vq_cX3_isSidingAmongLine_0 (i := 5) rfl
theorem dX3_isSidingAmongLine_10 : decode cX3_isSidingAmongLine 10 = .ok (.if_icmp .ge 29, 3) := vl_at vq_cX3_isSidingAmongLine_0 (i := 6) rfl
theorem dX3_isSidingAmongLine_13 : decode cX3_isSidingAmongLine 13 = .ok (.aload_n 0, 1) := vl_at vq_cX3_isSidingAmongLine_0 (i := 7) rfl
theorem dX3_isSidingAmongLine_14 : decode cX3_isSidingAmongLine 14 = .ok (.getfield 18, 3) := vl_at vq_cX3_isSidingAmongLine_0 (i := 8) rfl
theorem dX3_isSidingAmongLine_17 : decode cX3_isSidingAmongLine 17 = .ok (.aload_n 0, 1) := vl_at vq_cX3_isSidingAmongLine_0 (i := 9) rfl
theorem dX3_isSidingAmongLine_18 : decode cX3_isSidingAmongLine 18 = .ok (.getfield 14, 3) := vl_at vq_cX3_isSidingAmongLine_0 (i := 10) rfl
theorem dX3_isSidingAmongLine_21 : decode cX3_isSidingAmongLine 21 = .ok (.iload_n 1, 1) := vl_at vq_cX3_isSidingAmongLine_0 (i := 11) rfl
theorem dX3_isSidingAmongLine_22 : decode cX3_isSidingAmongLine 22 = .ok (.invokevirtual 144, 3) := vl_at vq_cX3_isSidingAmongLine_0 (i := 12) rfl
theorem dX3_isSidingAmongLine_25 : decode cX3_isSidingAmongLine 25 = .ok (.invokestatic 162, 3) := vl_at vq_cX3_isSidingAmongLine_0 (i := 13) rfl
theorem dX3_isSidingAmongLine_28 : decode cX3_isSidingAmongLine 28 = .ok (.ifCond .ne 5, 3) := vl_at vq_cX3_isSidingAmongLine_0 (i := 14) rfl
theorem dX3_isSidingAmongLine_31 : decode cX3_isSidingAmongLine 31 = .ok (.iconst 0, 1) := vl_at vq_cX3_isSidingAmongLine_0 (i := 15) rfl
theorem dX3_isSidingAmongLine_32 : decode cX3_isSidingAmongLine 32 = .ok (.ireturn, 1) := vl_at vq_cX3_isSidingAmongLine_0 (i := 16) rfl
theorem dX3_isSidingAmongLine_33 : decode cX3_isSidingAmongLine 33 = .ok (.iinc 1 1, 3) := vl_at vq_cX3_isSidingAmongLine_0 (i := 17) rfl
theorem dX3_isSidingAmongLine_36 : decode cX3_isSidingAmongLine 36 = .ok (.goto (-34), 3) := vl_at vq_cX3_isSidingAmongLine_0 (i := 18) rfl
theorem dX3_isSidingAmongLine_39 : decode cX3_isSidingAmongLine 39 = .ok (.iconst 1, 1) := vl_at vq_cX3_isSidingAmongLine_0 (i := 19) rfl
theorem dX3_isSidingAmongLine_40 : decode cX3_isSidingAmongLine 40 = .ok (.ireturn, 1) := vl_at vq_cX3_isSidingAmongLine_0 (i := 20) rfl
noncomputable def vl_cX3_writtenLength_0 : List (Nat × Instr × Nat) := [(0, .iconst 0, 1), (1, .aload_n 0, 1), (2, .invokevirtual 65, 3), (5, .iconst 1, 1), (6, .isub, 1), (7, .invokestatic 295, 3), (10, .istore_n 1, 1), (11, .iconst 0, 1), (12, .istore_n 2, 1), (13, .iload_n 2, 1), (14, .aload_n 0, 1), (15, .invokevirtual 65, 3), (18, .if_icmp .ge 28, 3), (21, .iload_n 1, 1), (22, .aload_n 0, 1), (23, .iload_n 2, 1), (24, .invokevirtual 144, 3), (27, .invokestatic 147, 3), (30, .ifCond .ne 7, 3), (33, .iconst 1, 1), (34, .goto 4, 3), (37, .iconst 3, 1), (38, .iadd, 1), (39, .istore_n 1, 1), (40, .iinc 2 1, 3), (43, .goto (-30), 3), (46, .iload_n 1, 1), (47, .ireturn, 1)]
theorem vq_cX3_writtenLength_0 : vl_ok cX3_writtenLength vl_cX3_writtenLength_0 = true := by decide +kernel
theorem dX3_writtenLength_0 : decode cX3_writtenLength 0 = .ok (.iconst 0, 1) := vl_at vq_cX3_writtenLength_0 (i := 0) rfl
theorem dX3_writtenLength_1 : decode cX3_writtenLength 1 = .ok (.aload_n 0, 1) := vl_at vq_cX3_writtenLength_0 (i := 1) rfl
theorem dX3_writtenLength_2 : decode cX3_writtenLength 2 = .ok (.invokevirtual 65, 3) := vl_at vq_cX3_writtenLength_0 (i := 2) rfl
theorem dX3_writtenLength_5 : decode cX3_writtenLength 5 = .ok (.iconst 1, 1) := vl_at vq_cX3_writtenLength_0 (i := 3) rfl
theorem dX3_writtenLength_6 : decode cX3_writtenLength 6 = .ok (.isub, 1) := vl_at vq_cX3_writtenLength_0 (i := 4) rfl
theorem dX3_writtenLength_7 : decode cX3_writtenLength 7 = .ok (.invokestatic 295, 3) := vl_at vq_cX3_writtenLength_0 (i := 5) rfl
theorem dX3_writtenLength_10 : decode cX3_writtenLength 10 = .ok (.istore_n 1, 1) := vl_at vq_cX3_writtenLength_0 (i := 6) rfl
theorem dX3_writtenLength_11 : decode cX3_writtenLength 11 = .ok (.iconst 0, 1) := vl_at vq_cX3_writtenLength_0 (i := 7) rfl
theorem dX3_writtenLength_12 : decode cX3_writtenLength 12 = .ok (.istore_n 2, 1) := vl_at vq_cX3_writtenLength_0 (i := 8) rfl
theorem dX3_writtenLength_13 : decode cX3_writtenLength 13 = .ok (.iload_n 2, 1) := vl_at vq_cX3_writtenLength_0 (i := 9) rfl
theorem dX3_writtenLength_14 : decode cX3_writtenLength 14 = .ok (.aload_n 0, 1) := vl_at vq_cX3_writtenLength_0 (i := 10) rfl
theorem dX3_writtenLength_15 : decode cX3_writtenLength 15 = .ok (.invokevirtual 65, 3) := vl_at vq_cX3_writtenLength_0 (i := 11) rfl
theorem dX3_writtenLength_18 : decode cX3_writtenLength 18 = .ok (.if_icmp .ge 28, 3) := vl_at vq_cX3_writtenLength_0 (i := 12) rfl
theorem dX3_writtenLength_21 : decode cX3_writtenLength 21 = .ok (.iload_n 1, 1) := vl_at vq_cX3_writtenLength_0 (i := 13) rfl
theorem dX3_writtenLength_22 : decode cX3_writtenLength 22 = .ok (.aload_n 0, 1) := vl_at vq_cX3_writtenLength_0 (i := 14) rfl
theorem dX3_writtenLength_23 : decode cX3_writtenLength 23 = .ok (.iload_n 2, 1) := vl_at vq_cX3_writtenLength_0 (i := 15) rfl
theorem dX3_writtenLength_24 : decode cX3_writtenLength 24 = .ok (.invokevirtual 144, 3) := vl_at vq_cX3_writtenLength_0 (i := 16) rfl
theorem dX3_writtenLength_27 : decode cX3_writtenLength 27 = .ok (.invokestatic 147, 3) := vl_at vq_cX3_writtenLength_0 (i := 17) rfl
theorem dX3_writtenLength_30 : decode cX3_writtenLength 30 = .ok (.ifCond .ne 7, 3) := vl_at vq_cX3_writtenLength_0 (i := 18) rfl
theorem dX3_writtenLength_33 : decode cX3_writtenLength 33 = .ok (.iconst 1, 1) := vl_at vq_cX3_writtenLength_0 (i := 19) rfl
theorem dX3_writtenLength_34 : decode cX3_writtenLength 34 = .ok (.goto 4, 3) := vl_at vq_cX3_writtenLength_0 (i := 20) rfl
theorem dX3_writtenLength_37 : decode cX3_writtenLength 37 = .ok (.iconst 3, 1) := vl_at vq_cX3_writtenLength_0 (i := 21) rfl
theorem dX3_writtenLength_38 : decode cX3_writtenLength 38 = .ok (.iadd, 1) := vl_at vq_cX3_writtenLength_0 (i := 22) rfl
theorem dX3_writtenLength_39 : decode cX3_writtenLength 39 = .ok (.istore_n 1, 1) := vl_at vq_cX3_writtenLength_0 (i := 23) rfl
theorem dX3_writtenLength_40 : decode cX3_writtenLength 40 = .ok (.iinc 2 1, 3) := vl_at vq_cX3_writtenLength_0 (i := 24) rfl
theorem dX3_writtenLength_43 : decode cX3_writtenLength 43 = .ok (.goto (-30), 3) := vl_at vq_cX3_writtenLength_0 (i := 25) rfl
theorem dX3_writtenLength_46 : decode cX3_writtenLength 46 = .ok (.iload_n 1, 1) := vl_at vq_cX3_writtenLength_0 (i := 26) rfl
theorem dX3_writtenLength_47 : decode cX3_writtenLength 47 = .ok (.ireturn, 1) := vl_at vq_cX3_writtenLength_0 (i := 27) rfl
noncomputable def vl_cX3_mostOpen_0 : List (Nat × Instr × Nat) := [(0, .aload_n 0, 1), (1, .iload_n 1, 1), (2, .invokevirtual 61, 3), (5, .astore_n 2, 1), (6, .iconst 0, 1), (7, .istore_n 3, 1), (8, .aload_n 0, 1), (9, .getfield 54, 3), (12, .invokevirtual 159, 3), (15, .iconst 0, 1), (16, .istore 4, 2), (18, .iload 4, 2), (20, .aload_n 2, 1), (21, .invokevirtual 65, 3), (24, .if_icmp .ge 82, 3), (27, .aload_n 2, 1), (28, .iload 4, 2), (30, .invokevirtual 144, 3), (33, .invokestatic 147, 3), (36, .istore 5, 2), (38, .iload 5, 2), (40, .iconst 2, 1), (41, .irem, 1), (42, .iconst 1, 1), (43, .if_icmp .ne 34, 3), (46, .iload 5, 2), (48, .bipush 9, 2), (50, .if_icmp .ge 27, 3), (53, .aload_n 0, 1), (54, .getfield 54, 3), (57, .iload 5, 2), (59, .invokevirtual 197, 3), (62, .iload_n 3, 1), (63, .aload_n 0, 1), (64, .getfield 54, 3), (67, .invokevirtual 65, 3), (70, .invokestatic 295, 3), (73, .istore_n 3, 1), (74, .goto 26, 3), (77, .iload 5, 2)]
theorem vq_cX3_mostOpen_0 : vl_ok cX3_mostOpen vl_cX3_mostOpen_0 = true := by decide +kernel
theorem dX3_mostOpen_0 : decode cX3_mostOpen 0 = .ok (.aload_n 0, 1) := vl_at vq_cX3_mostOpen_0 (i := 0) rfl
theorem dX3_mostOpen_1 : decode cX3_mostOpen 1 = .ok (.iload_n 1, 1) := vl_at vq_cX3_mostOpen_0 (i := 1) rfl
theorem dX3_mostOpen_2 : decode cX3_mostOpen 2 = .ok (.invokevirtual 61, 3) := vl_at vq_cX3_mostOpen_0 (i := 2) rfl
theorem dX3_mostOpen_5 : decode cX3_mostOpen 5 = .ok (.astore_n 2, 1) := vl_at vq_cX3_mostOpen_0 (i := 3) rfl
theorem dX3_mostOpen_6 : decode cX3_mostOpen 6 = .ok (.iconst 0, 1) := vl_at vq_cX3_mostOpen_0 (i := 4) rfl
theorem dX3_mostOpen_7 : decode cX3_mostOpen 7 = .ok (.istore_n 3, 1) := vl_at vq_cX3_mostOpen_0 (i := 5) rfl
theorem dX3_mostOpen_8 : decode cX3_mostOpen 8 = .ok (.aload_n 0, 1) := vl_at vq_cX3_mostOpen_0 (i := 6) rfl
theorem dX3_mostOpen_9 : decode cX3_mostOpen 9 = .ok (.getfield 54, 3) := vl_at vq_cX3_mostOpen_0 (i := 7) rfl
theorem dX3_mostOpen_12 : decode cX3_mostOpen 12 = .ok (.invokevirtual 159, 3) := vl_at vq_cX3_mostOpen_0 (i := 8) rfl
theorem dX3_mostOpen_15 : decode cX3_mostOpen 15 = .ok (.iconst 0, 1) := vl_at vq_cX3_mostOpen_0 (i := 9) rfl
theorem dX3_mostOpen_16 : decode cX3_mostOpen 16 = .ok (.istore 4, 2) := vl_at vq_cX3_mostOpen_0 (i := 10) rfl
theorem dX3_mostOpen_18 : decode cX3_mostOpen 18 = .ok (.iload 4, 2) := vl_at vq_cX3_mostOpen_0 (i := 11) rfl
theorem dX3_mostOpen_20 : decode cX3_mostOpen 20 = .ok (.aload_n 2, 1) := vl_at vq_cX3_mostOpen_0 (i := 12) rfl
theorem dX3_mostOpen_21 : decode cX3_mostOpen 21 = .ok (.invokevirtual 65, 3) := vl_at vq_cX3_mostOpen_0 (i := 13) rfl
theorem dX3_mostOpen_24 : decode cX3_mostOpen 24 = .ok (.if_icmp .ge 82, 3) := vl_at vq_cX3_mostOpen_0 (i := 14) rfl
theorem dX3_mostOpen_27 : decode cX3_mostOpen 27 = .ok (.aload_n 2, 1) := vl_at vq_cX3_mostOpen_0 (i := 15) rfl
theorem dX3_mostOpen_28 : decode cX3_mostOpen 28 = .ok (.iload 4, 2) := vl_at vq_cX3_mostOpen_0 (i := 16) rfl
theorem dX3_mostOpen_30 : decode cX3_mostOpen 30 = .ok (.invokevirtual 144, 3) := vl_at vq_cX3_mostOpen_0 (i := 17) rfl
theorem dX3_mostOpen_33 : decode cX3_mostOpen 33 = .ok (.invokestatic 147, 3) := vl_at vq_cX3_mostOpen_0 (i := 18) rfl
theorem dX3_mostOpen_36 : decode cX3_mostOpen 36 = .ok (.istore 5, 2) := vl_at vq_cX3_mostOpen_0 (i := 19) rfl
theorem dX3_mostOpen_38 : decode cX3_mostOpen 38 = .ok (.iload 5, 2) := vl_at vq_cX3_mostOpen_0 (i := 20) rfl
theorem dX3_mostOpen_40 : decode cX3_mostOpen 40 = .ok (.iconst 2, 1) := vl_at vq_cX3_mostOpen_0 (i := 21) rfl
theorem dX3_mostOpen_41 : decode cX3_mostOpen 41 = .ok (.irem, 1) := vl_at vq_cX3_mostOpen_0 (i := 22) rfl
theorem dX3_mostOpen_42 : decode cX3_mostOpen 42 = .ok (.iconst 1, 1) := vl_at vq_cX3_mostOpen_0 (i := 23) rfl
theorem dX3_mostOpen_43 : decode cX3_mostOpen 43 = .ok (.if_icmp .ne 34, 3) := vl_at vq_cX3_mostOpen_0 (i := 24) rfl
theorem dX3_mostOpen_46 : decode cX3_mostOpen 46 = .ok (.iload 5, 2) := vl_at vq_cX3_mostOpen_0 (i := 25) rfl
theorem dX3_mostOpen_48 : decode cX3_mostOpen 48 = .ok (.bipush 9, 2) := vl_at vq_cX3_mostOpen_0 (i := 26) rfl
theorem dX3_mostOpen_50 : decode cX3_mostOpen 50 = .ok (.if_icmp .ge 27, 3) := vl_at vq_cX3_mostOpen_0 (i := 27) rfl
theorem dX3_mostOpen_53 : decode cX3_mostOpen 53 = .ok (.aload_n 0, 1) := vl_at vq_cX3_mostOpen_0 (i := 28) rfl
theorem dX3_mostOpen_54 : decode cX3_mostOpen 54 = .ok (.getfield 54, 3) := vl_at vq_cX3_mostOpen_0 (i := 29) rfl
theorem dX3_mostOpen_57 : decode cX3_mostOpen 57 = .ok (.iload 5, 2) := vl_at vq_cX3_mostOpen_0 (i := 30) rfl
theorem dX3_mostOpen_59 : decode cX3_mostOpen 59 = .ok (.invokevirtual 197, 3) := vl_at vq_cX3_mostOpen_0 (i := 31) rfl
theorem dX3_mostOpen_62 : decode cX3_mostOpen 62 = .ok (.iload_n 3, 1) := vl_at vq_cX3_mostOpen_0 (i := 32) rfl
theorem dX3_mostOpen_63 : decode cX3_mostOpen 63 = .ok (.aload_n 0, 1) := vl_at vq_cX3_mostOpen_0 (i := 33) rfl
theorem dX3_mostOpen_64 : decode cX3_mostOpen 64 = .ok (.getfield 54, 3) := vl_at vq_cX3_mostOpen_0 (i := 34) rfl
theorem dX3_mostOpen_67 : decode cX3_mostOpen 67 = .ok (.invokevirtual 65, 3) := vl_at vq_cX3_mostOpen_0 (i := 35) rfl
theorem dX3_mostOpen_70 : decode cX3_mostOpen 70 = .ok (.invokestatic 295, 3) := vl_at vq_cX3_mostOpen_0 (i := 36) rfl
theorem dX3_mostOpen_73 : decode cX3_mostOpen 73 = .ok (.istore_n 3, 1) := vl_at vq_cX3_mostOpen_0 (i := 37) rfl
theorem dX3_mostOpen_74 : decode cX3_mostOpen 74 = .ok (.goto 26, 3) := vl_at vq_cX3_mostOpen_0 (i := 38) rfl
theorem dX3_mostOpen_77 : decode cX3_mostOpen 77 = .ok (.iload 5, 2) := vl_at vq_cX3_mostOpen_0 (i := 39) rfl
noncomputable def vl_cX3_mostOpen_1 : List (Nat × Instr × Nat) := [(79, .iconst 2, 1), (80, .irem, 1), (81, .ifCond .ne 19, 3), (84, .iload 5, 2), (86, .ifCond .eq 14, 3), (89, .aload_n 0, 1), (90, .iload 5, 2), (92, .invokevirtual 399, 3), (95, .ifCond .ne 5, 3), (98, .iconst (-1), 1), (99, .ireturn, 1), (100, .iinc 4 1, 3), (103, .goto (-85), 3), (106, .aload_n 0, 1), (107, .getfield 54, 3), (110, .invokevirtual 96, 3), (113, .ifCond .eq 7, 3), (116, .iload_n 3, 1), (117, .goto 4, 3), (120, .iconst (-1), 1), (121, .ireturn, 1)]
theorem vq_cX3_mostOpen_1 : vl_ok cX3_mostOpen vl_cX3_mostOpen_1 = true := by decide +kernel
theorem dX3_mostOpen_79 : decode cX3_mostOpen 79 = .ok (.iconst 2, 1) := vl_at vq_cX3_mostOpen_1 (i := 0) rfl
theorem dX3_mostOpen_80 : decode cX3_mostOpen 80 = .ok (.irem, 1) := vl_at vq_cX3_mostOpen_1 (i := 1) rfl
theorem dX3_mostOpen_81 : decode cX3_mostOpen 81 = .ok (.ifCond .ne 19, 3) := vl_at vq_cX3_mostOpen_1 (i := 2) rfl
theorem dX3_mostOpen_84 : decode cX3_mostOpen 84 = .ok (.iload 5, 2) := vl_at vq_cX3_mostOpen_1 (i := 3) rfl
theorem dX3_mostOpen_86 : decode cX3_mostOpen 86 = .ok (.ifCond .eq 14, 3) := vl_at vq_cX3_mostOpen_1 (i := 4) rfl
theorem dX3_mostOpen_89 : decode cX3_mostOpen 89 = .ok (.aload_n 0, 1) := vl_at vq_cX3_mostOpen_1 (i := 5) rfl
theorem dX3_mostOpen_90 : decode cX3_mostOpen 90 = .ok (.iload 5, 2) := vl_at vq_cX3_mostOpen_1 (i := 6) rfl
theorem dX3_mostOpen_92 : decode cX3_mostOpen 92 = .ok (.invokevirtual 399, 3) := vl_at vq_cX3_mostOpen_1 (i := 7) rfl
theorem dX3_mostOpen_95 : decode cX3_mostOpen 95 = .ok (.ifCond .ne 5, 3) := vl_at vq_cX3_mostOpen_1 (i := 8) rfl
theorem dX3_mostOpen_98 : decode cX3_mostOpen 98 = .ok (.iconst (-1), 1) := vl_at vq_cX3_mostOpen_1 (i := 9) rfl
theorem dX3_mostOpen_99 : decode cX3_mostOpen 99 = .ok (.ireturn, 1) := vl_at vq_cX3_mostOpen_1 (i := 10) rfl
theorem dX3_mostOpen_100 : decode cX3_mostOpen 100 = .ok (.iinc 4 1, 3) := vl_at vq_cX3_mostOpen_1 (i := 11) rfl
theorem dX3_mostOpen_103 : decode cX3_mostOpen 103 = .ok (.goto (-85), 3) := vl_at vq_cX3_mostOpen_1 (i := 12) rfl
theorem dX3_mostOpen_106 : decode cX3_mostOpen 106 = .ok (.aload_n 0, 1) := vl_at vq_cX3_mostOpen_1 (i := 13) rfl
theorem dX3_mostOpen_107 : decode cX3_mostOpen 107 = .ok (.getfield 54, 3) := vl_at vq_cX3_mostOpen_1 (i := 14) rfl
theorem dX3_mostOpen_110 : decode cX3_mostOpen 110 = .ok (.invokevirtual 96, 3) := vl_at vq_cX3_mostOpen_1 (i := 15) rfl
theorem dX3_mostOpen_113 : decode cX3_mostOpen 113 = .ok (.ifCond .eq 7, 3) := vl_at vq_cX3_mostOpen_1 (i := 16) rfl
theorem dX3_mostOpen_116 : decode cX3_mostOpen 116 = .ok (.iload_n 3, 1) := vl_at vq_cX3_mostOpen_1 (i := 17) rfl
theorem dX3_mostOpen_117 : decode cX3_mostOpen 117 = .ok (.goto 4, 3) := vl_at vq_cX3_mostOpen_1 (i := 18) rfl
theorem dX3_mostOpen_120 : decode cX3_mostOpen 120 = .ok (.iconst (-1), 1) := vl_at vq_cX3_mostOpen_1 (i := 19) rfl
theorem dX3_mostOpen_121 : decode cX3_mostOpen 121 = .ok (.ireturn, 1) := vl_at vq_cX3_mostOpen_1 (i := 20) rfl
noncomputable def vl_cX3_closedBy_0 : List (Nat × Instr × Nat) := [(0, .aload_n 0, 1), (1, .getfield 54, 3), (4, .aload_n 0, 1), (5, .getfield 54, 3), (8, .iconst 1, 1), (9, .invokevirtual 109, 3), (12, .invokevirtual 113, 3), (15, .iload_n 1, 1), (16, .iconst 1, 1), (17, .isub, 1), (18, .if_icmp .ne 7, 3), (21, .iconst 1, 1), (22, .goto 4, 3), (25, .iconst 0, 1), (26, .ireturn, 1)]
theorem vq_cX3_closedBy_0 : vl_ok cX3_closedBy vl_cX3_closedBy_0 = true := by decide +kernel
theorem dX3_closedBy_0 : decode cX3_closedBy 0 = .ok (.aload_n 0, 1) := vl_at vq_cX3_closedBy_0 (i := 0) rfl
theorem dX3_closedBy_1 : decode cX3_closedBy 1 = .ok (.getfield 54, 3) := vl_at vq_cX3_closedBy_0 (i := 1) rfl
theorem dX3_closedBy_4 : decode cX3_closedBy 4 = .ok (.aload_n 0, 1) := vl_at vq_cX3_closedBy_0 (i := 2) rfl
theorem dX3_closedBy_5 : decode cX3_closedBy 5 = .ok (.getfield 54, 3) := vl_at vq_cX3_closedBy_0 (i := 3) rfl
theorem dX3_closedBy_8 : decode cX3_closedBy 8 = .ok (.iconst 1, 1) := vl_at vq_cX3_closedBy_0 (i := 4) rfl
theorem dX3_closedBy_9 : decode cX3_closedBy 9 = .ok (.invokevirtual 109, 3) := vl_at vq_cX3_closedBy_0 (i := 5) rfl
theorem dX3_closedBy_12 : decode cX3_closedBy 12 = .ok (.invokevirtual 113, 3) := vl_at vq_cX3_closedBy_0 (i := 6) rfl
theorem dX3_closedBy_15 : decode cX3_closedBy 15 = .ok (.iload_n 1, 1) := vl_at vq_cX3_closedBy_0 (i := 7) rfl
theorem dX3_closedBy_16 : decode cX3_closedBy 16 = .ok (.iconst 1, 1) := vl_at vq_cX3_closedBy_0 (i := 8) rfl
theorem dX3_closedBy_17 : decode cX3_closedBy 17 = .ok (.isub, 1) := vl_at vq_cX3_closedBy_0 (i := 9) rfl
theorem dX3_closedBy_18 : decode cX3_closedBy 18 = .ok (.if_icmp .ne 7, 3) := vl_at vq_cX3_closedBy_0 (i := 10) rfl
theorem dX3_closedBy_21 : decode cX3_closedBy 21 = .ok (.iconst 1, 1) := vl_at vq_cX3_closedBy_0 (i := 11) rfl
theorem dX3_closedBy_22 : decode cX3_closedBy 22 = .ok (.goto 4, 3) := vl_at vq_cX3_closedBy_0 (i := 12) rfl
theorem dX3_closedBy_25 : decode cX3_closedBy 25 = .ok (.iconst 0, 1) := vl_at vq_cX3_closedBy_0 (i := 13) rfl
theorem dX3_closedBy_26 : decode cX3_closedBy 26 = .ok (.ireturn, 1) := vl_at vq_cX3_closedBy_0 (i := 14) rfl
noncomputable def vl_cX3_isRowSound_0 : List (Nat × Instr × Nat) := [(0, .aload_n 0, 1), (1, .invokevirtual 65, 3), (4, .ifCond .lt 12, 3), (7, .aload_n 0, 1), (8, .invokevirtual 65, 3), (11, .bipush 20, 2), (13, .if_icmp .le 5, 3), (16, .iconst 0, 1), (17, .ireturn, 1), (18, .iconst 0, 1), (19, .istore_n 1, 1), (20, .iload_n 1, 1), (21, .aload_n 0, 1), (22, .invokevirtual 65, 3), (25, .if_icmp .ge 33, 3), (28, .aload_n 0, 1), (29, .iconst 0, 1), (30, .iload_n 1, 1), (31, .invokevirtual 281, 3), (34, .aload_n 0, 1), (35, .iconst 1, 1), (36, .aload_n 0, 1), (37, .invokevirtual 65, 3), (40, .iconst 1, 1), (41, .isub, 1), (42, .iload_n 1, 1), (43, .isub, 1), (44, .invokevirtual 281, 3), (47, .if_icmp .eq 5, 3), (50, .iconst 0, 1), (51, .ireturn, 1), (52, .iinc 1 1, 3), (55, .goto (-35), 3), (58, .iconst 1, 1), (59, .ireturn, 1)]
theorem vq_cX3_isRowSound_0 : vl_ok cX3_isRowSound vl_cX3_isRowSound_0 = true := by decide +kernel
theorem dX3_isRowSound_0 : decode cX3_isRowSound 0 = .ok (.aload_n 0, 1) := vl_at vq_cX3_isRowSound_0 (i := 0) rfl
theorem dX3_isRowSound_1 : decode cX3_isRowSound 1 = .ok (.invokevirtual 65, 3) := vl_at vq_cX3_isRowSound_0 (i := 1) rfl
theorem dX3_isRowSound_4 : decode cX3_isRowSound 4 = .ok (.ifCond .lt 12, 3) := vl_at vq_cX3_isRowSound_0 (i := 2) rfl
theorem dX3_isRowSound_7 : decode cX3_isRowSound 7 = .ok (.aload_n 0, 1) := vl_at vq_cX3_isRowSound_0 (i := 3) rfl
theorem dX3_isRowSound_8 : decode cX3_isRowSound 8 = .ok (.invokevirtual 65, 3) := vl_at vq_cX3_isRowSound_0 (i := 4) rfl
theorem dX3_isRowSound_11 : decode cX3_isRowSound 11 = .ok (.bipush 20, 2) := vl_at vq_cX3_isRowSound_0 (i := 5) rfl
theorem dX3_isRowSound_13 : decode cX3_isRowSound 13 = .ok (.if_icmp .le 5, 3) := vl_at vq_cX3_isRowSound_0 (i := 6) rfl
theorem dX3_isRowSound_16 : decode cX3_isRowSound 16 = .ok (.iconst 0, 1) := vl_at vq_cX3_isRowSound_0 (i := 7) rfl
theorem dX3_isRowSound_17 : decode cX3_isRowSound 17 = .ok (.ireturn, 1) := vl_at vq_cX3_isRowSound_0 (i := 8) rfl
theorem dX3_isRowSound_18 : decode cX3_isRowSound 18 = .ok (.iconst 0, 1) := vl_at vq_cX3_isRowSound_0 (i := 9) rfl
theorem dX3_isRowSound_19 : decode cX3_isRowSound 19 = .ok (.istore_n 1, 1) := vl_at vq_cX3_isRowSound_0 (i := 10) rfl
theorem dX3_isRowSound_20 : decode cX3_isRowSound 20 = .ok (.iload_n 1, 1) := vl_at vq_cX3_isRowSound_0 (i := 11) rfl
theorem dX3_isRowSound_21 : decode cX3_isRowSound 21 = .ok (.aload_n 0, 1) := vl_at vq_cX3_isRowSound_0 (i := 12) rfl
theorem dX3_isRowSound_22 : decode cX3_isRowSound 22 = .ok (.invokevirtual 65, 3) := vl_at vq_cX3_isRowSound_0 (i := 13) rfl
theorem dX3_isRowSound_25 : decode cX3_isRowSound 25 = .ok (.if_icmp .ge 33, 3) := vl_at vq_cX3_isRowSound_0 (i := 14) rfl
theorem dX3_isRowSound_28 : decode cX3_isRowSound 28 = .ok (.aload_n 0, 1) := vl_at vq_cX3_isRowSound_0 (i := 15) rfl
theorem dX3_isRowSound_29 : decode cX3_isRowSound 29 = .ok (.iconst 0, 1) := vl_at vq_cX3_isRowSound_0 (i := 16) rfl
theorem dX3_isRowSound_30 : decode cX3_isRowSound 30 = .ok (.iload_n 1, 1) := vl_at vq_cX3_isRowSound_0 (i := 17) rfl
theorem dX3_isRowSound_31 : decode cX3_isRowSound 31 = .ok (.invokevirtual 281, 3) := vl_at vq_cX3_isRowSound_0 (i := 18) rfl
theorem dX3_isRowSound_34 : decode cX3_isRowSound 34 = .ok (.aload_n 0, 1) := vl_at vq_cX3_isRowSound_0 (i := 19) rfl
theorem dX3_isRowSound_35 : decode cX3_isRowSound 35 = .ok (.iconst 1, 1) := vl_at vq_cX3_isRowSound_0 (i := 20) rfl
theorem dX3_isRowSound_36 : decode cX3_isRowSound 36 = .ok (.aload_n 0, 1) := vl_at vq_cX3_isRowSound_0 (i := 21) rfl
theorem dX3_isRowSound_37 : decode cX3_isRowSound 37 = .ok (.invokevirtual 65, 3) := vl_at vq_cX3_isRowSound_0 (i := 22) rfl
theorem dX3_isRowSound_40 : decode cX3_isRowSound 40 = .ok (.iconst 1, 1) := vl_at vq_cX3_isRowSound_0 (i := 23) rfl
theorem dX3_isRowSound_41 : decode cX3_isRowSound 41 = .ok (.isub, 1) := vl_at vq_cX3_isRowSound_0 (i := 24) rfl
theorem dX3_isRowSound_42 : decode cX3_isRowSound 42 = .ok (.iload_n 1, 1) := vl_at vq_cX3_isRowSound_0 (i := 25) rfl
theorem dX3_isRowSound_43 : decode cX3_isRowSound 43 = .ok (.isub, 1) := vl_at vq_cX3_isRowSound_0 (i := 26) rfl
theorem dX3_isRowSound_44 : decode cX3_isRowSound 44 = .ok (.invokevirtual 281, 3) := vl_at vq_cX3_isRowSound_0 (i := 27) rfl
theorem dX3_isRowSound_47 : decode cX3_isRowSound 47 = .ok (.if_icmp .eq 5, 3) := vl_at vq_cX3_isRowSound_0 (i := 28) rfl
theorem dX3_isRowSound_50 : decode cX3_isRowSound 50 = .ok (.iconst 0, 1) := vl_at vq_cX3_isRowSound_0 (i := 29) rfl
theorem dX3_isRowSound_51 : decode cX3_isRowSound 51 = .ok (.ireturn, 1) := vl_at vq_cX3_isRowSound_0 (i := 30) rfl
theorem dX3_isRowSound_52 : decode cX3_isRowSound 52 = .ok (.iinc 1 1, 3) := vl_at vq_cX3_isRowSound_0 (i := 31) rfl
theorem dX3_isRowSound_55 : decode cX3_isRowSound 55 = .ok (.goto (-35), 3) := vl_at vq_cX3_isRowSound_0 (i := 32) rfl
theorem dX3_isRowSound_58 : decode cX3_isRowSound 58 = .ok (.iconst 1, 1) := vl_at vq_cX3_isRowSound_0 (i := 33) rfl
theorem dX3_isRowSound_59 : decode cX3_isRowSound 59 = .ok (.ireturn, 1) := vl_at vq_cX3_isRowSound_0 (i := 34) rfl
noncomputable def vl_cX3_isLineFound_0 : List (Nat × Instr × Nat) := [(0, .iconst 0, 1), (1, .istore_n 1, 1), (2, .iload_n 1, 1), (3, .aload_n 0, 1), (4, .getfield 18, 3), (7, .invokevirtual 65, 3), (10, .if_icmp .ge 49, 3), (13, .aload_n 0, 1), (14, .getfield 18, 3), (17, .iload_n 1, 1), (18, .invokevirtual 144, 3), (21, .invokestatic 147, 3), (24, .istore_n 2, 1), (25, .aload_n 0, 1), (26, .getfield 18, 3), (29, .iload_n 2, 1), (30, .iconst 0, 1), (31, .invokevirtual 138, 3), (34, .iload_n 1, 1), (35, .if_icmp .gt 16, 3), (38, .aload_n 0, 1), (39, .getfield 18, 3), (42, .iload_n 2, 1), (43, .iconst 1, 1), (44, .invokevirtual 138, 3), (47, .iload_n 1, 1), (48, .if_icmp .ge 5, 3), (51, .iconst 0, 1), (52, .ireturn, 1), (53, .iinc 1 1, 3), (56, .goto (-54), 3), (59, .iconst 1, 1), (60, .ireturn, 1)]
theorem vq_cX3_isLineFound_0 : vl_ok cX3_isLineFound vl_cX3_isLineFound_0 = true := by decide +kernel
theorem dX3_isLineFound_0 : decode cX3_isLineFound 0 = .ok (.iconst 0, 1) := vl_at vq_cX3_isLineFound_0 (i := 0) rfl
theorem dX3_isLineFound_1 : decode cX3_isLineFound 1 = .ok (.istore_n 1, 1) := vl_at vq_cX3_isLineFound_0 (i := 1) rfl
theorem dX3_isLineFound_2 : decode cX3_isLineFound 2 = .ok (.iload_n 1, 1) := vl_at vq_cX3_isLineFound_0 (i := 2) rfl
theorem dX3_isLineFound_3 : decode cX3_isLineFound 3 = .ok (.aload_n 0, 1) := vl_at vq_cX3_isLineFound_0 (i := 3) rfl
theorem dX3_isLineFound_4 : decode cX3_isLineFound 4 = .ok (.getfield 18, 3) := vl_at vq_cX3_isLineFound_0 (i := 4) rfl
theorem dX3_isLineFound_7 : decode cX3_isLineFound 7 = .ok (.invokevirtual 65, 3) := vl_at vq_cX3_isLineFound_0 (i := 5) rfl
theorem dX3_isLineFound_10 : decode cX3_isLineFound 10 = .ok (.if_icmp .ge 49, 3) := vl_at vq_cX3_isLineFound_0 (i := 6) rfl
theorem dX3_isLineFound_13 : decode cX3_isLineFound 13 = .ok (.aload_n 0, 1) := vl_at vq_cX3_isLineFound_0 (i := 7) rfl
theorem dX3_isLineFound_14 : decode cX3_isLineFound 14 = .ok (.getfield 18, 3) := vl_at vq_cX3_isLineFound_0 (i := 8) rfl
theorem dX3_isLineFound_17 : decode cX3_isLineFound 17 = .ok (.iload_n 1, 1) := vl_at vq_cX3_isLineFound_0 (i := 9) rfl
theorem dX3_isLineFound_18 : decode cX3_isLineFound 18 = .ok (.invokevirtual 144, 3) := vl_at vq_cX3_isLineFound_0 (i := 10) rfl
theorem dX3_isLineFound_21 : decode cX3_isLineFound 21 = .ok (.invokestatic 147, 3) := vl_at vq_cX3_isLineFound_0 (i := 11) rfl
theorem dX3_isLineFound_24 : decode cX3_isLineFound 24 = .ok (.istore_n 2, 1) := vl_at vq_cX3_isLineFound_0 (i := 12) rfl
theorem dX3_isLineFound_25 : decode cX3_isLineFound 25 = .ok (.aload_n 0, 1) := vl_at vq_cX3_isLineFound_0 (i := 13) rfl
theorem dX3_isLineFound_26 : decode cX3_isLineFound 26 = .ok (.getfield 18, 3) := vl_at vq_cX3_isLineFound_0 (i := 14) rfl
theorem dX3_isLineFound_29 : decode cX3_isLineFound 29 = .ok (.iload_n 2, 1) := vl_at vq_cX3_isLineFound_0 (i := 15) rfl
theorem dX3_isLineFound_30 : decode cX3_isLineFound 30 = .ok (.iconst 0, 1) := vl_at vq_cX3_isLineFound_0 (i := 16) rfl
theorem dX3_isLineFound_31 : decode cX3_isLineFound 31 = .ok (.invokevirtual 138, 3) := vl_at vq_cX3_isLineFound_0 (i := 17) rfl
theorem dX3_isLineFound_34 : decode cX3_isLineFound 34 = .ok (.iload_n 1, 1) := vl_at vq_cX3_isLineFound_0 (i := 18) rfl
theorem dX3_isLineFound_35 : decode cX3_isLineFound 35 = .ok (.if_icmp .gt 16, 3) := vl_at vq_cX3_isLineFound_0 (i := 19) rfl
theorem dX3_isLineFound_38 : decode cX3_isLineFound 38 = .ok (.aload_n 0, 1) := vl_at vq_cX3_isLineFound_0 (i := 20) rfl
theorem dX3_isLineFound_39 : decode cX3_isLineFound 39 = .ok (.getfield 18, 3) := vl_at vq_cX3_isLineFound_0 (i := 21) rfl
theorem dX3_isLineFound_42 : decode cX3_isLineFound 42 = .ok (.iload_n 2, 1) := vl_at vq_cX3_isLineFound_0 (i := 22) rfl
theorem dX3_isLineFound_43 : decode cX3_isLineFound 43 = .ok (.iconst 1, 1) := vl_at vq_cX3_isLineFound_0 (i := 23) rfl
theorem dX3_isLineFound_44 : decode cX3_isLineFound 44 = .ok (.invokevirtual 138, 3) := vl_at vq_cX3_isLineFound_0 (i := 24) rfl
theorem dX3_isLineFound_47 : decode cX3_isLineFound 47 = .ok (.iload_n 1, 1) := vl_at vq_cX3_isLineFound_0 (i := 25) rfl
theorem dX3_isLineFound_48 : decode cX3_isLineFound 48 = .ok (.if_icmp .ge 5, 3) := vl_at vq_cX3_isLineFound_0 (i := 26) rfl
theorem dX3_isLineFound_51 : decode cX3_isLineFound 51 = .ok (.iconst 0, 1) := vl_at vq_cX3_isLineFound_0 (i := 27) rfl
theorem dX3_isLineFound_52 : decode cX3_isLineFound 52 = .ok (.ireturn, 1) := vl_at vq_cX3_isLineFound_0 (i := 28) rfl
theorem dX3_isLineFound_53 : decode cX3_isLineFound 53 = .ok (.iinc 1 1, 3) := vl_at vq_cX3_isLineFound_0 (i := 29) rfl
theorem dX3_isLineFound_56 : decode cX3_isLineFound 56 = .ok (.goto (-54), 3) := vl_at vq_cX3_isLineFound_0 (i := 30) rfl
theorem dX3_isLineFound_59 : decode cX3_isLineFound 59 = .ok (.iconst 1, 1) := vl_at vq_cX3_isLineFound_0 (i := 31) rfl
theorem dX3_isLineFound_60 : decode cX3_isLineFound 60 = .ok (.ireturn, 1) := vl_at vq_cX3_isLineFound_0 (i := 32) rfl
noncomputable def vl_cX3_isWalkerSound_0 : List (Nat × Instr × Nat) := [(0, .aload_n 1, 1), (1, .invokevirtual 213, 3), (4, .ifCond .eq 24, 3), (7, .aload_n 1, 1), (8, .getfield 216, 3), (11, .ifCond .lt 21, 3), (14, .aload_n 1, 1), (15, .getfield 216, 3), (18, .aload_n 0, 1), (19, .getfield 18, 3), (22, .invokevirtual 65, 3), (25, .if_icmp .gt 7, 3), (28, .iconst 1, 1), (29, .goto 4, 3), (32, .iconst 0, 1), (33, .ireturn, 1)]
theorem vq_cX3_isWalkerSound_0 : vl_ok cX3_isWalkerSound vl_cX3_isWalkerSound_0 = true := by decide +kernel
theorem dX3_isWalkerSound_0 : decode cX3_isWalkerSound 0 = .ok (.aload_n 1, 1) := vl_at vq_cX3_isWalkerSound_0 (i := 0) rfl
theorem dX3_isWalkerSound_1 : decode cX3_isWalkerSound 1 = .ok (.invokevirtual 213, 3) := vl_at vq_cX3_isWalkerSound_0 (i := 1) rfl
theorem dX3_isWalkerSound_4 : decode cX3_isWalkerSound 4 = .ok (.ifCond .eq 24, 3) := vl_at vq_cX3_isWalkerSound_0 (i := 2) rfl
theorem dX3_isWalkerSound_7 : decode cX3_isWalkerSound 7 = .ok (.aload_n 1, 1) := vl_at vq_cX3_isWalkerSound_0 (i := 3) rfl
theorem dX3_isWalkerSound_8 : decode cX3_isWalkerSound 8 = .ok (.getfield 216, 3) := vl_at vq_cX3_isWalkerSound_0 (i := 4) rfl
theorem dX3_isWalkerSound_11 : decode cX3_isWalkerSound 11 = .ok (.ifCond .lt 21, 3) := vl_at vq_cX3_isWalkerSound_0 (i := 5) rfl
theorem dX3_isWalkerSound_14 : decode cX3_isWalkerSound 14 = .ok (.aload_n 1, 1) := vl_at vq_cX3_isWalkerSound_0 (i := 6) rfl
theorem dX3_isWalkerSound_15 : decode cX3_isWalkerSound 15 = .ok (.getfield 216, 3) := vl_at vq_cX3_isWalkerSound_0 (i := 7) rfl
theorem dX3_isWalkerSound_18 : decode cX3_isWalkerSound 18 = .ok (.aload_n 0, 1) := vl_at vq_cX3_isWalkerSound_0 (i := 8) rfl
theorem dX3_isWalkerSound_19 : decode cX3_isWalkerSound 19 = .ok (.getfield 18, 3) := vl_at vq_cX3_isWalkerSound_0 (i := 9) rfl
theorem dX3_isWalkerSound_22 : decode cX3_isWalkerSound 22 = .ok (.invokevirtual 65, 3) := vl_at vq_cX3_isWalkerSound_0 (i := 10) rfl
theorem dX3_isWalkerSound_25 : decode cX3_isWalkerSound 25 = .ok (.if_icmp .gt 7, 3) := vl_at vq_cX3_isWalkerSound_0 (i := 11) rfl
theorem dX3_isWalkerSound_28 : decode cX3_isWalkerSound 28 = .ok (.iconst 1, 1) := vl_at vq_cX3_isWalkerSound_0 (i := 12) rfl
theorem dX3_isWalkerSound_29 : decode cX3_isWalkerSound 29 = .ok (.goto 4, 3) := vl_at vq_cX3_isWalkerSound_0 (i := 13) rfl
theorem dX3_isWalkerSound_32 : decode cX3_isWalkerSound 32 = .ok (.iconst 0, 1) := vl_at vq_cX3_isWalkerSound_0 (i := 14) rfl
theorem dX3_isWalkerSound_33 : decode cX3_isWalkerSound 33 = .ok (.ireturn, 1) := vl_at vq_cX3_isWalkerSound_0 (i := 15) rfl
noncomputable def vl_cX3_isUndoneOnPaper_0 : List (Nat × Instr × Nat) := [(0, .aload_n 0, 1), (1, .getfield 48, 3), (4, .aload_n 0, 1), (5, .getfield 14, 3), (8, .invokevirtual 402, 3), (11, .aload_n 0, 1), (12, .getfield 51, 3), (15, .aload_n 0, 1), (16, .getfield 18, 3), (19, .invokevirtual 402, 3), (22, .aload_n 0, 1), (23, .getfield 21, 3), (26, .invokevirtual 65, 3), (29, .iconst 1, 1), (30, .isub, 1), (31, .istore_n 1, 1), (32, .iload_n 1, 1), (33, .ifCond .lt 47, 3), (36, .aload_n 0, 1), (37, .getfield 21, 3), (40, .iload_n 1, 1), (41, .invokevirtual 144, 3), (44, .istore_n 2, 1), (45, .iload_n 2, 1), (46, .invokestatic 116, 3), (49, .ifCond .ne 10, 3), (52, .aload_n 0, 1), (53, .getfield 48, 3), (56, .goto 7, 3), (59, .aload_n 0, 1), (60, .getfield 51, 3), (63, .astore_n 3, 1), (64, .aload_n 3, 1), (65, .iload_n 2, 1), (66, .invokestatic 406, 3), (69, .ifCond .ne 5, 3), (72, .iconst 0, 1), (73, .ireturn, 1), (74, .iinc 1 (-1), 3), (77, .goto (-45), 3)]
theorem vq_cX3_isUndoneOnPaper_0 : vl_ok cX3_isUndoneOnPaper vl_cX3_isUndoneOnPaper_0 = true := by decide +kernel
theorem dX3_isUndoneOnPaper_0 : decode cX3_isUndoneOnPaper 0 = .ok (.aload_n 0, 1) := vl_at vq_cX3_isUndoneOnPaper_0 (i := 0) rfl
theorem dX3_isUndoneOnPaper_1 : decode cX3_isUndoneOnPaper 1 = .ok (.getfield 48, 3) := vl_at vq_cX3_isUndoneOnPaper_0 (i := 1) rfl
theorem dX3_isUndoneOnPaper_4 : decode cX3_isUndoneOnPaper 4 = .ok (.aload_n 0, 1) := vl_at vq_cX3_isUndoneOnPaper_0 (i := 2) rfl
theorem dX3_isUndoneOnPaper_5 : decode cX3_isUndoneOnPaper 5 = .ok (.getfield 14, 3) := vl_at vq_cX3_isUndoneOnPaper_0 (i := 3) rfl
theorem dX3_isUndoneOnPaper_8 : decode cX3_isUndoneOnPaper 8 = .ok (.invokevirtual 402, 3) := vl_at vq_cX3_isUndoneOnPaper_0 (i := 4) rfl
theorem dX3_isUndoneOnPaper_11 : decode cX3_isUndoneOnPaper 11 = .ok (.aload_n 0, 1) := vl_at vq_cX3_isUndoneOnPaper_0 (i := 5) rfl
theorem dX3_isUndoneOnPaper_12 : decode cX3_isUndoneOnPaper 12 = .ok (.getfield 51, 3) := vl_at vq_cX3_isUndoneOnPaper_0 (i := 6) rfl
theorem dX3_isUndoneOnPaper_15 : decode cX3_isUndoneOnPaper 15 = .ok (.aload_n 0, 1) := vl_at vq_cX3_isUndoneOnPaper_0 (i := 7) rfl
theorem dX3_isUndoneOnPaper_16 : decode cX3_isUndoneOnPaper 16 = .ok (.getfield 18, 3) := vl_at vq_cX3_isUndoneOnPaper_0 (i := 8) rfl
theorem dX3_isUndoneOnPaper_19 : decode cX3_isUndoneOnPaper 19 = .ok (.invokevirtual 402, 3) := vl_at vq_cX3_isUndoneOnPaper_0 (i := 9) rfl
theorem dX3_isUndoneOnPaper_22 : decode cX3_isUndoneOnPaper 22 = .ok (.aload_n 0, 1) := vl_at vq_cX3_isUndoneOnPaper_0 (i := 10) rfl
theorem dX3_isUndoneOnPaper_23 : decode cX3_isUndoneOnPaper 23 = .ok (.getfield 21, 3) := vl_at vq_cX3_isUndoneOnPaper_0 (i := 11) rfl
theorem dX3_isUndoneOnPaper_26 : decode cX3_isUndoneOnPaper 26 = .ok (.invokevirtual 65, 3) := vl_at vq_cX3_isUndoneOnPaper_0 (i := 12) rfl
theorem dX3_isUndoneOnPaper_29 : decode cX3_isUndoneOnPaper 29 = .ok (.iconst 1, 1) := vl_at vq_cX3_isUndoneOnPaper_0 (i := 13) rfl
theorem dX3_isUndoneOnPaper_30 : decode cX3_isUndoneOnPaper 30 = .ok (.isub, 1) := vl_at vq_cX3_isUndoneOnPaper_0 (i := 14) rfl
theorem dX3_isUndoneOnPaper_31 : decode cX3_isUndoneOnPaper 31 = .ok (.istore_n 1, 1) := vl_at vq_cX3_isUndoneOnPaper_0 (i := 15) rfl
theorem dX3_isUndoneOnPaper_32 : decode cX3_isUndoneOnPaper 32 = .ok (.iload_n 1, 1) := vl_at vq_cX3_isUndoneOnPaper_0 (i := 16) rfl
theorem dX3_isUndoneOnPaper_33 : decode cX3_isUndoneOnPaper 33 = .ok (.ifCond .lt 47, 3) := vl_at vq_cX3_isUndoneOnPaper_0 (i := 17) rfl
theorem dX3_isUndoneOnPaper_36 : decode cX3_isUndoneOnPaper 36 = .ok (.aload_n 0, 1) := vl_at vq_cX3_isUndoneOnPaper_0 (i := 18) rfl
theorem dX3_isUndoneOnPaper_37 : decode cX3_isUndoneOnPaper 37 = .ok (.getfield 21, 3) := vl_at vq_cX3_isUndoneOnPaper_0 (i := 19) rfl
theorem dX3_isUndoneOnPaper_40 : decode cX3_isUndoneOnPaper 40 = .ok (.iload_n 1, 1) := vl_at vq_cX3_isUndoneOnPaper_0 (i := 20) rfl
theorem dX3_isUndoneOnPaper_41 : decode cX3_isUndoneOnPaper 41 = .ok (.invokevirtual 144, 3) := vl_at vq_cX3_isUndoneOnPaper_0 (i := 21) rfl
theorem dX3_isUndoneOnPaper_44 : decode cX3_isUndoneOnPaper 44 = .ok (.istore_n 2, 1) := vl_at vq_cX3_isUndoneOnPaper_0 (i := 22) rfl
theorem dX3_isUndoneOnPaper_45 : decode cX3_isUndoneOnPaper 45 = .ok (.iload_n 2, 1) := vl_at vq_cX3_isUndoneOnPaper_0 (i := 23) rfl
theorem dX3_isUndoneOnPaper_46 : decode cX3_isUndoneOnPaper 46 = .ok (.invokestatic 116, 3) := vl_at vq_cX3_isUndoneOnPaper_0 (i := 24) rfl
theorem dX3_isUndoneOnPaper_49 : decode cX3_isUndoneOnPaper 49 = .ok (.ifCond .ne 10, 3) := vl_at vq_cX3_isUndoneOnPaper_0 (i := 25) rfl
theorem dX3_isUndoneOnPaper_52 : decode cX3_isUndoneOnPaper 52 = .ok (.aload_n 0, 1) := vl_at vq_cX3_isUndoneOnPaper_0 (i := 26) rfl
theorem dX3_isUndoneOnPaper_53 : decode cX3_isUndoneOnPaper 53 = .ok (.getfield 48, 3) := vl_at vq_cX3_isUndoneOnPaper_0 (i := 27) rfl
theorem dX3_isUndoneOnPaper_56 : decode cX3_isUndoneOnPaper 56 = .ok (.goto 7, 3) := vl_at vq_cX3_isUndoneOnPaper_0 (i := 28) rfl
theorem dX3_isUndoneOnPaper_59 : decode cX3_isUndoneOnPaper 59 = .ok (.aload_n 0, 1) := vl_at vq_cX3_isUndoneOnPaper_0 (i := 29) rfl
theorem dX3_isUndoneOnPaper_60 : decode cX3_isUndoneOnPaper 60 = .ok (.getfield 51, 3) := vl_at vq_cX3_isUndoneOnPaper_0 (i := 30) rfl
theorem dX3_isUndoneOnPaper_63 : decode cX3_isUndoneOnPaper 63 = .ok (.astore_n 3, 1) := vl_at vq_cX3_isUndoneOnPaper_0 (i := 31) rfl
theorem dX3_isUndoneOnPaper_64 : decode cX3_isUndoneOnPaper 64 = .ok (.aload_n 3, 1) := vl_at vq_cX3_isUndoneOnPaper_0 (i := 32) rfl
theorem dX3_isUndoneOnPaper_65 : decode cX3_isUndoneOnPaper 65 = .ok (.iload_n 2, 1) := vl_at vq_cX3_isUndoneOnPaper_0 (i := 33) rfl
theorem dX3_isUndoneOnPaper_66 : decode cX3_isUndoneOnPaper 66 = .ok (.invokestatic 406, 3) := vl_at vq_cX3_isUndoneOnPaper_0 (i := 34) rfl
theorem dX3_isUndoneOnPaper_69 : decode cX3_isUndoneOnPaper 69 = .ok (.ifCond .ne 5, 3) := vl_at vq_cX3_isUndoneOnPaper_0 (i := 35) rfl
theorem dX3_isUndoneOnPaper_72 : decode cX3_isUndoneOnPaper 72 = .ok (.iconst 0, 1) := vl_at vq_cX3_isUndoneOnPaper_0 (i := 36) rfl
theorem dX3_isUndoneOnPaper_73 : decode cX3_isUndoneOnPaper 73 = .ok (.ireturn, 1) := vl_at vq_cX3_isUndoneOnPaper_0 (i := 37) rfl
theorem dX3_isUndoneOnPaper_74 : decode cX3_isUndoneOnPaper 74 = .ok (.iinc 1 (-1), 3) := vl_at vq_cX3_isUndoneOnPaper_0 (i := 38) rfl
theorem dX3_isUndoneOnPaper_77 : decode cX3_isUndoneOnPaper 77 = .ok (.goto (-45), 3) := vl_at vq_cX3_isUndoneOnPaper_0 (i := 39) rfl
noncomputable def vl_cX3_isUndoneOnPaper_1 : List (Nat × Instr × Nat) := [(80, .iconst 1, 1), (81, .ireturn, 1)]
theorem vq_cX3_isUndoneOnPaper_1 : vl_ok cX3_isUndoneOnPaper vl_cX3_isUndoneOnPaper_1 = true := by decide +kernel
theorem dX3_isUndoneOnPaper_80 : decode cX3_isUndoneOnPaper 80 = .ok (.iconst 1, 1) := vl_at vq_cX3_isUndoneOnPaper_1 (i := 0) rfl
theorem dX3_isUndoneOnPaper_81 : decode cX3_isUndoneOnPaper 81 = .ok (.ireturn, 1) := vl_at vq_cX3_isUndoneOnPaper_1 (i := 1) rfl
noncomputable def vl_cX3_isUndoneOn_0 : List (Nat × Instr × Nat) := [(0, .iload_n 1, 1), (1, .invokestatic 123, 3), (4, .istore_n 2, 1), (5, .iload_n 1, 1), (6, .invokestatic 119, 3), (9, .ifCond .eq 32, 3), (12, .aload_n 0, 1), (13, .invokevirtual 96, 3), (16, .ifCond .ne 23, 3), (19, .aload_n 0, 1), (20, .aload_n 0, 1), (21, .iload_n 2, 1), (22, .invokevirtual 109, 3), (25, .invokevirtual 113, 3), (28, .iload_n 1, 1), (29, .invokestatic 126, 3), (32, .if_icmp .ne 7, 3), (35, .iconst 1, 1), (36, .goto 4, 3), (39, .iconst 0, 1), (40, .ireturn, 1), (41, .aload_n 0, 1), (42, .invokevirtual 248, 3), (45, .ifCond .eq 5, 3), (48, .iconst 0, 1), (49, .ireturn, 1), (50, .aload_n 0, 1), (51, .iload_n 2, 1), (52, .ifCond .eq 10, 3), (55, .aload_n 0, 1), (56, .invokevirtual 65, 3), (59, .goto 4, 3), (62, .iconst 0, 1), (63, .iload_n 1, 1), (64, .invokestatic 126, 3), (67, .invokevirtual 129, 3), (70, .iconst 1, 1), (71, .ireturn, 1)]
theorem vq_cX3_isUndoneOn_0 : vl_ok cX3_isUndoneOn vl_cX3_isUndoneOn_0 = true := by decide +kernel
theorem dX3_isUndoneOn_0 : decode cX3_isUndoneOn 0 = .ok (.iload_n 1, 1) := vl_at vq_cX3_isUndoneOn_0 (i := 0) rfl
theorem dX3_isUndoneOn_1 : decode cX3_isUndoneOn 1 = .ok (.invokestatic 123, 3) := vl_at vq_cX3_isUndoneOn_0 (i := 1) rfl
theorem dX3_isUndoneOn_4 : decode cX3_isUndoneOn 4 = .ok (.istore_n 2, 1) := vl_at vq_cX3_isUndoneOn_0 (i := 2) rfl
theorem dX3_isUndoneOn_5 : decode cX3_isUndoneOn 5 = .ok (.iload_n 1, 1) := vl_at vq_cX3_isUndoneOn_0 (i := 3) rfl
theorem dX3_isUndoneOn_6 : decode cX3_isUndoneOn 6 = .ok (.invokestatic 119, 3) := vl_at vq_cX3_isUndoneOn_0 (i := 4) rfl
theorem dX3_isUndoneOn_9 : decode cX3_isUndoneOn 9 = .ok (.ifCond .eq 32, 3) := vl_at vq_cX3_isUndoneOn_0 (i := 5) rfl
theorem dX3_isUndoneOn_12 : decode cX3_isUndoneOn 12 = .ok (.aload_n 0, 1) := vl_at vq_cX3_isUndoneOn_0 (i := 6) rfl
theorem dX3_isUndoneOn_13 : decode cX3_isUndoneOn 13 = .ok (.invokevirtual 96, 3) := vl_at vq_cX3_isUndoneOn_0 (i := 7) rfl
theorem dX3_isUndoneOn_16 : decode cX3_isUndoneOn 16 = .ok (.ifCond .ne 23, 3) := vl_at vq_cX3_isUndoneOn_0 (i := 8) rfl
theorem dX3_isUndoneOn_19 : decode cX3_isUndoneOn 19 = .ok (.aload_n 0, 1) := vl_at vq_cX3_isUndoneOn_0 (i := 9) rfl
theorem dX3_isUndoneOn_20 : decode cX3_isUndoneOn 20 = .ok (.aload_n 0, 1) := vl_at vq_cX3_isUndoneOn_0 (i := 10) rfl
theorem dX3_isUndoneOn_21 : decode cX3_isUndoneOn 21 = .ok (.iload_n 2, 1) := vl_at vq_cX3_isUndoneOn_0 (i := 11) rfl
theorem dX3_isUndoneOn_22 : decode cX3_isUndoneOn 22 = .ok (.invokevirtual 109, 3) := vl_at vq_cX3_isUndoneOn_0 (i := 12) rfl
theorem dX3_isUndoneOn_25 : decode cX3_isUndoneOn 25 = .ok (.invokevirtual 113, 3) := vl_at vq_cX3_isUndoneOn_0 (i := 13) rfl
theorem dX3_isUndoneOn_28 : decode cX3_isUndoneOn 28 = .ok (.iload_n 1, 1) := vl_at vq_cX3_isUndoneOn_0 (i := 14) rfl
theorem dX3_isUndoneOn_29 : decode cX3_isUndoneOn 29 = .ok (.invokestatic 126, 3) := vl_at vq_cX3_isUndoneOn_0 (i := 15) rfl
theorem dX3_isUndoneOn_32 : decode cX3_isUndoneOn 32 = .ok (.if_icmp .ne 7, 3) := vl_at vq_cX3_isUndoneOn_0 (i := 16) rfl
theorem dX3_isUndoneOn_35 : decode cX3_isUndoneOn 35 = .ok (.iconst 1, 1) := vl_at vq_cX3_isUndoneOn_0 (i := 17) rfl
theorem dX3_isUndoneOn_36 : decode cX3_isUndoneOn 36 = .ok (.goto 4, 3) := vl_at vq_cX3_isUndoneOn_0 (i := 18) rfl
theorem dX3_isUndoneOn_39 : decode cX3_isUndoneOn 39 = .ok (.iconst 0, 1) := vl_at vq_cX3_isUndoneOn_0 (i := 19) rfl
theorem dX3_isUndoneOn_40 : decode cX3_isUndoneOn 40 = .ok (.ireturn, 1) := vl_at vq_cX3_isUndoneOn_0 (i := 20) rfl
theorem dX3_isUndoneOn_41 : decode cX3_isUndoneOn 41 = .ok (.aload_n 0, 1) := vl_at vq_cX3_isUndoneOn_0 (i := 21) rfl
theorem dX3_isUndoneOn_42 : decode cX3_isUndoneOn 42 = .ok (.invokevirtual 248, 3) := vl_at vq_cX3_isUndoneOn_0 (i := 22) rfl
theorem dX3_isUndoneOn_45 : decode cX3_isUndoneOn 45 = .ok (.ifCond .eq 5, 3) := vl_at vq_cX3_isUndoneOn_0 (i := 23) rfl
theorem dX3_isUndoneOn_48 : decode cX3_isUndoneOn 48 = .ok (.iconst 0, 1) := vl_at vq_cX3_isUndoneOn_0 (i := 24) rfl
theorem dX3_isUndoneOn_49 : decode cX3_isUndoneOn 49 = .ok (.ireturn, 1) := vl_at vq_cX3_isUndoneOn_0 (i := 25) rfl
theorem dX3_isUndoneOn_50 : decode cX3_isUndoneOn 50 = .ok (.aload_n 0, 1) := vl_at vq_cX3_isUndoneOn_0 (i := 26) rfl
theorem dX3_isUndoneOn_51 : decode cX3_isUndoneOn 51 = .ok (.iload_n 2, 1) := vl_at vq_cX3_isUndoneOn_0 (i := 27) rfl
theorem dX3_isUndoneOn_52 : decode cX3_isUndoneOn 52 = .ok (.ifCond .eq 10, 3) := vl_at vq_cX3_isUndoneOn_0 (i := 28) rfl
theorem dX3_isUndoneOn_55 : decode cX3_isUndoneOn 55 = .ok (.aload_n 0, 1) := vl_at vq_cX3_isUndoneOn_0 (i := 29) rfl
theorem dX3_isUndoneOn_56 : decode cX3_isUndoneOn 56 = .ok (.invokevirtual 65, 3) := vl_at vq_cX3_isUndoneOn_0 (i := 30) rfl
theorem dX3_isUndoneOn_59 : decode cX3_isUndoneOn 59 = .ok (.goto 4, 3) := vl_at vq_cX3_isUndoneOn_0 (i := 31) rfl
theorem dX3_isUndoneOn_62 : decode cX3_isUndoneOn 62 = .ok (.iconst 0, 1) := vl_at vq_cX3_isUndoneOn_0 (i := 32) rfl
theorem dX3_isUndoneOn_63 : decode cX3_isUndoneOn 63 = .ok (.iload_n 1, 1) := vl_at vq_cX3_isUndoneOn_0 (i := 33) rfl
theorem dX3_isUndoneOn_64 : decode cX3_isUndoneOn 64 = .ok (.invokestatic 126, 3) := vl_at vq_cX3_isUndoneOn_0 (i := 34) rfl
theorem dX3_isUndoneOn_67 : decode cX3_isUndoneOn 67 = .ok (.invokevirtual 129, 3) := vl_at vq_cX3_isUndoneOn_0 (i := 35) rfl
theorem dX3_isUndoneOn_70 : decode cX3_isUndoneOn 70 = .ok (.iconst 1, 1) := vl_at vq_cX3_isUndoneOn_0 (i := 36) rfl
theorem dX3_isUndoneOn_71 : decode cX3_isUndoneOn 71 = .ok (.ireturn, 1) := vl_at vq_cX3_isUndoneOn_0 (i := 37) rfl
noncomputable def vl_cX3_with_0 : List (Nat × Instr × Nat) := [(0, .lload_n 0, 1), (1, .ldc2_w 409, 3), (4, .lmul, 1), (5, .iload_n 2, 1), (6, .i2l, 1), (7, .ladd, 1), (8, .lreturn, 1)]
theorem vq_cX3_with_0 : vl_ok cX3_with vl_cX3_with_0 = true := by decide +kernel
theorem dX3_with_0 : decode cX3_with 0 = .ok (.lload_n 0, 1) := vl_at vq_cX3_with_0 (i := 0) rfl
theorem dX3_with_1 : decode cX3_with 1 = .ok (.ldc2_w 409, 3) := vl_at vq_cX3_with_0 (i := 1) rfl
theorem dX3_with_4 : decode cX3_with 4 = .ok (.lmul, 1) := vl_at vq_cX3_with_0 (i := 2) rfl
theorem dX3_with_5 : decode cX3_with 5 = .ok (.iload_n 2, 1) := vl_at vq_cX3_with_0 (i := 3) rfl
theorem dX3_with_6 : decode cX3_with 6 = .ok (.i2l, 1) := vl_at vq_cX3_with_0 (i := 4) rfl
theorem dX3_with_7 : decode cX3_with 7 = .ok (.ladd, 1) := vl_at vq_cX3_with_0 (i := 5) rfl
theorem dX3_with_8 : decode cX3_with 8 = .ok (.lreturn, 1) := vl_at vq_cX3_with_0 (i := 6) rfl
noncomputable def vl_cX3_withTrack_0 : List (Nat × Instr × Nat) := [(0, .lload_n 1, 1), (1, .lstore 4, 2), (3, .iconst 0, 1), (4, .istore 6, 2), (6, .iload 6, 2), (8, .iconst 3, 1), (9, .if_icmp .gt 23, 3), (12, .lload 4, 2), (14, .aload_n 0, 1), (15, .iload_n 3, 1), (16, .iload 6, 2), (18, .invokevirtual 265, 3), (21, .invokestatic 321, 3), (24, .lstore 4, 2), (26, .iinc 6 1, 3), (29, .goto (-23), 3), (32, .iconst 0, 1), (33, .istore 6, 2), (35, .iload 6, 2), (37, .iconst 5, 1), (38, .if_icmp .gt 23, 3), (41, .lload 4, 2), (43, .aload_n 0, 1), (44, .iload_n 3, 1), (45, .iload 6, 2), (47, .invokevirtual 262, 3), (50, .invokestatic 321, 3), (53, .lstore 4, 2), (55, .iinc 6 1, 3), (58, .goto (-23), 3), (61, .aload_n 0, 1), (62, .iload_n 3, 1), (63, .invokevirtual 61, 3), (66, .astore 6, 2), (68, .iconst 0, 1), (69, .istore 7, 2), (71, .iload 7, 2), (73, .aload 6, 2), (75, .invokevirtual 65, 3), (78, .if_icmp .ge 23, 3)]
theorem vq_cX3_withTrack_0 : vl_ok cX3_withTrack vl_cX3_withTrack_0 = true := by decide +kernel
theorem dX3_withTrack_0 : decode cX3_withTrack 0 = .ok (.lload_n 1, 1) := vl_at vq_cX3_withTrack_0 (i := 0) rfl
theorem dX3_withTrack_1 : decode cX3_withTrack 1 = .ok (.lstore 4, 2) := vl_at vq_cX3_withTrack_0 (i := 1) rfl
theorem dX3_withTrack_3 : decode cX3_withTrack 3 = .ok (.iconst 0, 1) := vl_at vq_cX3_withTrack_0 (i := 2) rfl
theorem dX3_withTrack_4 : decode cX3_withTrack 4 = .ok (.istore 6, 2) := vl_at vq_cX3_withTrack_0 (i := 3) rfl
theorem dX3_withTrack_6 : decode cX3_withTrack 6 = .ok (.iload 6, 2) := vl_at vq_cX3_withTrack_0 (i := 4) rfl
theorem dX3_withTrack_8 : decode cX3_withTrack 8 = .ok (.iconst 3, 1) := vl_at vq_cX3_withTrack_0 (i := 5) rfl
theorem dX3_withTrack_9 : decode cX3_withTrack 9 = .ok (.if_icmp .gt 23, 3) := vl_at vq_cX3_withTrack_0 (i := 6) rfl
theorem dX3_withTrack_12 : decode cX3_withTrack 12 = .ok (.lload 4, 2) := vl_at vq_cX3_withTrack_0 (i := 7) rfl
theorem dX3_withTrack_14 : decode cX3_withTrack 14 = .ok (.aload_n 0, 1) := vl_at vq_cX3_withTrack_0 (i := 8) rfl
theorem dX3_withTrack_15 : decode cX3_withTrack 15 = .ok (.iload_n 3, 1) := vl_at vq_cX3_withTrack_0 (i := 9) rfl
theorem dX3_withTrack_16 : decode cX3_withTrack 16 = .ok (.iload 6, 2) := vl_at vq_cX3_withTrack_0 (i := 10) rfl
theorem dX3_withTrack_18 : decode cX3_withTrack 18 = .ok (.invokevirtual 265, 3) := vl_at vq_cX3_withTrack_0 (i := 11) rfl
theorem dX3_withTrack_21 : decode cX3_withTrack 21 = .ok (.invokestatic 321, 3) := vl_at vq_cX3_withTrack_0 (i := 12) rfl
theorem dX3_withTrack_24 : decode cX3_withTrack 24 = .ok (.lstore 4, 2) := vl_at vq_cX3_withTrack_0 (i := 13) rfl
theorem dX3_withTrack_26 : decode cX3_withTrack 26 = .ok (.iinc 6 1, 3) := vl_at vq_cX3_withTrack_0 (i := 14) rfl
theorem dX3_withTrack_29 : decode cX3_withTrack 29 = .ok (.goto (-23), 3) := vl_at vq_cX3_withTrack_0 (i := 15) rfl
theorem dX3_withTrack_32 : decode cX3_withTrack 32 = .ok (.iconst 0, 1) := vl_at vq_cX3_withTrack_0 (i := 16) rfl
theorem dX3_withTrack_33 : decode cX3_withTrack 33 = .ok (.istore 6, 2) := vl_at vq_cX3_withTrack_0 (i := 17) rfl
theorem dX3_withTrack_35 : decode cX3_withTrack 35 = .ok (.iload 6, 2) := vl_at vq_cX3_withTrack_0 (i := 18) rfl
theorem dX3_withTrack_37 : decode cX3_withTrack 37 = .ok (.iconst 5, 1) := vl_at vq_cX3_withTrack_0 (i := 19) rfl
theorem dX3_withTrack_38 : decode cX3_withTrack 38 = .ok (.if_icmp .gt 23, 3) := vl_at vq_cX3_withTrack_0 (i := 20) rfl
theorem dX3_withTrack_41 : decode cX3_withTrack 41 = .ok (.lload 4, 2) := vl_at vq_cX3_withTrack_0 (i := 21) rfl
theorem dX3_withTrack_43 : decode cX3_withTrack 43 = .ok (.aload_n 0, 1) := vl_at vq_cX3_withTrack_0 (i := 22) rfl
theorem dX3_withTrack_44 : decode cX3_withTrack 44 = .ok (.iload_n 3, 1) := vl_at vq_cX3_withTrack_0 (i := 23) rfl
theorem dX3_withTrack_45 : decode cX3_withTrack 45 = .ok (.iload 6, 2) := vl_at vq_cX3_withTrack_0 (i := 24) rfl
theorem dX3_withTrack_47 : decode cX3_withTrack 47 = .ok (.invokevirtual 262, 3) := vl_at vq_cX3_withTrack_0 (i := 25) rfl
theorem dX3_withTrack_50 : decode cX3_withTrack 50 = .ok (.invokestatic 321, 3) := vl_at vq_cX3_withTrack_0 (i := 26) rfl
theorem dX3_withTrack_53 : decode cX3_withTrack 53 = .ok (.lstore 4, 2) := vl_at vq_cX3_withTrack_0 (i := 27) rfl
theorem dX3_withTrack_55 : decode cX3_withTrack 55 = .ok (.iinc 6 1, 3) := vl_at vq_cX3_withTrack_0 (i := 28) rfl
theorem dX3_withTrack_58 : decode cX3_withTrack 58 = .ok (.goto (-23), 3) := vl_at vq_cX3_withTrack_0 (i := 29) rfl
theorem dX3_withTrack_61 : decode cX3_withTrack 61 = .ok (.aload_n 0, 1) := vl_at vq_cX3_withTrack_0 (i := 30) rfl
theorem dX3_withTrack_62 : decode cX3_withTrack 62 = .ok (.iload_n 3, 1) := vl_at vq_cX3_withTrack_0 (i := 31) rfl
theorem dX3_withTrack_63 : decode cX3_withTrack 63 = .ok (.invokevirtual 61, 3) := vl_at vq_cX3_withTrack_0 (i := 32) rfl
theorem dX3_withTrack_66 : decode cX3_withTrack 66 = .ok (.astore 6, 2) := vl_at vq_cX3_withTrack_0 (i := 33) rfl
theorem dX3_withTrack_68 : decode cX3_withTrack 68 = .ok (.iconst 0, 1) := vl_at vq_cX3_withTrack_0 (i := 34) rfl
theorem dX3_withTrack_69 : decode cX3_withTrack 69 = .ok (.istore 7, 2) := vl_at vq_cX3_withTrack_0 (i := 35) rfl
theorem dX3_withTrack_71 : decode cX3_withTrack 71 = .ok (.iload 7, 2) := vl_at vq_cX3_withTrack_0 (i := 36) rfl
theorem dX3_withTrack_73 : decode cX3_withTrack 73 = .ok (.aload 6, 2) := vl_at vq_cX3_withTrack_0 (i := 37) rfl
theorem dX3_withTrack_75 : decode cX3_withTrack 75 = .ok (.invokevirtual 65, 3) := vl_at vq_cX3_withTrack_0 (i := 38) rfl
theorem dX3_withTrack_78 : decode cX3_withTrack 78 = .ok (.if_icmp .ge 23, 3) := vl_at vq_cX3_withTrack_0 (i := 39) rfl
noncomputable def vl_cX3_withTrack_1 : List (Nat × Instr × Nat) := [(81, .lload 4, 2), (83, .aload 6, 2), (85, .iload 7, 2), (87, .invokevirtual 144, 3), (90, .invokestatic 321, 3), (93, .lstore 4, 2), (95, .iinc 7 1, 3), (98, .goto (-27), 3), (101, .lload 4, 2), (103, .aload 6, 2), (105, .invokestatic 411, 3), (108, .invokestatic 321, 3), (111, .lstore 4, 2), (113, .lload 4, 2), (115, .aload_n 0, 1), (116, .iload_n 3, 1), (117, .invokevirtual 292, 3), (120, .invokestatic 321, 3), (123, .lreturn, 1)]
theorem vq_cX3_withTrack_1 : vl_ok cX3_withTrack vl_cX3_withTrack_1 = true := by decide +kernel
theorem dX3_withTrack_81 : decode cX3_withTrack 81 = .ok (.lload 4, 2) := vl_at vq_cX3_withTrack_1 (i := 0) rfl
theorem dX3_withTrack_83 : decode cX3_withTrack 83 = .ok (.aload 6, 2) := vl_at vq_cX3_withTrack_1 (i := 1) rfl
theorem dX3_withTrack_85 : decode cX3_withTrack 85 = .ok (.iload 7, 2) := vl_at vq_cX3_withTrack_1 (i := 2) rfl
theorem dX3_withTrack_87 : decode cX3_withTrack 87 = .ok (.invokevirtual 144, 3) := vl_at vq_cX3_withTrack_1 (i := 3) rfl
theorem dX3_withTrack_90 : decode cX3_withTrack 90 = .ok (.invokestatic 321, 3) := vl_at vq_cX3_withTrack_1 (i := 4) rfl
theorem dX3_withTrack_93 : decode cX3_withTrack 93 = .ok (.lstore 4, 2) := vl_at vq_cX3_withTrack_1 (i := 5) rfl
theorem dX3_withTrack_95 : decode cX3_withTrack 95 = .ok (.iinc 7 1, 3) := vl_at vq_cX3_withTrack_1 (i := 6) rfl
theorem dX3_withTrack_98 : decode cX3_withTrack 98 = .ok (.goto (-27), 3) := vl_at vq_cX3_withTrack_1 (i := 7) rfl
theorem dX3_withTrack_101 : decode cX3_withTrack 101 = .ok (.lload 4, 2) := vl_at vq_cX3_withTrack_1 (i := 8) rfl
theorem dX3_withTrack_103 : decode cX3_withTrack 103 = .ok (.aload 6, 2) := vl_at vq_cX3_withTrack_1 (i := 9) rfl
theorem dX3_withTrack_105 : decode cX3_withTrack 105 = .ok (.invokestatic 411, 3) := vl_at vq_cX3_withTrack_1 (i := 10) rfl
theorem dX3_withTrack_108 : decode cX3_withTrack 108 = .ok (.invokestatic 321, 3) := vl_at vq_cX3_withTrack_1 (i := 11) rfl
theorem dX3_withTrack_111 : decode cX3_withTrack 111 = .ok (.lstore 4, 2) := vl_at vq_cX3_withTrack_1 (i := 12) rfl
theorem dX3_withTrack_113 : decode cX3_withTrack 113 = .ok (.lload 4, 2) := vl_at vq_cX3_withTrack_1 (i := 13) rfl
theorem dX3_withTrack_115 : decode cX3_withTrack 115 = .ok (.aload_n 0, 1) := vl_at vq_cX3_withTrack_1 (i := 14) rfl
theorem dX3_withTrack_116 : decode cX3_withTrack 116 = .ok (.iload_n 3, 1) := vl_at vq_cX3_withTrack_1 (i := 15) rfl
theorem dX3_withTrack_117 : decode cX3_withTrack 117 = .ok (.invokevirtual 292, 3) := vl_at vq_cX3_withTrack_1 (i := 16) rfl
theorem dX3_withTrack_120 : decode cX3_withTrack 120 = .ok (.invokestatic 321, 3) := vl_at vq_cX3_withTrack_1 (i := 17) rfl
theorem dX3_withTrack_123 : decode cX3_withTrack 123 = .ok (.lreturn, 1) := vl_at vq_cX3_withTrack_1 (i := 18) rfl
noncomputable def vl_cX3_withWalker_0 : List (Nat × Instr × Nat) := [(0, .lload_n 1, 1), (1, .aload_n 0, 1), (2, .iload_n 3, 1), (3, .iconst 0, 1), (4, .invokevirtual 245, 3), (7, .invokestatic 321, 3), (10, .lstore 4, 2), (12, .aload_n 0, 1), (13, .iload_n 3, 1), (14, .invokevirtual 203, 3), (17, .invokevirtual 213, 3), (20, .ifCond .eq 32, 3), (23, .iconst 1, 1), (24, .istore 6, 2), (26, .iload 6, 2), (28, .iconst 4, 1), (29, .if_icmp .gt 23, 3), (32, .lload 4, 2), (34, .aload_n 0, 1), (35, .iload_n 3, 1), (36, .iload 6, 2), (38, .invokevirtual 245, 3), (41, .invokestatic 321, 3), (44, .lstore 4, 2), (46, .iinc 6 1, 3), (49, .goto (-23), 3), (52, .lload 4, 2), (54, .lreturn, 1)]
theorem vq_cX3_withWalker_0 : vl_ok cX3_withWalker vl_cX3_withWalker_0 = true := by decide +kernel
theorem dX3_withWalker_0 : decode cX3_withWalker 0 = .ok (.lload_n 1, 1) := vl_at vq_cX3_withWalker_0 (i := 0) rfl
theorem dX3_withWalker_1 : decode cX3_withWalker 1 = .ok (.aload_n 0, 1) := vl_at vq_cX3_withWalker_0 (i := 1) rfl
theorem dX3_withWalker_2 : decode cX3_withWalker 2 = .ok (.iload_n 3, 1) := vl_at vq_cX3_withWalker_0 (i := 2) rfl
theorem dX3_withWalker_3 : decode cX3_withWalker 3 = .ok (.iconst 0, 1) := vl_at vq_cX3_withWalker_0 (i := 3) rfl
theorem dX3_withWalker_4 : decode cX3_withWalker 4 = .ok (.invokevirtual 245, 3) := vl_at vq_cX3_withWalker_0 (i := 4) rfl
theorem dX3_withWalker_7 : decode cX3_withWalker 7 = .ok (.invokestatic 321, 3) := vl_at vq_cX3_withWalker_0 (i := 5) rfl
theorem dX3_withWalker_10 : decode cX3_withWalker 10 = .ok (.lstore 4, 2) := vl_at vq_cX3_withWalker_0 (i := 6) rfl
theorem dX3_withWalker_12 : decode cX3_withWalker 12 = .ok (.aload_n 0, 1) := vl_at vq_cX3_withWalker_0 (i := 7) rfl
theorem dX3_withWalker_13 : decode cX3_withWalker 13 = .ok (.iload_n 3, 1) := vl_at vq_cX3_withWalker_0 (i := 8) rfl
theorem dX3_withWalker_14 : decode cX3_withWalker 14 = .ok (.invokevirtual 203, 3) := vl_at vq_cX3_withWalker_0 (i := 9) rfl
theorem dX3_withWalker_17 : decode cX3_withWalker 17 = .ok (.invokevirtual 213, 3) := vl_at vq_cX3_withWalker_0 (i := 10) rfl
theorem dX3_withWalker_20 : decode cX3_withWalker 20 = .ok (.ifCond .eq 32, 3) := vl_at vq_cX3_withWalker_0 (i := 11) rfl
theorem dX3_withWalker_23 : decode cX3_withWalker 23 = .ok (.iconst 1, 1) := vl_at vq_cX3_withWalker_0 (i := 12) rfl
theorem dX3_withWalker_24 : decode cX3_withWalker 24 = .ok (.istore 6, 2) := vl_at vq_cX3_withWalker_0 (i := 13) rfl
theorem dX3_withWalker_26 : decode cX3_withWalker 26 = .ok (.iload 6, 2) := vl_at vq_cX3_withWalker_0 (i := 14) rfl
theorem dX3_withWalker_28 : decode cX3_withWalker 28 = .ok (.iconst 4, 1) := vl_at vq_cX3_withWalker_0 (i := 15) rfl
theorem dX3_withWalker_29 : decode cX3_withWalker 29 = .ok (.if_icmp .gt 23, 3) := vl_at vq_cX3_withWalker_0 (i := 16) rfl
theorem dX3_withWalker_32 : decode cX3_withWalker 32 = .ok (.lload 4, 2) := vl_at vq_cX3_withWalker_0 (i := 17) rfl
theorem dX3_withWalker_34 : decode cX3_withWalker 34 = .ok (.aload_n 0, 1) := vl_at vq_cX3_withWalker_0 (i := 18) rfl
theorem dX3_withWalker_35 : decode cX3_withWalker 35 = .ok (.iload_n 3, 1) := vl_at vq_cX3_withWalker_0 (i := 19) rfl
theorem dX3_withWalker_36 : decode cX3_withWalker 36 = .ok (.iload 6, 2) := vl_at vq_cX3_withWalker_0 (i := 20) rfl
theorem dX3_withWalker_38 : decode cX3_withWalker 38 = .ok (.invokevirtual 245, 3) := vl_at vq_cX3_withWalker_0 (i := 21) rfl
theorem dX3_withWalker_41 : decode cX3_withWalker 41 = .ok (.invokestatic 321, 3) := vl_at vq_cX3_withWalker_0 (i := 22) rfl
theorem dX3_withWalker_44 : decode cX3_withWalker 44 = .ok (.lstore 4, 2) := vl_at vq_cX3_withWalker_0 (i := 23) rfl
theorem dX3_withWalker_46 : decode cX3_withWalker 46 = .ok (.iinc 6 1, 3) := vl_at vq_cX3_withWalker_0 (i := 24) rfl
theorem dX3_withWalker_49 : decode cX3_withWalker 49 = .ok (.goto (-23), 3) := vl_at vq_cX3_withWalker_0 (i := 25) rfl
theorem dX3_withWalker_52 : decode cX3_withWalker 52 = .ok (.lload 4, 2) := vl_at vq_cX3_withWalker_0 (i := 26) rfl
theorem dX3_withWalker_54 : decode cX3_withWalker 54 = .ok (.lreturn, 1) := vl_at vq_cX3_withWalker_0 (i := 27) rfl
