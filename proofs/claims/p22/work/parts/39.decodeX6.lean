noncomputable def vl_cX4_init_0 : List (Nat × Instr × Nat) := [(0, .aload_n 0, 1), (1, .invokespecial 1, 3), (4, .return_, 1)]
theorem vq_cX4_init_0 : vl_ok cX4_init vl_cX4_init_0 = true := by decide +kernel
theorem dX4_init_0 : decode cX4_init 0 = .ok (.aload_n 0, 1) := vl_at vq_cX4_init_0 (i := 0) rfl
theorem dX4_init_1 : decode cX4_init 1 = .ok (.invokespecial 1, 3) := vl_at vq_cX4_init_0 (i := 1) rfl
theorem dX4_init_4 : decode cX4_init 4 = .ok (.return_, 1) := vl_at vq_cX4_init_0 (i := 2) rfl
noncomputable def vl_cX5_init_0 : List (Nat × Instr × Nat) := [(0, .aload_n 0, 1), (1, .invokespecial 3, 3), (4, .aload_n 0, 1), (5, .iconst (-1), 1), (6, .putfield 9, 3), (9, .return_, 1)]
theorem vq_cX5_init_0 : vl_ok cX5_init vl_cX5_init_0 = true := by decide +kernel
theorem dX5_init_0 : decode cX5_init 0 = .ok (.aload_n 0, 1) := vl_at vq_cX5_init_0 (i := 0) rfl
theorem dX5_init_1 : decode cX5_init 1 = .ok (.invokespecial 3, 3) := vl_at vq_cX5_init_0 (i := 1) rfl
theorem dX5_init_4 : decode cX5_init 4 = .ok (.aload_n 0, 1) := vl_at vq_cX5_init_0 (i := 2) rfl
theorem dX5_init_5 : decode cX5_init 5 = .ok (.iconst (-1), 1) := vl_at vq_cX5_init_0 (i := 3) rfl
theorem dX5_init_6 : decode cX5_init 6 = .ok (.putfield 9, 3) := vl_at vq_cX5_init_0 (i := 4) rfl
theorem dX5_init_9 : decode cX5_init 9 = .ok (.return_, 1) := vl_at vq_cX5_init_0 (i := 5) rfl
noncomputable def vl_cX6_isIn_0 : List (Nat × Instr × Nat) := [(0, .iload_n 0, 1), (1, .iload_n 1, 1), (2, .if_icmp .lt 12, 3), (5, .iload_n 0, 1), (6, .iload_n 2, 1), (7, .if_icmp .gt 7, 3), (10, .iconst 1, 1), (11, .goto 4, 3), (14, .iconst 0, 1), (15, .ireturn, 1)]
theorem vq_cX6_isIn_0 : vl_ok cX6_isIn vl_cX6_isIn_0 = true := by decide +kernel
theorem dX6_isIn_0 : decode cX6_isIn 0 = .ok (.iload_n 0, 1) := vl_at vq_cX6_isIn_0 (i := 0) rfl
theorem dX6_isIn_1 : decode cX6_isIn 1 = .ok (.iload_n 1, 1) := vl_at vq_cX6_isIn_0 (i := 1) rfl
theorem dX6_isIn_2 : decode cX6_isIn 2 = .ok (.if_icmp .lt 12, 3) := vl_at vq_cX6_isIn_0 (i := 2) rfl
theorem dX6_isIn_5 : decode cX6_isIn 5 = .ok (.iload_n 0, 1) := vl_at vq_cX6_isIn_0 (i := 3) rfl
theorem dX6_isIn_6 : decode cX6_isIn 6 = .ok (.iload_n 2, 1) := vl_at vq_cX6_isIn_0 (i := 4) rfl
theorem dX6_isIn_7 : decode cX6_isIn 7 = .ok (.if_icmp .gt 7, 3) := vl_at vq_cX6_isIn_0 (i := 5) rfl
theorem dX6_isIn_10 : decode cX6_isIn 10 = .ok (.iconst 1, 1) := vl_at vq_cX6_isIn_0 (i := 6) rfl
theorem dX6_isIn_11 : decode cX6_isIn 11 = .ok (.goto 4, 3) := vl_at vq_cX6_isIn_0 (i := 7) rfl
theorem dX6_isIn_14 : decode cX6_isIn 14 = .ok (.iconst 0, 1) := vl_at vq_cX6_isIn_0 (i := 8) rfl
theorem dX6_isIn_15 : decode cX6_isIn 15 = .ok (.ireturn, 1) := vl_at vq_cX6_isIn_0 (i := 9) rfl
noncomputable def vl_cX6_one_0 : List (Nat × Instr × Nat) := [(0, .iload_n 0, 1), (1, .ifCond .eq 7, 3), (4, .iconst 1, 1), (5, .goto 4, 3), (8, .iconst 0, 1), (9, .ireturn, 1)]
theorem vq_cX6_one_0 : vl_ok cX6_one vl_cX6_one_0 = true := by decide +kernel
theorem dX6_one_0 : decode cX6_one 0 = .ok (.iload_n 0, 1) := vl_at vq_cX6_one_0 (i := 0) rfl
theorem dX6_one_1 : decode cX6_one 1 = .ok (.ifCond .eq 7, 3) := vl_at vq_cX6_one_0 (i := 1) rfl
theorem dX6_one_4 : decode cX6_one 4 = .ok (.iconst 1, 1) := vl_at vq_cX6_one_0 (i := 2) rfl
theorem dX6_one_5 : decode cX6_one 5 = .ok (.goto 4, 3) := vl_at vq_cX6_one_0 (i := 3) rfl
theorem dX6_one_8 : decode cX6_one 8 = .ok (.iconst 0, 1) := vl_at vq_cX6_one_0 (i := 4) rfl
theorem dX6_one_9 : decode cX6_one 9 = .ok (.ireturn, 1) := vl_at vq_cX6_one_0 (i := 5) rfl
noncomputable def vl_cX6_init_0 : List (Nat × Instr × Nat) := [(0, .aload_n 0, 1), (1, .invokespecial 1, 3), (4, .aload_n 0, 1), (5, .new 7, 3), (8, .dup, 1), (9, .invokespecial 9, 3), (12, .putfield 10, 3), (15, .aload_n 0, 1), (16, .new 7, 3), (19, .dup, 1), (20, .invokespecial 9, 3), (23, .putfield 16, 3), (26, .aload_n 0, 1), (27, .new 7, 3), (30, .dup, 1), (31, .invokespecial 9, 3), (34, .putfield 19, 3), (37, .aload_n 0, 1), (38, .iconst 2, 1), (39, .anewarray 22, 3), (42, .dup, 1), (43, .iconst 0, 1), (44, .new 22, 3), (47, .dup, 1), (48, .invokespecial 24, 3), (51, .aastore, 1), (52, .dup, 1), (53, .iconst 1, 1), (54, .new 22, 3), (57, .dup, 1), (58, .invokespecial 24, 3), (61, .aastore, 1), (62, .putfield 25, 3), (65, .aload_n 0, 1), (66, .iconst (-1), 1), (67, .putfield 29, 3), (70, .iconst 0, 1), (71, .istore_n 1, 1), (72, .iload_n 1, 1), (73, .iconst 2, 1)]
theorem vq_cX6_init_0 : vl_ok cX6_init vl_cX6_init_0 = true := by decide +kernel
theorem dX6_init_0 : decode cX6_init 0 = .ok (.aload_n 0, 1) := vl_at vq_cX6_init_0 (i := 0) rfl
theorem dX6_init_1 : decode cX6_init 1 = .ok (.invokespecial 1, 3) := vl_at vq_cX6_init_0 (i := 1) rfl
theorem dX6_init_4 : decode cX6_init 4 = .ok (.aload_n 0, 1) := vl_at vq_cX6_init_0 (i := 2) rfl
theorem dX6_init_5 : decode cX6_init 5 = .ok (.new 7, 3) := vl_at vq_cX6_init_0 (i := 3) rfl
theorem dX6_init_8 : decode cX6_init 8 = .ok (.dup, 1) := vl_at vq_cX6_init_0 (i := 4) rfl
theorem dX6_init_9 : decode cX6_init 9 = .ok (.invokespecial 9, 3) := vl_at vq_cX6_init_0 (i := 5) rfl
theorem dX6_init_12 : decode cX6_init 12 = .ok (.putfield 10, 3) := vl_at vq_cX6_init_0 (i := 6) rfl
theorem dX6_init_15 : decode cX6_init 15 = .ok (.aload_n 0, 1) := vl_at vq_cX6_init_0 (i := 7) rfl
theorem dX6_init_16 : decode cX6_init 16 = .ok (.new 7, 3) := vl_at vq_cX6_init_0 (i := 8) rfl
theorem dX6_init_19 : decode cX6_init 19 = .ok (.dup, 1) := vl_at vq_cX6_init_0 (i := 9) rfl
theorem dX6_init_20 : decode cX6_init 20 = .ok (.invokespecial 9, 3) := vl_at vq_cX6_init_0 (i := 10) rfl
theorem dX6_init_23 : decode cX6_init 23 = .ok (.putfield 16, 3) := vl_at vq_cX6_init_0 (i := 11) rfl
theorem dX6_init_26 : decode cX6_init 26 = .ok (.aload_n 0, 1) := vl_at vq_cX6_init_0 (i := 12) rfl
theorem dX6_init_27 : decode cX6_init 27 = .ok (.new 7, 3) := vl_at vq_cX6_init_0 (i := 13) rfl
theorem dX6_init_30 : decode cX6_init 30 = .ok (.dup, 1) := vl_at vq_cX6_init_0 (i := 14) rfl
theorem dX6_init_31 : decode cX6_init 31 = .ok (.invokespecial 9, 3) := vl_at vq_cX6_init_0 (i := 15) rfl
theorem dX6_init_34 : decode cX6_init 34 = .ok (.putfield 19, 3) := vl_at vq_cX6_init_0 (i := 16) rfl
theorem dX6_init_37 : decode cX6_init 37 = .ok (.aload_n 0, 1) := vl_at vq_cX6_init_0 (i := 17) rfl
theorem dX6_init_38 : decode cX6_init 38 = .ok (.iconst 2, 1) := vl_at vq_cX6_init_0 (i := 18) rfl
theorem dX6_init_39 : decode cX6_init 39 = .ok (.anewarray 22, 3) := vl_at vq_cX6_init_0 (i := 19) rfl
theorem dX6_init_42 : decode cX6_init 42 = .ok (.dup, 1) := vl_at vq_cX6_init_0 (i := 20) rfl
theorem dX6_init_43 : decode cX6_init 43 = .ok (.iconst 0, 1) := vl_at vq_cX6_init_0 (i := 21) rfl
theorem dX6_init_44 : decode cX6_init 44 = .ok (.new 22, 3) := vl_at vq_cX6_init_0 (i := 22) rfl
theorem dX6_init_47 : decode cX6_init 47 = .ok (.dup, 1) := vl_at vq_cX6_init_0 (i := 23) rfl
theorem dX6_init_48 : decode cX6_init 48 = .ok (.invokespecial 24, 3) := vl_at vq_cX6_init_0 (i := 24) rfl
theorem dX6_init_51 : decode cX6_init 51 = .ok (.aastore, 1) := vl_at vq_cX6_init_0 (i := 25) rfl
theorem dX6_init_52 : decode cX6_init 52 = .ok (.dup, 1) := vl_at vq_cX6_init_0 (i := 26) rfl
theorem dX6_init_53 : decode cX6_init 53 = .ok (.iconst 1, 1) := vl_at vq_cX6_init_0 (i := 27) rfl
theorem dX6_init_54 : decode cX6_init 54 = .ok (.new 22, 3) := vl_at vq_cX6_init_0 (i := 28) rfl
theorem dX6_init_57 : decode cX6_init 57 = .ok (.dup, 1) := vl_at vq_cX6_init_0 (i := 29) rfl
theorem dX6_init_58 : decode cX6_init 58 = .ok (.invokespecial 24, 3) := vl_at vq_cX6_init_0 (i := 30) rfl
theorem dX6_init_61 : decode cX6_init 61 = .ok (.aastore, 1) := vl_at vq_cX6_init_0 (i := 31) rfl
theorem dX6_init_62 : decode cX6_init 62 = .ok (.putfield 25, 3) := vl_at vq_cX6_init_0 (i := 32) rfl
theorem dX6_init_65 : decode cX6_init 65 = .ok (.aload_n 0, 1) := vl_at vq_cX6_init_0 (i := 33) rfl
theorem dX6_init_66 : decode cX6_init 66 = .ok (.iconst (-1), 1) := vl_at vq_cX6_init_0 (i := 34) rfl
theorem dX6_init_67 : decode cX6_init 67 = .ok (.putfield 29, 3) := vl_at vq_cX6_init_0 (i := 35) rfl
theorem dX6_init_70 : decode cX6_init 70 = .ok (.iconst 0, 1) := vl_at vq_cX6_init_0 (i := 36) rfl
theorem dX6_init_71 : decode cX6_init 71 = .ok (.istore_n 1, 1) := vl_at vq_cX6_init_0 (i := 37) rfl
theorem dX6_init_72 : decode cX6_init 72 = .ok (.iload_n 1, 1) := vl_at vq_cX6_init_0 (i := 38) rfl
theorem dX6_init_73 : decode cX6_init 73 = .ok (.iconst 2, 1) := vl_at vq_cX6_init_0 (i := 39) rfl
noncomputable def vl_cX6_init_1 : List (Nat × Instr × Nat) := [(74, .if_icmp .ge 24, 3), (77, .aload_n 0, 1), (78, .getfield 10, 3), (81, .new 7, 3), (84, .dup, 1), (85, .invokespecial 9, 3), (88, .invokevirtual 33, 3), (91, .pop, 1), (92, .iinc 1 1, 3), (95, .goto (-23), 3), (98, .return_, 1)]
theorem vq_cX6_init_1 : vl_ok cX6_init vl_cX6_init_1 = true := by decide +kernel
theorem dX6_init_74 : decode cX6_init 74 = .ok (.if_icmp .ge 24, 3) := vl_at vq_cX6_init_1 (i := 0) rfl
theorem dX6_init_77 : decode cX6_init 77 = .ok (.aload_n 0, 1) := vl_at vq_cX6_init_1 (i := 1) rfl
theorem dX6_init_78 : decode cX6_init 78 = .ok (.getfield 10, 3) := vl_at vq_cX6_init_1 (i := 2) rfl
theorem dX6_init_81 : decode cX6_init 81 = .ok (.new 7, 3) := vl_at vq_cX6_init_1 (i := 3) rfl
theorem dX6_init_84 : decode cX6_init 84 = .ok (.dup, 1) := vl_at vq_cX6_init_1 (i := 4) rfl
theorem dX6_init_85 : decode cX6_init 85 = .ok (.invokespecial 9, 3) := vl_at vq_cX6_init_1 (i := 5) rfl
theorem dX6_init_88 : decode cX6_init 88 = .ok (.invokevirtual 33, 3) := vl_at vq_cX6_init_1 (i := 6) rfl
theorem dX6_init_91 : decode cX6_init 91 = .ok (.pop, 1) := vl_at vq_cX6_init_1 (i := 7) rfl
theorem dX6_init_92 : decode cX6_init 92 = .ok (.iinc 1 1, 3) := vl_at vq_cX6_init_1 (i := 8) rfl
theorem dX6_init_95 : decode cX6_init 95 = .ok (.goto (-23), 3) := vl_at vq_cX6_init_1 (i := 9) rfl
theorem dX6_init_98 : decode cX6_init 98 = .ok (.return_, 1) := vl_at vq_cX6_init_1 (i := 10) rfl
noncomputable def vl_cX6_thrown_0 : List (Nat × Instr × Nat) := [(0, .aload_n 0, 1), (1, .getfield 37, 3), (4, .ireturn, 1)]
theorem vq_cX6_thrown_0 : vl_ok cX6_thrown vl_cX6_thrown_0 = true := by decide +kernel
theorem dX6_thrown_0 : decode cX6_thrown 0 = .ok (.aload_n 0, 1) := vl_at vq_cX6_thrown_0 (i := 0) rfl
theorem dX6_thrown_1 : decode cX6_thrown 1 = .ok (.getfield 37, 3) := vl_at vq_cX6_thrown_0 (i := 1) rfl
theorem dX6_thrown_4 : decode cX6_thrown 4 = .ok (.ireturn, 1) := vl_at vq_cX6_thrown_0 (i := 2) rfl
noncomputable def vl_cX6_refuse_0 : List (Nat × Instr × Nat) := [(0, .iload_n 1, 1), (1, .ifCond .eq 15, 3), (4, .aload_n 0, 1), (5, .getfield 37, 3), (8, .ifCond .ne 8, 3), (11, .aload_n 0, 1), (12, .iload_n 2, 1), (13, .putfield 37, 3), (16, .aload_n 0, 1), (17, .getfield 37, 3), (20, .ifCond .le 7, 3), (23, .iconst 1, 1), (24, .goto 4, 3), (27, .iconst 0, 1), (28, .ireturn, 1)]
theorem vq_cX6_refuse_0 : vl_ok cX6_refuse vl_cX6_refuse_0 = true := by decide +kernel
theorem dX6_refuse_0 : decode cX6_refuse 0 = .ok (.iload_n 1, 1) := vl_at vq_cX6_refuse_0 (i := 0) rfl
theorem dX6_refuse_1 : decode cX6_refuse 1 = .ok (.ifCond .eq 15, 3) := vl_at vq_cX6_refuse_0 (i := 1) rfl
theorem dX6_refuse_4 : decode cX6_refuse 4 = .ok (.aload_n 0, 1) := vl_at vq_cX6_refuse_0 (i := 2) rfl
theorem dX6_refuse_5 : decode cX6_refuse 5 = .ok (.getfield 37, 3) := vl_at vq_cX6_refuse_0 (i := 3) rfl
theorem dX6_refuse_8 : decode cX6_refuse 8 = .ok (.ifCond .ne 8, 3) := vl_at vq_cX6_refuse_0 (i := 4) rfl
theorem dX6_refuse_11 : decode cX6_refuse 11 = .ok (.aload_n 0, 1) := vl_at vq_cX6_refuse_0 (i := 5) rfl
theorem dX6_refuse_12 : decode cX6_refuse 12 = .ok (.iload_n 2, 1) := vl_at vq_cX6_refuse_0 (i := 6) rfl
theorem dX6_refuse_13 : decode cX6_refuse 13 = .ok (.putfield 37, 3) := vl_at vq_cX6_refuse_0 (i := 7) rfl
theorem dX6_refuse_16 : decode cX6_refuse 16 = .ok (.aload_n 0, 1) := vl_at vq_cX6_refuse_0 (i := 8) rfl
theorem dX6_refuse_17 : decode cX6_refuse 17 = .ok (.getfield 37, 3) := vl_at vq_cX6_refuse_0 (i := 9) rfl
theorem dX6_refuse_20 : decode cX6_refuse 20 = .ok (.ifCond .le 7, 3) := vl_at vq_cX6_refuse_0 (i := 10) rfl
theorem dX6_refuse_23 : decode cX6_refuse 23 = .ok (.iconst 1, 1) := vl_at vq_cX6_refuse_0 (i := 11) rfl
theorem dX6_refuse_24 : decode cX6_refuse 24 = .ok (.goto 4, 3) := vl_at vq_cX6_refuse_0 (i := 12) rfl
theorem dX6_refuse_27 : decode cX6_refuse 27 = .ok (.iconst 0, 1) := vl_at vq_cX6_refuse_0 (i := 13) rfl
theorem dX6_refuse_28 : decode cX6_refuse 28 = .ok (.ireturn, 1) := vl_at vq_cX6_refuse_0 (i := 14) rfl
noncomputable def vl_cX6_start_0 : List (Nat × Instr × Nat) := [(0, .aload_n 0, 1), (1, .iconst 0, 1), (2, .putfield 37, 3), (5, .aload_n 0, 1), (6, .iload_n 1, 1), (7, .iload_n 2, 1), (8, .invokevirtual 40, 3), (11, .ireturn, 1)]
theorem vq_cX6_start_0 : vl_ok cX6_start vl_cX6_start_0 = true := by decide +kernel
theorem dX6_start_0 : decode cX6_start 0 = .ok (.aload_n 0, 1) := vl_at vq_cX6_start_0 (i := 0) rfl
theorem dX6_start_1 : decode cX6_start 1 = .ok (.iconst 0, 1) := vl_at vq_cX6_start_0 (i := 1) rfl
theorem dX6_start_2 : decode cX6_start 2 = .ok (.putfield 37, 3) := vl_at vq_cX6_start_0 (i := 2) rfl
theorem dX6_start_5 : decode cX6_start 5 = .ok (.aload_n 0, 1) := vl_at vq_cX6_start_0 (i := 3) rfl
theorem dX6_start_6 : decode cX6_start 6 = .ok (.iload_n 1, 1) := vl_at vq_cX6_start_0 (i := 4) rfl
theorem dX6_start_7 : decode cX6_start 7 = .ok (.iload_n 2, 1) := vl_at vq_cX6_start_0 (i := 5) rfl
theorem dX6_start_8 : decode cX6_start 8 = .ok (.invokevirtual 40, 3) := vl_at vq_cX6_start_0 (i := 6) rfl
theorem dX6_start_11 : decode cX6_start 11 = .ok (.ireturn, 1) := vl_at vq_cX6_start_0 (i := 7) rfl
noncomputable def vl_cX6_isNoTrack_0 : List (Nat × Instr × Nat) := [(0, .iload_n 0, 1), (1, .iconst 0, 1), (2, .iconst 1, 1), (3, .invokestatic 44, 3), (6, .ifCond .ne 7, 3), (9, .iconst 1, 1), (10, .goto 4, 3), (13, .iconst 0, 1), (14, .ireturn, 1)]
theorem vq_cX6_isNoTrack_0 : vl_ok cX6_isNoTrack vl_cX6_isNoTrack_0 = true := by decide +kernel
theorem dX6_isNoTrack_0 : decode cX6_isNoTrack 0 = .ok (.iload_n 0, 1) := vl_at vq_cX6_isNoTrack_0 (i := 0) rfl
theorem dX6_isNoTrack_1 : decode cX6_isNoTrack 1 = .ok (.iconst 0, 1) := vl_at vq_cX6_isNoTrack_0 (i := 1) rfl
theorem dX6_isNoTrack_2 : decode cX6_isNoTrack 2 = .ok (.iconst 1, 1) := vl_at vq_cX6_isNoTrack_0 (i := 2) rfl
theorem dX6_isNoTrack_3 : decode cX6_isNoTrack 3 = .ok (.invokestatic 44, 3) := vl_at vq_cX6_isNoTrack_0 (i := 3) rfl
theorem dX6_isNoTrack_6 : decode cX6_isNoTrack 6 = .ok (.ifCond .ne 7, 3) := vl_at vq_cX6_isNoTrack_0 (i := 4) rfl
theorem dX6_isNoTrack_9 : decode cX6_isNoTrack 9 = .ok (.iconst 1, 1) := vl_at vq_cX6_isNoTrack_0 (i := 5) rfl
theorem dX6_isNoTrack_10 : decode cX6_isNoTrack 10 = .ok (.goto 4, 3) := vl_at vq_cX6_isNoTrack_0 (i := 6) rfl
theorem dX6_isNoTrack_13 : decode cX6_isNoTrack 13 = .ok (.iconst 0, 1) := vl_at vq_cX6_isNoTrack_0 (i := 7) rfl
theorem dX6_isNoTrack_14 : decode cX6_isNoTrack 14 = .ok (.ireturn, 1) := vl_at vq_cX6_isNoTrack_0 (i := 8) rfl
noncomputable def vl_cX6_isNoPiece_0 : List (Nat × Instr × Nat) := [(0, .iload_n 0, 1), (1, .iconst 0, 1), (2, .bipush 9, 2), (4, .invokestatic 44, 3), (7, .ifCond .eq 13, 3), (10, .iload_n 1, 1), (11, .iconst 0, 1), (12, .bipush 99, 2), (14, .invokestatic 44, 3), (17, .ifCond .ne 7, 3), (20, .iconst 1, 1), (21, .goto 4, 3), (24, .iconst 0, 1), (25, .ireturn, 1)]
theorem vq_cX6_isNoPiece_0 : vl_ok cX6_isNoPiece vl_cX6_isNoPiece_0 = true := by decide +kernel
theorem dX6_isNoPiece_0 : decode cX6_isNoPiece 0 = .ok (.iload_n 0, 1) := vl_at vq_cX6_isNoPiece_0 (i := 0) rfl
theorem dX6_isNoPiece_1 : decode cX6_isNoPiece 1 = .ok (.iconst 0, 1) := vl_at vq_cX6_isNoPiece_0 (i := 1) rfl
theorem dX6_isNoPiece_2 : decode cX6_isNoPiece 2 = .ok (.bipush 9, 2) := vl_at vq_cX6_isNoPiece_0 (i := 2) rfl
theorem dX6_isNoPiece_4 : decode cX6_isNoPiece 4 = .ok (.invokestatic 44, 3) := vl_at vq_cX6_isNoPiece_0 (i := 3) rfl
theorem dX6_isNoPiece_7 : decode cX6_isNoPiece 7 = .ok (.ifCond .eq 13, 3) := vl_at vq_cX6_isNoPiece_0 (i := 4) rfl
theorem dX6_isNoPiece_10 : decode cX6_isNoPiece 10 = .ok (.iload_n 1, 1) := vl_at vq_cX6_isNoPiece_0 (i := 5) rfl
theorem dX6_isNoPiece_11 : decode cX6_isNoPiece 11 = .ok (.iconst 0, 1) := vl_at vq_cX6_isNoPiece_0 (i := 6) rfl
theorem dX6_isNoPiece_12 : decode cX6_isNoPiece 12 = .ok (.bipush 99, 2) := vl_at vq_cX6_isNoPiece_0 (i := 7) rfl
theorem dX6_isNoPiece_14 : decode cX6_isNoPiece 14 = .ok (.invokestatic 44, 3) := vl_at vq_cX6_isNoPiece_0 (i := 8) rfl
theorem dX6_isNoPiece_17 : decode cX6_isNoPiece 17 = .ok (.ifCond .ne 7, 3) := vl_at vq_cX6_isNoPiece_0 (i := 9) rfl
theorem dX6_isNoPiece_20 : decode cX6_isNoPiece 20 = .ok (.iconst 1, 1) := vl_at vq_cX6_isNoPiece_0 (i := 10) rfl
theorem dX6_isNoPiece_21 : decode cX6_isNoPiece 21 = .ok (.goto 4, 3) := vl_at vq_cX6_isNoPiece_0 (i := 11) rfl
theorem dX6_isNoPiece_24 : decode cX6_isNoPiece 24 = .ok (.iconst 0, 1) := vl_at vq_cX6_isNoPiece_0 (i := 12) rfl
theorem dX6_isNoPiece_25 : decode cX6_isNoPiece 25 = .ok (.ireturn, 1) := vl_at vq_cX6_isNoPiece_0 (i := 13) rfl
noncomputable def vl_cX6_code_0 : List (Nat × Instr × Nat) := [(0, .iload_n 0, 1), (1, .ifCond .ne 7, 3), (4, .iconst 0, 1), (5, .goto 9, 3), (8, .bipush 100, 2), (10, .iload_n 0, 1), (11, .imul, 1), (12, .iload_n 1, 1), (13, .iadd, 1), (14, .ireturn, 1)]
theorem vq_cX6_code_0 : vl_ok cX6_code vl_cX6_code_0 = true := by decide +kernel
theorem dX6_code_0 : decode cX6_code 0 = .ok (.iload_n 0, 1) := vl_at vq_cX6_code_0 (i := 0) rfl
theorem dX6_code_1 : decode cX6_code 1 = .ok (.ifCond .ne 7, 3) := vl_at vq_cX6_code_0 (i := 1) rfl
theorem dX6_code_4 : decode cX6_code 4 = .ok (.iconst 0, 1) := vl_at vq_cX6_code_0 (i := 2) rfl
theorem dX6_code_5 : decode cX6_code 5 = .ok (.goto 9, 3) := vl_at vq_cX6_code_0 (i := 3) rfl
theorem dX6_code_8 : decode cX6_code 8 = .ok (.bipush 100, 2) := vl_at vq_cX6_code_0 (i := 4) rfl
theorem dX6_code_10 : decode cX6_code 10 = .ok (.iload_n 0, 1) := vl_at vq_cX6_code_0 (i := 5) rfl
theorem dX6_code_11 : decode cX6_code 11 = .ok (.imul, 1) := vl_at vq_cX6_code_0 (i := 6) rfl
theorem dX6_code_12 : decode cX6_code 12 = .ok (.iload_n 1, 1) := vl_at vq_cX6_code_0 (i := 7) rfl
theorem dX6_code_13 : decode cX6_code 13 = .ok (.iadd, 1) := vl_at vq_cX6_code_0 (i := 8) rfl
theorem dX6_code_14 : decode cX6_code 14 = .ok (.ireturn, 1) := vl_at vq_cX6_code_0 (i := 9) rfl
noncomputable def vl_cX6_kind_0 : List (Nat × Instr × Nat) := [(0, .iload_n 0, 1), (1, .bipush 100, 2), (3, .idiv, 1), (4, .ireturn, 1)]
theorem vq_cX6_kind_0 : vl_ok cX6_kind vl_cX6_kind_0 = true := by decide +kernel
theorem dX6_kind_0 : decode cX6_kind 0 = .ok (.iload_n 0, 1) := vl_at vq_cX6_kind_0 (i := 0) rfl
theorem dX6_kind_1 : decode cX6_kind 1 = .ok (.bipush 100, 2) := vl_at vq_cX6_kind_0 (i := 1) rfl
theorem dX6_kind_3 : decode cX6_kind 3 = .ok (.idiv, 1) := vl_at vq_cX6_kind_0 (i := 2) rfl
theorem dX6_kind_4 : decode cX6_kind 4 = .ok (.ireturn, 1) := vl_at vq_cX6_kind_0 (i := 3) rfl
noncomputable def vl_cX6_load_0 : List (Nat × Instr × Nat) := [(0, .iload_n 0, 1), (1, .bipush 100, 2), (3, .irem, 1), (4, .ireturn, 1)]
theorem vq_cX6_load_0 : vl_ok cX6_load vl_cX6_load_0 = true := by decide +kernel
theorem dX6_load_0 : decode cX6_load 0 = .ok (.iload_n 0, 1) := vl_at vq_cX6_load_0 (i := 0) rfl
theorem dX6_load_1 : decode cX6_load 1 = .ok (.bipush 100, 2) := vl_at vq_cX6_load_0 (i := 1) rfl
theorem dX6_load_3 : decode cX6_load 3 = .ok (.irem, 1) := vl_at vq_cX6_load_0 (i := 2) rfl
theorem dX6_load_4 : decode cX6_load 4 = .ok (.ireturn, 1) := vl_at vq_cX6_load_0 (i := 3) rfl
noncomputable def vl_cX6_size_0 : List (Nat × Instr × Nat) := [(0, .aload_n 0, 1), (1, .getfield 10, 3), (4, .iload_n 1, 1), (5, .invokevirtual 48, 3), (8, .checkcast 7, 3), (11, .invokevirtual 52, 3), (14, .ireturn, 1)]
theorem vq_cX6_size_0 : vl_ok cX6_size vl_cX6_size_0 = true := by decide +kernel
theorem dX6_size_0 : decode cX6_size 0 = .ok (.aload_n 0, 1) := vl_at vq_cX6_size_0 (i := 0) rfl
theorem dX6_size_1 : decode cX6_size 1 = .ok (.getfield 10, 3) := vl_at vq_cX6_size_0 (i := 1) rfl
theorem dX6_size_4 : decode cX6_size 4 = .ok (.iload_n 1, 1) := vl_at vq_cX6_size_0 (i := 2) rfl
theorem dX6_size_5 : decode cX6_size 5 = .ok (.invokevirtual 48, 3) := vl_at vq_cX6_size_0 (i := 3) rfl
theorem dX6_size_8 : decode cX6_size 8 = .ok (.checkcast 7, 3) := vl_at vq_cX6_size_0 (i := 4) rfl
theorem dX6_size_11 : decode cX6_size 11 = .ok (.invokevirtual 52, 3) := vl_at vq_cX6_size_0 (i := 5) rfl
theorem dX6_size_14 : decode cX6_size 14 = .ok (.ireturn, 1) := vl_at vq_cX6_size_0 (i := 6) rfl
noncomputable def vl_cX6_get_0 : List (Nat × Instr × Nat) := [(0, .aload_n 0, 1), (1, .getfield 10, 3), (4, .iload_n 1, 1), (5, .invokevirtual 48, 3), (8, .checkcast 7, 3), (11, .iload_n 2, 1), (12, .invokevirtual 48, 3), (15, .checkcast 56, 3), (18, .invokevirtual 58, 3), (21, .ireturn, 1)]
theorem vq_cX6_get_0 : vl_ok cX6_get vl_cX6_get_0 = true := by decide +kernel
theorem dX6_get_0 : decode cX6_get 0 = .ok (.aload_n 0, 1) := vl_at vq_cX6_get_0 (i := 0) rfl
theorem dX6_get_1 : decode cX6_get 1 = .ok (.getfield 10, 3) := vl_at vq_cX6_get_0 (i := 1) rfl
theorem dX6_get_4 : decode cX6_get 4 = .ok (.iload_n 1, 1) := vl_at vq_cX6_get_0 (i := 2) rfl
theorem dX6_get_5 : decode cX6_get 5 = .ok (.invokevirtual 48, 3) := vl_at vq_cX6_get_0 (i := 3) rfl
theorem dX6_get_8 : decode cX6_get 8 = .ok (.checkcast 7, 3) := vl_at vq_cX6_get_0 (i := 4) rfl
theorem dX6_get_11 : decode cX6_get 11 = .ok (.iload_n 2, 1) := vl_at vq_cX6_get_0 (i := 5) rfl
theorem dX6_get_12 : decode cX6_get 12 = .ok (.invokevirtual 48, 3) := vl_at vq_cX6_get_0 (i := 6) rfl
theorem dX6_get_15 : decode cX6_get 15 = .ok (.checkcast 56, 3) := vl_at vq_cX6_get_0 (i := 7) rfl
theorem dX6_get_18 : decode cX6_get 18 = .ok (.invokevirtual 58, 3) := vl_at vq_cX6_get_0 (i := 8) rfl
theorem dX6_get_21 : decode cX6_get 21 = .ok (.ireturn, 1) := vl_at vq_cX6_get_0 (i := 9) rfl
noncomputable def vl_cX6_changed_0 : List (Nat × Instr × Nat) := [(0, .iload_n 1, 1), (1, .ifCond .ne 19, 3), (4, .aload_n 0, 1), (5, .iconst 0, 1), (6, .putfield 61, 3), (9, .aload_n 0, 1), (10, .iconst 0, 1), (11, .putfield 64, 3), (14, .aload_n 0, 1), (15, .iconst (-1), 1), (16, .putfield 29, 3), (19, .return_, 1), (20, .iconst 0, 1), (21, .istore_n 3, 1), (22, .iload_n 3, 1), (23, .iconst 2, 1), (24, .if_icmp .ge 36, 3), (27, .iload_n 3, 1), (28, .iload_n 2, 1), (29, .if_icmp .eq 25, 3), (32, .aload_n 0, 1), (33, .getfield 25, 3), (36, .iload_n 3, 1), (37, .aaload, 1), (38, .getfield 67, 3), (41, .ifCond .eq 13, 3), (44, .aload_n 0, 1), (45, .getfield 25, 3), (48, .iload_n 3, 1), (49, .aaload, 1), (50, .iconst 2, 1), (51, .putfield 67, 3), (54, .iinc 3 1, 3), (57, .goto (-35), 3), (60, .return_, 1)]
theorem vq_cX6_changed_0 : vl_ok cX6_changed vl_cX6_changed_0 = true := by decide +kernel
theorem dX6_changed_0 : decode cX6_changed 0 = .ok (.iload_n 1, 1) := vl_at vq_cX6_changed_0 (i := 0) rfl
theorem dX6_changed_1 : decode cX6_changed 1 = .ok (.ifCond .ne 19, 3) := vl_at vq_cX6_changed_0 (i := 1) rfl
theorem dX6_changed_4 : decode cX6_changed 4 = .ok (.aload_n 0, 1) := vl_at vq_cX6_changed_0 (i := 2) rfl
theorem dX6_changed_5 : decode cX6_changed 5 = .ok (.iconst 0, 1) := vl_at vq_cX6_changed_0 (i := 3) rfl
theorem dX6_changed_6 : decode cX6_changed 6 = .ok (.putfield 61, 3) := vl_at vq_cX6_changed_0 (i := 4) rfl
theorem dX6_changed_9 : decode cX6_changed 9 = .ok (.aload_n 0, 1) := vl_at vq_cX6_changed_0 (i := 5) rfl
theorem dX6_changed_10 : decode cX6_changed 10 = .ok (.iconst 0, 1) := vl_at vq_cX6_changed_0 (i := 6) rfl
theorem dX6_changed_11 : decode cX6_changed 11 = .ok (.putfield 64, 3) := vl_at vq_cX6_changed_0 (i := 7) rfl
theorem dX6_changed_14 : decode cX6_changed 14 = .ok (.aload_n 0, 1) := vl_at vq_cX6_changed_0 (i := 8) rfl
theorem dX6_changed_15 : decode cX6_changed 15 = .ok (.iconst (-1), 1) := vl_at vq_cX6_changed_0 (i := 9) rfl
theorem dX6_changed_16 : decode cX6_changed 16 = .ok (.putfield 29, 3) := vl_at vq_cX6_changed_0 (i := 10) rfl
theorem dX6_changed_19 : decode cX6_changed 19 = .ok (.return_, 1) := vl_at vq_cX6_changed_0 (i := 11) rfl
theorem dX6_changed_20 : decode cX6_changed 20 = .ok (.iconst 0, 1) := vl_at vq_cX6_changed_0 (i := 12) rfl
theorem dX6_changed_21 : decode cX6_changed 21 = .ok (.istore_n 3, 1) := vl_at vq_cX6_changed_0 (i := 13) rfl
theorem dX6_changed_22 : decode cX6_changed 22 = .ok (.iload_n 3, 1) := vl_at vq_cX6_changed_0 (i := 14) rfl
theorem dX6_changed_23 : decode cX6_changed 23 = .ok (.iconst 2, 1) := vl_at vq_cX6_changed_0 (i := 15) rfl
theorem dX6_changed_24 : decode cX6_changed 24 = .ok (.if_icmp .ge 36, 3) := vl_at vq_cX6_changed_0 (i := 16) rfl
theorem dX6_changed_27 : decode cX6_changed 27 = .ok (.iload_n 3, 1) := vl_at vq_cX6_changed_0 (i := 17) rfl
theorem dX6_changed_28 : decode cX6_changed 28 = .ok (.iload_n 2, 1) := vl_at vq_cX6_changed_0 (i := 18) rfl
theorem dX6_changed_29 : decode cX6_changed 29 = .ok (.if_icmp .eq 25, 3) := vl_at vq_cX6_changed_0 (i := 19) rfl
theorem dX6_changed_32 : decode cX6_changed 32 = .ok (.aload_n 0, 1) := vl_at vq_cX6_changed_0 (i := 20) rfl
theorem dX6_changed_33 : decode cX6_changed 33 = .ok (.getfield 25, 3) := vl_at vq_cX6_changed_0 (i := 21) rfl
theorem dX6_changed_36 : decode cX6_changed 36 = .ok (.iload_n 3, 1) := vl_at vq_cX6_changed_0 (i := 22) rfl
theorem dX6_changed_37 : decode cX6_changed 37 = .ok (.aaload, 1) := vl_at vq_cX6_changed_0 (i := 23) rfl
theorem dX6_changed_38 : decode cX6_changed 38 = .ok (.getfield 67, 3) := vl_at vq_cX6_changed_0 (i := 24) rfl
theorem dX6_changed_41 : decode cX6_changed 41 = .ok (.ifCond .eq 13, 3) := vl_at vq_cX6_changed_0 (i := 25) rfl
theorem dX6_changed_44 : decode cX6_changed 44 = .ok (.aload_n 0, 1) := vl_at vq_cX6_changed_0 (i := 26) rfl
theorem dX6_changed_45 : decode cX6_changed 45 = .ok (.getfield 25, 3) := vl_at vq_cX6_changed_0 (i := 27) rfl
theorem dX6_changed_48 : decode cX6_changed 48 = .ok (.iload_n 3, 1) := vl_at vq_cX6_changed_0 (i := 28) rfl
theorem dX6_changed_49 : decode cX6_changed 49 = .ok (.aaload, 1) := vl_at vq_cX6_changed_0 (i := 29) rfl
theorem dX6_changed_50 : decode cX6_changed 50 = .ok (.iconst 2, 1) := vl_at vq_cX6_changed_0 (i := 30) rfl
theorem dX6_changed_51 : decode cX6_changed 51 = .ok (.putfield 67, 3) := vl_at vq_cX6_changed_0 (i := 31) rfl
theorem dX6_changed_54 : decode cX6_changed 54 = .ok (.iinc 3 1, 3) := vl_at vq_cX6_changed_0 (i := 32) rfl
theorem dX6_changed_57 : decode cX6_changed 57 = .ok (.goto (-35), 3) := vl_at vq_cX6_changed_0 (i := 33) rfl
theorem dX6_changed_60 : decode cX6_changed 60 = .ok (.return_, 1) := vl_at vq_cX6_changed_0 (i := 34) rfl
noncomputable def vl_cX6_come_0 : List (Nat × Instr × Nat) := [(0, .aload_n 0, 1), (1, .getfield 10, 3), (4, .iload_n 1, 1), (5, .invokevirtual 48, 3), (8, .checkcast 7, 3), (11, .iload_n 2, 1), (12, .iload_n 3, 1), (13, .invokestatic 70, 3), (16, .invokevirtual 74, 3), (19, .aload_n 0, 1), (20, .iload_n 1, 1), (21, .iconst (-1), 1), (22, .invokevirtual 77, 3), (25, .return_, 1)]
theorem vq_cX6_come_0 : vl_ok cX6_come vl_cX6_come_0 = true := by decide +kernel
theorem dX6_come_0 : decode cX6_come 0 = .ok (.aload_n 0, 1) := vl_at vq_cX6_come_0 (i := 0) rfl
theorem dX6_come_1 : decode cX6_come 1 = .ok (.getfield 10, 3) := vl_at vq_cX6_come_0 (i := 1) rfl
theorem dX6_come_4 : decode cX6_come 4 = .ok (.iload_n 1, 1) := vl_at vq_cX6_come_0 (i := 2) rfl
theorem dX6_come_5 : decode cX6_come 5 = .ok (.invokevirtual 48, 3) := vl_at vq_cX6_come_0 (i := 3) rfl
theorem dX6_come_8 : decode cX6_come 8 = .ok (.checkcast 7, 3) := vl_at vq_cX6_come_0 (i := 4) rfl
theorem dX6_come_11 : decode cX6_come 11 = .ok (.iload_n 2, 1) := vl_at vq_cX6_come_0 (i := 5) rfl
theorem dX6_come_12 : decode cX6_come 12 = .ok (.iload_n 3, 1) := vl_at vq_cX6_come_0 (i := 6) rfl
theorem dX6_come_13 : decode cX6_come 13 = .ok (.invokestatic 70, 3) := vl_at vq_cX6_come_0 (i := 7) rfl
theorem dX6_come_16 : decode cX6_come 16 = .ok (.invokevirtual 74, 3) := vl_at vq_cX6_come_0 (i := 8) rfl
theorem dX6_come_19 : decode cX6_come 19 = .ok (.aload_n 0, 1) := vl_at vq_cX6_come_0 (i := 9) rfl
theorem dX6_come_20 : decode cX6_come 20 = .ok (.iload_n 1, 1) := vl_at vq_cX6_come_0 (i := 10) rfl
theorem dX6_come_21 : decode cX6_come 21 = .ok (.iconst (-1), 1) := vl_at vq_cX6_come_0 (i := 11) rfl
theorem dX6_come_22 : decode cX6_come 22 = .ok (.invokevirtual 77, 3) := vl_at vq_cX6_come_0 (i := 12) rfl
theorem dX6_come_25 : decode cX6_come 25 = .ok (.return_, 1) := vl_at vq_cX6_come_0 (i := 13) rfl
noncomputable def vl_cX6_go_0 : List (Nat × Instr × Nat) := [(0, .aload_n 0, 1), (1, .getfield 10, 3), (4, .iload_n 1, 1), (5, .invokevirtual 48, 3), (8, .checkcast 7, 3), (11, .iload_n 2, 1), (12, .invokevirtual 81, 3), (15, .checkcast 56, 3), (18, .invokevirtual 58, 3), (21, .istore_n 3, 1), (22, .aload_n 0, 1), (23, .iload_n 1, 1), (24, .iconst (-1), 1), (25, .invokevirtual 77, 3), (28, .iload_n 3, 1), (29, .ireturn, 1)]
theorem vq_cX6_go_0 : vl_ok cX6_go vl_cX6_go_0 = true := by decide +kernel
theorem dX6_go_0 : decode cX6_go 0 = .ok (.aload_n 0, 1) := vl_at vq_cX6_go_0 (i := 0) rfl
theorem dX6_go_1 : decode cX6_go 1 = .ok (.getfield 10, 3) := vl_at vq_cX6_go_0 (i := 1) rfl
theorem dX6_go_4 : decode cX6_go 4 = .ok (.iload_n 1, 1) := vl_at vq_cX6_go_0 (i := 2) rfl
theorem dX6_go_5 : decode cX6_go 5 = .ok (.invokevirtual 48, 3) := vl_at vq_cX6_go_0 (i := 3) rfl
theorem dX6_go_8 : decode cX6_go 8 = .ok (.checkcast 7, 3) := vl_at vq_cX6_go_0 (i := 4) rfl
theorem dX6_go_11 : decode cX6_go 11 = .ok (.iload_n 2, 1) := vl_at vq_cX6_go_0 (i := 5) rfl
theorem dX6_go_12 : decode cX6_go 12 = .ok (.invokevirtual 81, 3) := vl_at vq_cX6_go_0 (i := 6) rfl
theorem dX6_go_15 : decode cX6_go 15 = .ok (.checkcast 56, 3) := vl_at vq_cX6_go_0 (i := 7) rfl
theorem dX6_go_18 : decode cX6_go 18 = .ok (.invokevirtual 58, 3) := vl_at vq_cX6_go_0 (i := 8) rfl
theorem dX6_go_21 : decode cX6_go 21 = .ok (.istore_n 3, 1) := vl_at vq_cX6_go_0 (i := 9) rfl
theorem dX6_go_22 : decode cX6_go 22 = .ok (.aload_n 0, 1) := vl_at vq_cX6_go_0 (i := 10) rfl
theorem dX6_go_23 : decode cX6_go 23 = .ok (.iload_n 1, 1) := vl_at vq_cX6_go_0 (i := 11) rfl
theorem dX6_go_24 : decode cX6_go 24 = .ok (.iconst (-1), 1) := vl_at vq_cX6_go_0 (i := 12) rfl
theorem dX6_go_25 : decode cX6_go 25 = .ok (.invokevirtual 77, 3) := vl_at vq_cX6_go_0 (i := 13) rfl
theorem dX6_go_28 : decode cX6_go 28 = .ok (.iload_n 3, 1) := vl_at vq_cX6_go_0 (i := 14) rfl
theorem dX6_go_29 : decode cX6_go 29 = .ok (.ireturn, 1) := vl_at vq_cX6_go_0 (i := 15) rfl
noncomputable def vl_cX6_tear_0 : List (Nat × Instr × Nat) := [(0, .aload_n 0, 1), (1, .getfield 16, 3), (4, .invokevirtual 84, 3), (7, .return_, 1)]
theorem vq_cX6_tear_0 : vl_ok cX6_tear vl_cX6_tear_0 = true := by decide +kernel
theorem dX6_tear_0 : decode cX6_tear 0 = .ok (.aload_n 0, 1) := vl_at vq_cX6_tear_0 (i := 0) rfl
theorem dX6_tear_1 : decode cX6_tear 1 = .ok (.getfield 16, 3) := vl_at vq_cX6_tear_0 (i := 1) rfl
theorem dX6_tear_4 : decode cX6_tear 4 = .ok (.invokevirtual 84, 3) := vl_at vq_cX6_tear_0 (i := 2) rfl
theorem dX6_tear_7 : decode cX6_tear 7 = .ok (.return_, 1) := vl_at vq_cX6_tear_0 (i := 3) rfl
noncomputable def vl_cX6_slip_0 : List (Nat × Instr × Nat) := [(0, .aload_n 0, 1), (1, .getfield 16, 3), (4, .invokevirtual 52, 3), (7, .bipush 12, 2), (9, .if_icmp .ne 12, 3), (12, .aload_n 0, 1), (13, .getfield 16, 3), (16, .iconst 0, 1), (17, .invokevirtual 81, 3), (20, .pop, 1), (21, .aload_n 0, 1), (22, .getfield 16, 3), (25, .sipush 1000, 3), (28, .iconst 4, 1), (29, .iload_n 1, 1), (30, .imul, 1), (31, .iconst 2, 1), (32, .iload_n 2, 1), (33, .invokestatic 87, 3), (36, .imul, 1), (37, .iadd, 1), (38, .iload_n 3, 1), (39, .invokestatic 87, 3), (42, .iadd, 1), (43, .imul, 1), (44, .iload 4, 2), (46, .iadd, 1), (47, .invokestatic 70, 3), (50, .invokevirtual 33, 3), (53, .pop, 1), (54, .return_, 1)]
theorem vq_cX6_slip_0 : vl_ok cX6_slip vl_cX6_slip_0 = true := by decide +kernel
theorem dX6_slip_0 : decode cX6_slip 0 = .ok (.aload_n 0, 1) := vl_at vq_cX6_slip_0 (i := 0) rfl
theorem dX6_slip_1 : decode cX6_slip 1 = .ok (.getfield 16, 3) := vl_at vq_cX6_slip_0 (i := 1) rfl
theorem dX6_slip_4 : decode cX6_slip 4 = .ok (.invokevirtual 52, 3) := vl_at vq_cX6_slip_0 (i := 2) rfl
theorem dX6_slip_7 : decode cX6_slip 7 = .ok (.bipush 12, 2) := vl_at vq_cX6_slip_0 (i := 3) rfl
theorem dX6_slip_9 : decode cX6_slip 9 = .ok (.if_icmp .ne 12, 3) := vl_at vq_cX6_slip_0 (i := 4) rfl
theorem dX6_slip_12 : decode cX6_slip 12 = .ok (.aload_n 0, 1) := vl_at vq_cX6_slip_0 (i := 5) rfl
theorem dX6_slip_13 : decode cX6_slip 13 = .ok (.getfield 16, 3) := vl_at vq_cX6_slip_0 (i := 6) rfl
theorem dX6_slip_16 : decode cX6_slip 16 = .ok (.iconst 0, 1) := vl_at vq_cX6_slip_0 (i := 7) rfl
theorem dX6_slip_17 : decode cX6_slip 17 = .ok (.invokevirtual 81, 3) := vl_at vq_cX6_slip_0 (i := 8) rfl
theorem dX6_slip_20 : decode cX6_slip 20 = .ok (.pop, 1) := vl_at vq_cX6_slip_0 (i := 9) rfl
theorem dX6_slip_21 : decode cX6_slip 21 = .ok (.aload_n 0, 1) := vl_at vq_cX6_slip_0 (i := 10) rfl
theorem dX6_slip_22 : decode cX6_slip 22 = .ok (.getfield 16, 3) := vl_at vq_cX6_slip_0 (i := 11) rfl
theorem dX6_slip_25 : decode cX6_slip 25 = .ok (.sipush 1000, 3) := vl_at vq_cX6_slip_0 (i := 12) rfl
theorem dX6_slip_28 : decode cX6_slip 28 = .ok (.iconst 4, 1) := vl_at vq_cX6_slip_0 (i := 13) rfl
theorem dX6_slip_29 : decode cX6_slip 29 = .ok (.iload_n 1, 1) := vl_at vq_cX6_slip_0 (i := 14) rfl
theorem dX6_slip_30 : decode cX6_slip 30 = .ok (.imul, 1) := vl_at vq_cX6_slip_0 (i := 15) rfl
theorem dX6_slip_31 : decode cX6_slip 31 = .ok (.iconst 2, 1) := vl_at vq_cX6_slip_0 (i := 16) rfl
theorem dX6_slip_32 : decode cX6_slip 32 = .ok (.iload_n 2, 1) := vl_at vq_cX6_slip_0 (i := 17) rfl
theorem dX6_slip_33 : decode cX6_slip 33 = .ok (.invokestatic 87, 3) := vl_at vq_cX6_slip_0 (i := 18) rfl
theorem dX6_slip_36 : decode cX6_slip 36 = .ok (.imul, 1) := vl_at vq_cX6_slip_0 (i := 19) rfl
theorem dX6_slip_37 : decode cX6_slip 37 = .ok (.iadd, 1) := vl_at vq_cX6_slip_0 (i := 20) rfl
theorem dX6_slip_38 : decode cX6_slip 38 = .ok (.iload_n 3, 1) := vl_at vq_cX6_slip_0 (i := 21) rfl
theorem dX6_slip_39 : decode cX6_slip 39 = .ok (.invokestatic 87, 3) := vl_at vq_cX6_slip_0 (i := 22) rfl
theorem dX6_slip_42 : decode cX6_slip 42 = .ok (.iadd, 1) := vl_at vq_cX6_slip_0 (i := 23) rfl
theorem dX6_slip_43 : decode cX6_slip 43 = .ok (.imul, 1) := vl_at vq_cX6_slip_0 (i := 24) rfl
theorem dX6_slip_44 : decode cX6_slip 44 = .ok (.iload 4, 2) := vl_at vq_cX6_slip_0 (i := 25) rfl
theorem dX6_slip_46 : decode cX6_slip 46 = .ok (.iadd, 1) := vl_at vq_cX6_slip_0 (i := 26) rfl
theorem dX6_slip_47 : decode cX6_slip 47 = .ok (.invokestatic 70, 3) := vl_at vq_cX6_slip_0 (i := 27) rfl
theorem dX6_slip_50 : decode cX6_slip 50 = .ok (.invokevirtual 33, 3) := vl_at vq_cX6_slip_0 (i := 28) rfl
theorem dX6_slip_53 : decode cX6_slip 53 = .ok (.pop, 1) := vl_at vq_cX6_slip_0 (i := 29) rfl
theorem dX6_slip_54 : decode cX6_slip 54 = .ok (.return_, 1) := vl_at vq_cX6_slip_0 (i := 30) rfl
noncomputable def vl_cX6_stepIn_0 : List (Nat × Instr × Nat) := [(0, .aload_n 0, 1), (1, .iload_n 1, 1), (2, .iload_n 2, 1), (3, .ifCond .eq 11, 3), (6, .aload_n 0, 1), (7, .iload_n 1, 1), (8, .invokevirtual 91, 3), (11, .goto 4, 3), (14, .iconst 0, 1), (15, .iload_n 3, 1), (16, .invokevirtual 94, 3), (19, .aload_n 0, 1), (20, .iload_n 1, 1), (21, .iload_n 2, 1), (22, .iconst 1, 1), (23, .iload_n 3, 1), (24, .invokevirtual 98, 3), (27, .return_, 1)]
theorem vq_cX6_stepIn_0 : vl_ok cX6_stepIn vl_cX6_stepIn_0 = true := by decide +kernel
theorem dX6_stepIn_0 : decode cX6_stepIn 0 = .ok (.aload_n 0, 1) := vl_at vq_cX6_stepIn_0 (i := 0) rfl
theorem dX6_stepIn_1 : decode cX6_stepIn 1 = .ok (.iload_n 1, 1) := vl_at vq_cX6_stepIn_0 (i := 1) rfl
theorem dX6_stepIn_2 : decode cX6_stepIn 2 = .ok (.iload_n 2, 1) := vl_at vq_cX6_stepIn_0 (i := 2) rfl
theorem dX6_stepIn_3 : decode cX6_stepIn 3 = .ok (.ifCond .eq 11, 3) := vl_at vq_cX6_stepIn_0 (i := 3) rfl
theorem dX6_stepIn_6 : decode cX6_stepIn 6 = .ok (.aload_n 0, 1) := vl_at vq_cX6_stepIn_0 (i := 4) rfl
theorem dX6_stepIn_7 : decode cX6_stepIn 7 = .ok (.iload_n 1, 1) := vl_at vq_cX6_stepIn_0 (i := 5) rfl
theorem dX6_stepIn_8 : decode cX6_stepIn 8 = .ok (.invokevirtual 91, 3) := vl_at vq_cX6_stepIn_0 (i := 6) rfl
theorem dX6_stepIn_11 : decode cX6_stepIn 11 = .ok (.goto 4, 3) := vl_at vq_cX6_stepIn_0 (i := 7) rfl
theorem dX6_stepIn_14 : decode cX6_stepIn 14 = .ok (.iconst 0, 1) := vl_at vq_cX6_stepIn_0 (i := 8) rfl
theorem dX6_stepIn_15 : decode cX6_stepIn 15 = .ok (.iload_n 3, 1) := vl_at vq_cX6_stepIn_0 (i := 9) rfl
theorem dX6_stepIn_16 : decode cX6_stepIn 16 = .ok (.invokevirtual 94, 3) := vl_at vq_cX6_stepIn_0 (i := 10) rfl
theorem dX6_stepIn_19 : decode cX6_stepIn 19 = .ok (.aload_n 0, 1) := vl_at vq_cX6_stepIn_0 (i := 11) rfl
theorem dX6_stepIn_20 : decode cX6_stepIn 20 = .ok (.iload_n 1, 1) := vl_at vq_cX6_stepIn_0 (i := 12) rfl
theorem dX6_stepIn_21 : decode cX6_stepIn 21 = .ok (.iload_n 2, 1) := vl_at vq_cX6_stepIn_0 (i := 13) rfl
theorem dX6_stepIn_22 : decode cX6_stepIn 22 = .ok (.iconst 1, 1) := vl_at vq_cX6_stepIn_0 (i := 14) rfl
theorem dX6_stepIn_23 : decode cX6_stepIn 23 = .ok (.iload_n 3, 1) := vl_at vq_cX6_stepIn_0 (i := 15) rfl
theorem dX6_stepIn_24 : decode cX6_stepIn 24 = .ok (.invokevirtual 98, 3) := vl_at vq_cX6_stepIn_0 (i := 16) rfl
theorem dX6_stepIn_27 : decode cX6_stepIn 27 = .ok (.return_, 1) := vl_at vq_cX6_stepIn_0 (i := 17) rfl
noncomputable def vl_cX6_stepOut_0 : List (Nat × Instr × Nat) := [(0, .aload_n 0, 1), (1, .iload_n 1, 1), (2, .iload_n 2, 1), (3, .ifCond .eq 13, 3), (6, .aload_n 0, 1), (7, .iload_n 1, 1), (8, .invokevirtual 91, 3), (11, .iconst 1, 1), (12, .isub, 1), (13, .goto 4, 3), (16, .iconst 0, 1), (17, .invokevirtual 102, 3), (20, .istore_n 3, 1), (21, .aload_n 0, 1), (22, .iload_n 1, 1), (23, .iload_n 2, 1), (24, .iconst 0, 1), (25, .iload_n 3, 1), (26, .invokevirtual 98, 3), (29, .iload_n 3, 1), (30, .ireturn, 1)]
theorem vq_cX6_stepOut_0 : vl_ok cX6_stepOut vl_cX6_stepOut_0 = true := by decide +kernel
theorem dX6_stepOut_0 : decode cX6_stepOut 0 = .ok (.aload_n 0, 1) := vl_at vq_cX6_stepOut_0 (i := 0) rfl
theorem dX6_stepOut_1 : decode cX6_stepOut 1 = .ok (.iload_n 1, 1) := vl_at vq_cX6_stepOut_0 (i := 1) rfl
theorem dX6_stepOut_2 : decode cX6_stepOut 2 = .ok (.iload_n 2, 1) := vl_at vq_cX6_stepOut_0 (i := 2) rfl
theorem dX6_stepOut_3 : decode cX6_stepOut 3 = .ok (.ifCond .eq 13, 3) := vl_at vq_cX6_stepOut_0 (i := 3) rfl
theorem dX6_stepOut_6 : decode cX6_stepOut 6 = .ok (.aload_n 0, 1) := vl_at vq_cX6_stepOut_0 (i := 4) rfl
theorem dX6_stepOut_7 : decode cX6_stepOut 7 = .ok (.iload_n 1, 1) := vl_at vq_cX6_stepOut_0 (i := 5) rfl
theorem dX6_stepOut_8 : decode cX6_stepOut 8 = .ok (.invokevirtual 91, 3) := vl_at vq_cX6_stepOut_0 (i := 6) rfl
theorem dX6_stepOut_11 : decode cX6_stepOut 11 = .ok (.iconst 1, 1) := vl_at vq_cX6_stepOut_0 (i := 7) rfl
theorem dX6_stepOut_12 : decode cX6_stepOut 12 = .ok (.isub, 1) := vl_at vq_cX6_stepOut_0 (i := 8) rfl
theorem dX6_stepOut_13 : decode cX6_stepOut 13 = .ok (.goto 4, 3) := vl_at vq_cX6_stepOut_0 (i := 9) rfl
theorem dX6_stepOut_16 : decode cX6_stepOut 16 = .ok (.iconst 0, 1) := vl_at vq_cX6_stepOut_0 (i := 10) rfl
theorem dX6_stepOut_17 : decode cX6_stepOut 17 = .ok (.invokevirtual 102, 3) := vl_at vq_cX6_stepOut_0 (i := 11) rfl
theorem dX6_stepOut_20 : decode cX6_stepOut 20 = .ok (.istore_n 3, 1) := vl_at vq_cX6_stepOut_0 (i := 12) rfl
theorem dX6_stepOut_21 : decode cX6_stepOut 21 = .ok (.aload_n 0, 1) := vl_at vq_cX6_stepOut_0 (i := 13) rfl
theorem dX6_stepOut_22 : decode cX6_stepOut 22 = .ok (.iload_n 1, 1) := vl_at vq_cX6_stepOut_0 (i := 14) rfl
theorem dX6_stepOut_23 : decode cX6_stepOut 23 = .ok (.iload_n 2, 1) := vl_at vq_cX6_stepOut_0 (i := 15) rfl
theorem dX6_stepOut_24 : decode cX6_stepOut 24 = .ok (.iconst 0, 1) := vl_at vq_cX6_stepOut_0 (i := 16) rfl
theorem dX6_stepOut_25 : decode cX6_stepOut 25 = .ok (.iload_n 3, 1) := vl_at vq_cX6_stepOut_0 (i := 17) rfl
theorem dX6_stepOut_26 : decode cX6_stepOut 26 = .ok (.invokevirtual 98, 3) := vl_at vq_cX6_stepOut_0 (i := 18) rfl
theorem dX6_stepOut_29 : decode cX6_stepOut 29 = .ok (.iload_n 3, 1) := vl_at vq_cX6_stepOut_0 (i := 19) rfl
theorem dX6_stepOut_30 : decode cX6_stepOut 30 = .ok (.ireturn, 1) := vl_at vq_cX6_stepOut_0 (i := 20) rfl
noncomputable def vl_cX6_mayNot_0 : List (Nat × Instr × Nat) := [(0, .aload_n 0, 1), (1, .iload_n 1, 1), (2, .invokestatic 106, 3), (5, .iconst 1, 1), (6, .invokevirtual 110, 3), (9, .ifCond .ne 42, 3), (12, .aload_n 0, 1), (13, .iload_n 2, 1), (14, .iload_n 3, 1), (15, .invokestatic 113, 3), (18, .iconst 2, 1), (19, .invokevirtual 40, 3), (22, .ifCond .ne 29, 3), (25, .aload_n 0, 1), (26, .aload_n 0, 1), (27, .iload_n 1, 1), (28, .invokevirtual 91, 3), (31, .iload 4, 2), (33, .iadd, 1), (34, .bipush 20, 2), (36, .if_icmp .le 7, 3), (39, .iconst 1, 1), (40, .goto 4, 3), (43, .iconst 0, 1), (44, .iconst 3, 1), (45, .invokevirtual 40, 3), (48, .ifCond .eq 7, 3), (51, .iconst 1, 1), (52, .goto 4, 3), (55, .iconst 0, 1), (56, .ireturn, 1)]
theorem vq_cX6_mayNot_0 : vl_ok cX6_mayNot vl_cX6_mayNot_0 = true := by decide +kernel
theorem dX6_mayNot_0 : decode cX6_mayNot 0 = .ok (.aload_n 0, 1) := vl_at vq_cX6_mayNot_0 (i := 0) rfl
theorem dX6_mayNot_1 : decode cX6_mayNot 1 = .ok (.iload_n 1, 1) := vl_at vq_cX6_mayNot_0 (i := 1) rfl
theorem dX6_mayNot_2 : decode cX6_mayNot 2 = .ok (.invokestatic 106, 3) := vl_at vq_cX6_mayNot_0 (i := 2) rfl
theorem dX6_mayNot_5 : decode cX6_mayNot 5 = .ok (.iconst 1, 1) := vl_at vq_cX6_mayNot_0 (i := 3) rfl
theorem dX6_mayNot_6 : decode cX6_mayNot 6 = .ok (.invokevirtual 110, 3) := vl_at vq_cX6_mayNot_0 (i := 4) rfl
theorem dX6_mayNot_9 : decode cX6_mayNot 9 = .ok (.ifCond .ne 42, 3) := vl_at vq_cX6_mayNot_0 (i := 5) rfl
theorem dX6_mayNot_12 : decode cX6_mayNot 12 = .ok (.aload_n 0, 1) := vl_at vq_cX6_mayNot_0 (i := 6) rfl
theorem dX6_mayNot_13 : decode cX6_mayNot 13 = .ok (.iload_n 2, 1) := vl_at vq_cX6_mayNot_0 (i := 7) rfl
theorem dX6_mayNot_14 : decode cX6_mayNot 14 = .ok (.iload_n 3, 1) := vl_at vq_cX6_mayNot_0 (i := 8) rfl
theorem dX6_mayNot_15 : decode cX6_mayNot 15 = .ok (.invokestatic 113, 3) := vl_at vq_cX6_mayNot_0 (i := 9) rfl
theorem dX6_mayNot_18 : decode cX6_mayNot 18 = .ok (.iconst 2, 1) := vl_at vq_cX6_mayNot_0 (i := 10) rfl
theorem dX6_mayNot_19 : decode cX6_mayNot 19 = .ok (.invokevirtual 40, 3) := vl_at vq_cX6_mayNot_0 (i := 11) rfl
theorem dX6_mayNot_22 : decode cX6_mayNot 22 = .ok (.ifCond .ne 29, 3) := vl_at vq_cX6_mayNot_0 (i := 12) rfl
theorem dX6_mayNot_25 : decode cX6_mayNot 25 = .ok (.aload_n 0, 1) := vl_at vq_cX6_mayNot_0 (i := 13) rfl
theorem dX6_mayNot_26 : decode cX6_mayNot 26 = .ok (.aload_n 0, 1) := vl_at vq_cX6_mayNot_0 (i := 14) rfl
theorem dX6_mayNot_27 : decode cX6_mayNot 27 = .ok (.iload_n 1, 1) := vl_at vq_cX6_mayNot_0 (i := 15) rfl
theorem dX6_mayNot_28 : decode cX6_mayNot 28 = .ok (.invokevirtual 91, 3) := vl_at vq_cX6_mayNot_0 (i := 16) rfl
theorem dX6_mayNot_31 : decode cX6_mayNot 31 = .ok (.iload 4, 2) := vl_at vq_cX6_mayNot_0 (i := 17) rfl
theorem dX6_mayNot_33 : decode cX6_mayNot 33 = .ok (.iadd, 1) := vl_at vq_cX6_mayNot_0 (i := 18) rfl
theorem dX6_mayNot_34 : decode cX6_mayNot 34 = .ok (.bipush 20, 2) := vl_at vq_cX6_mayNot_0 (i := 19) rfl
theorem dX6_mayNot_36 : decode cX6_mayNot 36 = .ok (.if_icmp .le 7, 3) := vl_at vq_cX6_mayNot_0 (i := 20) rfl
theorem dX6_mayNot_39 : decode cX6_mayNot 39 = .ok (.iconst 1, 1) := vl_at vq_cX6_mayNot_0 (i := 21) rfl
theorem dX6_mayNot_40 : decode cX6_mayNot 40 = .ok (.goto 4, 3) := vl_at vq_cX6_mayNot_0 (i := 22) rfl
theorem dX6_mayNot_43 : decode cX6_mayNot 43 = .ok (.iconst 0, 1) := vl_at vq_cX6_mayNot_0 (i := 23) rfl
theorem dX6_mayNot_44 : decode cX6_mayNot 44 = .ok (.iconst 3, 1) := vl_at vq_cX6_mayNot_0 (i := 24) rfl
theorem dX6_mayNot_45 : decode cX6_mayNot 45 = .ok (.invokevirtual 40, 3) := vl_at vq_cX6_mayNot_0 (i := 25) rfl
theorem dX6_mayNot_48 : decode cX6_mayNot 48 = .ok (.ifCond .eq 7, 3) := vl_at vq_cX6_mayNot_0 (i := 26) rfl
theorem dX6_mayNot_51 : decode cX6_mayNot 51 = .ok (.iconst 1, 1) := vl_at vq_cX6_mayNot_0 (i := 27) rfl
theorem dX6_mayNot_52 : decode cX6_mayNot 52 = .ok (.goto 4, 3) := vl_at vq_cX6_mayNot_0 (i := 28) rfl
theorem dX6_mayNot_55 : decode cX6_mayNot 55 = .ok (.iconst 0, 1) := vl_at vq_cX6_mayNot_0 (i := 29) rfl
theorem dX6_mayNot_56 : decode cX6_mayNot 56 = .ok (.ireturn, 1) := vl_at vq_cX6_mayNot_0 (i := 30) rfl
noncomputable def vl_cX6_isBarred_0 : List (Nat × Instr × Nat) := [(0, .iload_n 0, 1), (1, .ifCond .ne 11, 3), (4, .iload_n 1, 1), (5, .ifCond .ne 7, 3), (8, .iconst 1, 1), (9, .goto 4, 3), (12, .iconst 0, 1), (13, .ireturn, 1)]
theorem vq_cX6_isBarred_0 : vl_ok cX6_isBarred vl_cX6_isBarred_0 = true := by decide +kernel
theorem dX6_isBarred_0 : decode cX6_isBarred 0 = .ok (.iload_n 0, 1) := vl_at vq_cX6_isBarred_0 (i := 0) rfl
theorem dX6_isBarred_1 : decode cX6_isBarred 1 = .ok (.ifCond .ne 11, 3) := vl_at vq_cX6_isBarred_0 (i := 1) rfl
theorem dX6_isBarred_4 : decode cX6_isBarred 4 = .ok (.iload_n 1, 1) := vl_at vq_cX6_isBarred_0 (i := 2) rfl
theorem dX6_isBarred_5 : decode cX6_isBarred 5 = .ok (.ifCond .ne 7, 3) := vl_at vq_cX6_isBarred_0 (i := 3) rfl
theorem dX6_isBarred_8 : decode cX6_isBarred 8 = .ok (.iconst 1, 1) := vl_at vq_cX6_isBarred_0 (i := 4) rfl
theorem dX6_isBarred_9 : decode cX6_isBarred 9 = .ok (.goto 4, 3) := vl_at vq_cX6_isBarred_0 (i := 5) rfl
theorem dX6_isBarred_12 : decode cX6_isBarred 12 = .ok (.iconst 0, 1) := vl_at vq_cX6_isBarred_0 (i := 6) rfl
theorem dX6_isBarred_13 : decode cX6_isBarred 13 = .ok (.ireturn, 1) := vl_at vq_cX6_isBarred_0 (i := 7) rfl
noncomputable def vl_cX6_join_0 : List (Nat × Instr × Nat) := [(0, .aload_n 0, 1), (1, .iload_n 1, 1), (2, .iload_n 3, 1), (3, .iload 4, 2), (5, .iconst 1, 1), (6, .invokevirtual 117, 3), (9, .ifCond .eq 5, 3), (12, .iconst 0, 1), (13, .ireturn, 1), (14, .iload_n 1, 1), (15, .iload_n 3, 1), (16, .iload 4, 2), (18, .invokestatic 121, 3), (21, .invokestatic 124, 3), (24, .ifCond .eq 6, 3), (27, .bipush (-9), 2), (29, .ireturn, 1), (30, .aload_n 0, 1), (31, .iload_n 1, 1), (32, .iload_n 2, 1), (33, .iload_n 3, 1), (34, .iload 4, 2), (36, .invokestatic 121, 3), (39, .invokevirtual 127, 3), (42, .aload_n 0, 1), (43, .iload_n 1, 1), (44, .invokevirtual 91, 3), (47, .ireturn, 1)]
theorem vq_cX6_join_0 : vl_ok cX6_join vl_cX6_join_0 = true := by decide +kernel
theorem dX6_join_0 : decode cX6_join 0 = .ok (.aload_n 0, 1) := vl_at vq_cX6_join_0 (i := 0) rfl
theorem dX6_join_1 : decode cX6_join 1 = .ok (.iload_n 1, 1) := vl_at vq_cX6_join_0 (i := 1) rfl
theorem dX6_join_2 : decode cX6_join 2 = .ok (.iload_n 3, 1) := vl_at vq_cX6_join_0 (i := 2) rfl
theorem dX6_join_3 : decode cX6_join 3 = .ok (.iload 4, 2) := vl_at vq_cX6_join_0 (i := 3) rfl
theorem dX6_join_5 : decode cX6_join 5 = .ok (.iconst 1, 1) := vl_at vq_cX6_join_0 (i := 4) rfl
theorem dX6_join_6 : decode cX6_join 6 = .ok (.invokevirtual 117, 3) := vl_at vq_cX6_join_0 (i := 5) rfl
theorem dX6_join_9 : decode cX6_join 9 = .ok (.ifCond .eq 5, 3) := vl_at vq_cX6_join_0 (i := 6) rfl
theorem dX6_join_12 : decode cX6_join 12 = .ok (.iconst 0, 1) := vl_at vq_cX6_join_0 (i := 7) rfl
theorem dX6_join_13 : decode cX6_join 13 = .ok (.ireturn, 1) := vl_at vq_cX6_join_0 (i := 8) rfl
theorem dX6_join_14 : decode cX6_join 14 = .ok (.iload_n 1, 1) := vl_at vq_cX6_join_0 (i := 9) rfl
theorem dX6_join_15 : decode cX6_join 15 = .ok (.iload_n 3, 1) := vl_at vq_cX6_join_0 (i := 10) rfl
theorem dX6_join_16 : decode cX6_join 16 = .ok (.iload 4, 2) := vl_at vq_cX6_join_0 (i := 11) rfl
theorem dX6_join_18 : decode cX6_join 18 = .ok (.invokestatic 121, 3) := vl_at vq_cX6_join_0 (i := 12) rfl
theorem dX6_join_21 : decode cX6_join 21 = .ok (.invokestatic 124, 3) := vl_at vq_cX6_join_0 (i := 13) rfl
theorem dX6_join_24 : decode cX6_join 24 = .ok (.ifCond .eq 6, 3) := vl_at vq_cX6_join_0 (i := 14) rfl
theorem dX6_join_27 : decode cX6_join 27 = .ok (.bipush (-9), 2) := vl_at vq_cX6_join_0 (i := 15) rfl
theorem dX6_join_29 : decode cX6_join 29 = .ok (.ireturn, 1) := vl_at vq_cX6_join_0 (i := 16) rfl
theorem dX6_join_30 : decode cX6_join 30 = .ok (.aload_n 0, 1) := vl_at vq_cX6_join_0 (i := 17) rfl
theorem dX6_join_31 : decode cX6_join 31 = .ok (.iload_n 1, 1) := vl_at vq_cX6_join_0 (i := 18) rfl
theorem dX6_join_32 : decode cX6_join 32 = .ok (.iload_n 2, 1) := vl_at vq_cX6_join_0 (i := 19) rfl
theorem dX6_join_33 : decode cX6_join 33 = .ok (.iload_n 3, 1) := vl_at vq_cX6_join_0 (i := 20) rfl
theorem dX6_join_34 : decode cX6_join 34 = .ok (.iload 4, 2) := vl_at vq_cX6_join_0 (i := 21) rfl
theorem dX6_join_36 : decode cX6_join 36 = .ok (.invokestatic 121, 3) := vl_at vq_cX6_join_0 (i := 22) rfl
theorem dX6_join_39 : decode cX6_join 39 = .ok (.invokevirtual 127, 3) := vl_at vq_cX6_join_0 (i := 23) rfl
theorem dX6_join_42 : decode cX6_join 42 = .ok (.aload_n 0, 1) := vl_at vq_cX6_join_0 (i := 24) rfl
theorem dX6_join_43 : decode cX6_join 43 = .ok (.iload_n 1, 1) := vl_at vq_cX6_join_0 (i := 25) rfl
theorem dX6_join_44 : decode cX6_join 44 = .ok (.invokevirtual 91, 3) := vl_at vq_cX6_join_0 (i := 26) rfl
theorem dX6_join_47 : decode cX6_join 47 = .ok (.ireturn, 1) := vl_at vq_cX6_join_0 (i := 27) rfl
noncomputable def vl_cX6_offer_0 : List (Nat × Instr × Nat) := [(0, .aload_n 0, 1), (1, .iload_n 1, 1), (2, .iload_n 3, 1), (3, .iload 4, 2), (5, .iconst 1, 1), (6, .invokevirtual 117, 3), (9, .ifCond .ne 16, 3), (12, .iload_n 1, 1), (13, .iload_n 3, 1), (14, .iload 4, 2), (16, .invokestatic 121, 3), (19, .invokestatic 124, 3), (22, .ifCond .eq 5, 3), (25, .iconst 0, 1), (26, .ireturn, 1), (27, .aload_n 0, 1), (28, .iload_n 1, 1), (29, .iload_n 2, 1), (30, .iload_n 3, 1), (31, .iload 4, 2), (33, .invokestatic 121, 3), (36, .invokevirtual 127, 3), (39, .iconst 1, 1), (40, .ireturn, 1)]
theorem vq_cX6_offer_0 : vl_ok cX6_offer vl_cX6_offer_0 = true := by decide +kernel
theorem dX6_offer_0 : decode cX6_offer 0 = .ok (.aload_n 0, 1) := vl_at vq_cX6_offer_0 (i := 0) rfl
theorem dX6_offer_1 : decode cX6_offer 1 = .ok (.iload_n 1, 1) := vl_at vq_cX6_offer_0 (i := 1) rfl
theorem dX6_offer_2 : decode cX6_offer 2 = .ok (.iload_n 3, 1) := vl_at vq_cX6_offer_0 (i := 2) rfl
theorem dX6_offer_3 : decode cX6_offer 3 = .ok (.iload 4, 2) := vl_at vq_cX6_offer_0 (i := 3) rfl
theorem dX6_offer_5 : decode cX6_offer 5 = .ok (.iconst 1, 1) := vl_at vq_cX6_offer_0 (i := 4) rfl
theorem dX6_offer_6 : decode cX6_offer 6 = .ok (.invokevirtual 117, 3) := vl_at vq_cX6_offer_0 (i := 5) rfl
theorem dX6_offer_9 : decode cX6_offer 9 = .ok (.ifCond .ne 16, 3) := vl_at vq_cX6_offer_0 (i := 6) rfl
theorem dX6_offer_12 : decode cX6_offer 12 = .ok (.iload_n 1, 1) := vl_at vq_cX6_offer_0 (i := 7) rfl
theorem dX6_offer_13 : decode cX6_offer 13 = .ok (.iload_n 3, 1) := vl_at vq_cX6_offer_0 (i := 8) rfl
theorem dX6_offer_14 : decode cX6_offer 14 = .ok (.iload 4, 2) := vl_at vq_cX6_offer_0 (i := 9) rfl
theorem dX6_offer_16 : decode cX6_offer 16 = .ok (.invokestatic 121, 3) := vl_at vq_cX6_offer_0 (i := 10) rfl
theorem dX6_offer_19 : decode cX6_offer 19 = .ok (.invokestatic 124, 3) := vl_at vq_cX6_offer_0 (i := 11) rfl
theorem dX6_offer_22 : decode cX6_offer 22 = .ok (.ifCond .eq 5, 3) := vl_at vq_cX6_offer_0 (i := 12) rfl
theorem dX6_offer_25 : decode cX6_offer 25 = .ok (.iconst 0, 1) := vl_at vq_cX6_offer_0 (i := 13) rfl
theorem dX6_offer_26 : decode cX6_offer 26 = .ok (.ireturn, 1) := vl_at vq_cX6_offer_0 (i := 14) rfl
theorem dX6_offer_27 : decode cX6_offer 27 = .ok (.aload_n 0, 1) := vl_at vq_cX6_offer_0 (i := 15) rfl
theorem dX6_offer_28 : decode cX6_offer 28 = .ok (.iload_n 1, 1) := vl_at vq_cX6_offer_0 (i := 16) rfl
theorem dX6_offer_29 : decode cX6_offer 29 = .ok (.iload_n 2, 1) := vl_at vq_cX6_offer_0 (i := 17) rfl
theorem dX6_offer_30 : decode cX6_offer 30 = .ok (.iload_n 3, 1) := vl_at vq_cX6_offer_0 (i := 18) rfl
theorem dX6_offer_31 : decode cX6_offer 31 = .ok (.iload 4, 2) := vl_at vq_cX6_offer_0 (i := 19) rfl
theorem dX6_offer_33 : decode cX6_offer 33 = .ok (.invokestatic 121, 3) := vl_at vq_cX6_offer_0 (i := 20) rfl
theorem dX6_offer_36 : decode cX6_offer 36 = .ok (.invokevirtual 127, 3) := vl_at vq_cX6_offer_0 (i := 21) rfl
theorem dX6_offer_39 : decode cX6_offer 39 = .ok (.iconst 1, 1) := vl_at vq_cX6_offer_0 (i := 22) rfl
theorem dX6_offer_40 : decode cX6_offer 40 = .ok (.ireturn, 1) := vl_at vq_cX6_offer_0 (i := 23) rfl
noncomputable def vl_cX6_push_0 : List (Nat × Instr × Nat) := [(0, .aload_n 0, 1), (1, .iload_n 1, 1), (2, .iload_n 2, 1), (3, .iload_n 3, 1), (4, .iconst 1, 1), (5, .invokevirtual 117, 3), (8, .ifCond .eq 5, 3), (11, .iconst 0, 1), (12, .ireturn, 1), (13, .iload_n 1, 1), (14, .iload_n 2, 1), (15, .iload_n 3, 1), (16, .invokestatic 121, 3), (19, .invokestatic 124, 3), (22, .ifCond .eq 6, 3), (25, .bipush (-9), 2), (27, .ireturn, 1), (28, .aload_n 0, 1), (29, .iload_n 1, 1), (30, .invokevirtual 91, 3), (33, .ifCond .ne 7, 3), (36, .iconst 0, 1), (37, .goto 9, 3), (40, .aload_n 0, 1), (41, .iload_n 1, 1), (42, .iconst 0, 1), (43, .invokevirtual 131, 3), (46, .istore 4, 2), (48, .aload_n 0, 1), (49, .iload_n 1, 1), (50, .iconst 0, 1), (51, .iload_n 2, 1), (52, .iload_n 3, 1), (53, .invokestatic 121, 3), (56, .invokevirtual 127, 3), (59, .iload 4, 2), (61, .ireturn, 1)]
theorem vq_cX6_push_0 : vl_ok cX6_push vl_cX6_push_0 = true := by decide +kernel
theorem dX6_push_0 : decode cX6_push 0 = .ok (.aload_n 0, 1) := vl_at vq_cX6_push_0 (i := 0) rfl
theorem dX6_push_1 : decode cX6_push 1 = .ok (.iload_n 1, 1) := vl_at vq_cX6_push_0 (i := 1) rfl
theorem dX6_push_2 : decode cX6_push 2 = .ok (.iload_n 2, 1) := vl_at vq_cX6_push_0 (i := 2) rfl
theorem dX6_push_3 : decode cX6_push 3 = .ok (.iload_n 3, 1) := vl_at vq_cX6_push_0 (i := 3) rfl
theorem dX6_push_4 : decode cX6_push 4 = .ok (.iconst 1, 1) := vl_at vq_cX6_push_0 (i := 4) rfl
theorem dX6_push_5 : decode cX6_push 5 = .ok (.invokevirtual 117, 3) := vl_at vq_cX6_push_0 (i := 5) rfl
theorem dX6_push_8 : decode cX6_push 8 = .ok (.ifCond .eq 5, 3) := vl_at vq_cX6_push_0 (i := 6) rfl
theorem dX6_push_11 : decode cX6_push 11 = .ok (.iconst 0, 1) := vl_at vq_cX6_push_0 (i := 7) rfl
theorem dX6_push_12 : decode cX6_push 12 = .ok (.ireturn, 1) := vl_at vq_cX6_push_0 (i := 8) rfl
theorem dX6_push_13 : decode cX6_push 13 = .ok (.iload_n 1, 1) := vl_at vq_cX6_push_0 (i := 9) rfl
theorem dX6_push_14 : decode cX6_push 14 = .ok (.iload_n 2, 1) := vl_at vq_cX6_push_0 (i := 10) rfl
theorem dX6_push_15 : decode cX6_push 15 = .ok (.iload_n 3, 1) := vl_at vq_cX6_push_0 (i := 11) rfl
theorem dX6_push_16 : decode cX6_push 16 = .ok (.invokestatic 121, 3) := vl_at vq_cX6_push_0 (i := 12) rfl
theorem dX6_push_19 : decode cX6_push 19 = .ok (.invokestatic 124, 3) := vl_at vq_cX6_push_0 (i := 13) rfl
theorem dX6_push_22 : decode cX6_push 22 = .ok (.ifCond .eq 6, 3) := vl_at vq_cX6_push_0 (i := 14) rfl
theorem dX6_push_25 : decode cX6_push 25 = .ok (.bipush (-9), 2) := vl_at vq_cX6_push_0 (i := 15) rfl
theorem dX6_push_27 : decode cX6_push 27 = .ok (.ireturn, 1) := vl_at vq_cX6_push_0 (i := 16) rfl
theorem dX6_push_28 : decode cX6_push 28 = .ok (.aload_n 0, 1) := vl_at vq_cX6_push_0 (i := 17) rfl
theorem dX6_push_29 : decode cX6_push 29 = .ok (.iload_n 1, 1) := vl_at vq_cX6_push_0 (i := 18) rfl
theorem dX6_push_30 : decode cX6_push 30 = .ok (.invokevirtual 91, 3) := vl_at vq_cX6_push_0 (i := 19) rfl
theorem dX6_push_33 : decode cX6_push 33 = .ok (.ifCond .ne 7, 3) := vl_at vq_cX6_push_0 (i := 20) rfl
theorem dX6_push_36 : decode cX6_push 36 = .ok (.iconst 0, 1) := vl_at vq_cX6_push_0 (i := 21) rfl
theorem dX6_push_37 : decode cX6_push 37 = .ok (.goto 9, 3) := vl_at vq_cX6_push_0 (i := 22) rfl
theorem dX6_push_40 : decode cX6_push 40 = .ok (.aload_n 0, 1) := vl_at vq_cX6_push_0 (i := 23) rfl
theorem dX6_push_41 : decode cX6_push 41 = .ok (.iload_n 1, 1) := vl_at vq_cX6_push_0 (i := 24) rfl
theorem dX6_push_42 : decode cX6_push 42 = .ok (.iconst 0, 1) := vl_at vq_cX6_push_0 (i := 25) rfl
theorem dX6_push_43 : decode cX6_push 43 = .ok (.invokevirtual 131, 3) := vl_at vq_cX6_push_0 (i := 26) rfl
theorem dX6_push_46 : decode cX6_push 46 = .ok (.istore 4, 2) := vl_at vq_cX6_push_0 (i := 27) rfl
theorem dX6_push_48 : decode cX6_push 48 = .ok (.aload_n 0, 1) := vl_at vq_cX6_push_0 (i := 28) rfl
theorem dX6_push_49 : decode cX6_push 49 = .ok (.iload_n 1, 1) := vl_at vq_cX6_push_0 (i := 29) rfl
theorem dX6_push_50 : decode cX6_push 50 = .ok (.iconst 0, 1) := vl_at vq_cX6_push_0 (i := 30) rfl
theorem dX6_push_51 : decode cX6_push 51 = .ok (.iload_n 2, 1) := vl_at vq_cX6_push_0 (i := 31) rfl
theorem dX6_push_52 : decode cX6_push 52 = .ok (.iload_n 3, 1) := vl_at vq_cX6_push_0 (i := 32) rfl
theorem dX6_push_53 : decode cX6_push 53 = .ok (.invokestatic 121, 3) := vl_at vq_cX6_push_0 (i := 33) rfl
theorem dX6_push_56 : decode cX6_push 56 = .ok (.invokevirtual 127, 3) := vl_at vq_cX6_push_0 (i := 34) rfl
theorem dX6_push_59 : decode cX6_push 59 = .ok (.iload 4, 2) := vl_at vq_cX6_push_0 (i := 35) rfl
theorem dX6_push_61 : decode cX6_push 61 = .ok (.ireturn, 1) := vl_at vq_cX6_push_0 (i := 36) rfl
noncomputable def vl_cX6_append_0 : List (Nat × Instr × Nat) := [(0, .aload_n 0, 1), (1, .iload_n 1, 1), (2, .iconst 1, 1), (3, .iload_n 2, 1), (4, .iload_n 3, 1), (5, .invokevirtual 133, 3), (8, .ireturn, 1)]
theorem vq_cX6_append_0 : vl_ok cX6_append vl_cX6_append_0 = true := by decide +kernel
theorem dX6_append_0 : decode cX6_append 0 = .ok (.aload_n 0, 1) := vl_at vq_cX6_append_0 (i := 0) rfl
theorem dX6_append_1 : decode cX6_append 1 = .ok (.iload_n 1, 1) := vl_at vq_cX6_append_0 (i := 1) rfl
theorem dX6_append_2 : decode cX6_append 2 = .ok (.iconst 1, 1) := vl_at vq_cX6_append_0 (i := 2) rfl
theorem dX6_append_3 : decode cX6_append 3 = .ok (.iload_n 2, 1) := vl_at vq_cX6_append_0 (i := 3) rfl
theorem dX6_append_4 : decode cX6_append 4 = .ok (.iload_n 3, 1) := vl_at vq_cX6_append_0 (i := 4) rfl
theorem dX6_append_5 : decode cX6_append 5 = .ok (.invokevirtual 133, 3) := vl_at vq_cX6_append_0 (i := 5) rfl
theorem dX6_append_8 : decode cX6_append 8 = .ok (.ireturn, 1) := vl_at vq_cX6_append_0 (i := 6) rfl
noncomputable def vl_cX6_train_0 : List (Nat × Instr × Nat) := [(0, .aload_n 0, 1), (1, .iload_n 1, 1), (2, .invokestatic 106, 3), (5, .iconst 1, 1), (6, .invokevirtual 110, 3), (9, .ifCond .ne 65, 3), (12, .aload_n 0, 1), (13, .iload_n 2, 1), (14, .iload_n 3, 1), (15, .invokestatic 113, 3), (18, .ifCond .ne 18, 3), (21, .iload_n 2, 1), (22, .ifCond .eq 14, 3), (25, .iload 4, 2), (27, .iconst 1, 1), (28, .bipush 12, 2), (30, .invokestatic 44, 3), (33, .ifCond .ne 7, 3), (36, .iconst 1, 1), (37, .goto 4, 3), (40, .iconst 0, 1), (41, .iconst 2, 1), (42, .invokevirtual 40, 3), (45, .ifCond .ne 29, 3), (48, .aload_n 0, 1), (49, .aload_n 0, 1), (50, .iload_n 1, 1), (51, .invokevirtual 91, 3), (54, .iload 4, 2), (56, .iadd, 1), (57, .bipush 20, 2), (59, .if_icmp .le 7, 3), (62, .iconst 1, 1), (63, .goto 4, 3), (66, .iconst 0, 1), (67, .iconst 3, 1), (68, .invokevirtual 40, 3), (71, .ifCond .eq 5, 3), (74, .iconst 0, 1), (75, .ireturn, 1)]
theorem vq_cX6_train_0 : vl_ok cX6_train vl_cX6_train_0 = true := by decide +kernel
theorem dX6_train_0 : decode cX6_train 0 = .ok (.aload_n 0, 1) := vl_at vq_cX6_train_0 (i := 0) rfl
theorem dX6_train_1 : decode cX6_train 1 = .ok (.iload_n 1, 1) := vl_at vq_cX6_train_0 (i := 1) rfl
theorem dX6_train_2 : decode cX6_train 2 = .ok (.invokestatic 106, 3) := vl_at vq_cX6_train_0 (i := 2) rfl
theorem dX6_train_5 : decode cX6_train 5 = .ok (.iconst 1, 1) := vl_at vq_cX6_train_0 (i := 3) rfl
theorem dX6_train_6 : decode cX6_train 6 = .ok (.invokevirtual 110, 3) := vl_at vq_cX6_train_0 (i := 4) rfl
theorem dX6_train_9 : decode cX6_train 9 = .ok (.ifCond .ne 65, 3) := vl_at vq_cX6_train_0 (i := 5) rfl
theorem dX6_train_12 : decode cX6_train 12 = .ok (.aload_n 0, 1) := vl_at vq_cX6_train_0 (i := 6) rfl
theorem dX6_train_13 : decode cX6_train 13 = .ok (.iload_n 2, 1) := vl_at vq_cX6_train_0 (i := 7) rfl
theorem dX6_train_14 : decode cX6_train 14 = .ok (.iload_n 3, 1) := vl_at vq_cX6_train_0 (i := 8) rfl
theorem dX6_train_15 : decode cX6_train 15 = .ok (.invokestatic 113, 3) := vl_at vq_cX6_train_0 (i := 9) rfl
theorem dX6_train_18 : decode cX6_train 18 = .ok (.ifCond .ne 18, 3) := vl_at vq_cX6_train_0 (i := 10) rfl
theorem dX6_train_21 : decode cX6_train 21 = .ok (.iload_n 2, 1) := vl_at vq_cX6_train_0 (i := 11) rfl
theorem dX6_train_22 : decode cX6_train 22 = .ok (.ifCond .eq 14, 3) := vl_at vq_cX6_train_0 (i := 12) rfl
theorem dX6_train_25 : decode cX6_train 25 = .ok (.iload 4, 2) := vl_at vq_cX6_train_0 (i := 13) rfl
theorem dX6_train_27 : decode cX6_train 27 = .ok (.iconst 1, 1) := vl_at vq_cX6_train_0 (i := 14) rfl
theorem dX6_train_28 : decode cX6_train 28 = .ok (.bipush 12, 2) := vl_at vq_cX6_train_0 (i := 15) rfl
theorem dX6_train_30 : decode cX6_train 30 = .ok (.invokestatic 44, 3) := vl_at vq_cX6_train_0 (i := 16) rfl
theorem dX6_train_33 : decode cX6_train 33 = .ok (.ifCond .ne 7, 3) := vl_at vq_cX6_train_0 (i := 17) rfl
theorem dX6_train_36 : decode cX6_train 36 = .ok (.iconst 1, 1) := vl_at vq_cX6_train_0 (i := 18) rfl
theorem dX6_train_37 : decode cX6_train 37 = .ok (.goto 4, 3) := vl_at vq_cX6_train_0 (i := 19) rfl
theorem dX6_train_40 : decode cX6_train 40 = .ok (.iconst 0, 1) := vl_at vq_cX6_train_0 (i := 20) rfl
theorem dX6_train_41 : decode cX6_train 41 = .ok (.iconst 2, 1) := vl_at vq_cX6_train_0 (i := 21) rfl
theorem dX6_train_42 : decode cX6_train 42 = .ok (.invokevirtual 40, 3) := vl_at vq_cX6_train_0 (i := 22) rfl
theorem dX6_train_45 : decode cX6_train 45 = .ok (.ifCond .ne 29, 3) := vl_at vq_cX6_train_0 (i := 23) rfl
theorem dX6_train_48 : decode cX6_train 48 = .ok (.aload_n 0, 1) := vl_at vq_cX6_train_0 (i := 24) rfl
theorem dX6_train_49 : decode cX6_train 49 = .ok (.aload_n 0, 1) := vl_at vq_cX6_train_0 (i := 25) rfl
theorem dX6_train_50 : decode cX6_train 50 = .ok (.iload_n 1, 1) := vl_at vq_cX6_train_0 (i := 26) rfl
theorem dX6_train_51 : decode cX6_train 51 = .ok (.invokevirtual 91, 3) := vl_at vq_cX6_train_0 (i := 27) rfl
theorem dX6_train_54 : decode cX6_train 54 = .ok (.iload 4, 2) := vl_at vq_cX6_train_0 (i := 28) rfl
theorem dX6_train_56 : decode cX6_train 56 = .ok (.iadd, 1) := vl_at vq_cX6_train_0 (i := 29) rfl
theorem dX6_train_57 : decode cX6_train 57 = .ok (.bipush 20, 2) := vl_at vq_cX6_train_0 (i := 30) rfl
theorem dX6_train_59 : decode cX6_train 59 = .ok (.if_icmp .le 7, 3) := vl_at vq_cX6_train_0 (i := 31) rfl
theorem dX6_train_62 : decode cX6_train 62 = .ok (.iconst 1, 1) := vl_at vq_cX6_train_0 (i := 32) rfl
theorem dX6_train_63 : decode cX6_train 63 = .ok (.goto 4, 3) := vl_at vq_cX6_train_0 (i := 33) rfl
theorem dX6_train_66 : decode cX6_train 66 = .ok (.iconst 0, 1) := vl_at vq_cX6_train_0 (i := 34) rfl
theorem dX6_train_67 : decode cX6_train 67 = .ok (.iconst 3, 1) := vl_at vq_cX6_train_0 (i := 35) rfl
theorem dX6_train_68 : decode cX6_train 68 = .ok (.invokevirtual 40, 3) := vl_at vq_cX6_train_0 (i := 36) rfl
theorem dX6_train_71 : decode cX6_train 71 = .ok (.ifCond .eq 5, 3) := vl_at vq_cX6_train_0 (i := 37) rfl
theorem dX6_train_74 : decode cX6_train 74 = .ok (.iconst 0, 1) := vl_at vq_cX6_train_0 (i := 38) rfl
theorem dX6_train_75 : decode cX6_train 75 = .ok (.ireturn, 1) := vl_at vq_cX6_train_0 (i := 39) rfl
noncomputable def vl_cX6_train_1 : List (Nat × Instr × Nat) := [(76, .iconst 0, 1), (77, .istore 5, 2), (79, .iload 5, 2), (81, .iload 4, 2), (83, .if_icmp .ge 39, 3), (86, .aload_n 0, 1), (87, .iload_n 1, 1), (88, .iconst 1, 1), (89, .iconst 1, 1), (90, .iload_n 2, 1), (91, .iconst 1, 1), (92, .isub, 1), (93, .iload 5, 2), (95, .iadd, 1), (96, .bipush 9, 2), (98, .irem, 1), (99, .iadd, 1), (100, .iload_n 3, 1), (101, .bipush 7, 2), (103, .iload 5, 2), (105, .imul, 1), (106, .iadd, 1), (107, .bipush 100, 2), (109, .irem, 1), (110, .invokestatic 121, 3), (113, .invokevirtual 127, 3), (116, .iinc 5 1, 3), (119, .goto (-40), 3), (122, .aload_n 0, 1), (123, .iload_n 1, 1), (124, .invokevirtual 91, 3), (127, .ireturn, 1)]
theorem vq_cX6_train_1 : vl_ok cX6_train vl_cX6_train_1 = true := by decide +kernel
theorem dX6_train_76 : decode cX6_train 76 = .ok (.iconst 0, 1) := vl_at vq_cX6_train_1 (i := 0) rfl
theorem dX6_train_77 : decode cX6_train 77 = .ok (.istore 5, 2) := vl_at vq_cX6_train_1 (i := 1) rfl
theorem dX6_train_79 : decode cX6_train 79 = .ok (.iload 5, 2) := vl_at vq_cX6_train_1 (i := 2) rfl
theorem dX6_train_81 : decode cX6_train 81 = .ok (.iload 4, 2) := vl_at vq_cX6_train_1 (i := 3) rfl
theorem dX6_train_83 : decode cX6_train 83 = .ok (.if_icmp .ge 39, 3) := vl_at vq_cX6_train_1 (i := 4) rfl
theorem dX6_train_86 : decode cX6_train 86 = .ok (.aload_n 0, 1) := vl_at vq_cX6_train_1 (i := 5) rfl
theorem dX6_train_87 : decode cX6_train 87 = .ok (.iload_n 1, 1) := vl_at vq_cX6_train_1 (i := 6) rfl
theorem dX6_train_88 : decode cX6_train 88 = .ok (.iconst 1, 1) := vl_at vq_cX6_train_1 (i := 7) rfl
theorem dX6_train_89 : decode cX6_train 89 = .ok (.iconst 1, 1) := vl_at vq_cX6_train_1 (i := 8) rfl
theorem dX6_train_90 : decode cX6_train 90 = .ok (.iload_n 2, 1) := vl_at vq_cX6_train_1 (i := 9) rfl
theorem dX6_train_91 : decode cX6_train 91 = .ok (.iconst 1, 1) := vl_at vq_cX6_train_1 (i := 10) rfl
theorem dX6_train_92 : decode cX6_train 92 = .ok (.isub, 1) := vl_at vq_cX6_train_1 (i := 11) rfl
theorem dX6_train_93 : decode cX6_train 93 = .ok (.iload 5, 2) := vl_at vq_cX6_train_1 (i := 12) rfl
theorem dX6_train_95 : decode cX6_train 95 = .ok (.iadd, 1) := vl_at vq_cX6_train_1 (i := 13) rfl
theorem dX6_train_96 : decode cX6_train 96 = .ok (.bipush 9, 2) := vl_at vq_cX6_train_1 (i := 14) rfl
theorem dX6_train_98 : decode cX6_train 98 = .ok (.irem, 1) := vl_at vq_cX6_train_1 (i := 15) rfl
theorem dX6_train_99 : decode cX6_train 99 = .ok (.iadd, 1) := vl_at vq_cX6_train_1 (i := 16) rfl
theorem dX6_train_100 : decode cX6_train 100 = .ok (.iload_n 3, 1) := vl_at vq_cX6_train_1 (i := 17) rfl
theorem dX6_train_101 : decode cX6_train 101 = .ok (.bipush 7, 2) := vl_at vq_cX6_train_1 (i := 18) rfl
theorem dX6_train_103 : decode cX6_train 103 = .ok (.iload 5, 2) := vl_at vq_cX6_train_1 (i := 19) rfl
theorem dX6_train_105 : decode cX6_train 105 = .ok (.imul, 1) := vl_at vq_cX6_train_1 (i := 20) rfl
theorem dX6_train_106 : decode cX6_train 106 = .ok (.iadd, 1) := vl_at vq_cX6_train_1 (i := 21) rfl
theorem dX6_train_107 : decode cX6_train 107 = .ok (.bipush 100, 2) := vl_at vq_cX6_train_1 (i := 22) rfl
theorem dX6_train_109 : decode cX6_train 109 = .ok (.irem, 1) := vl_at vq_cX6_train_1 (i := 23) rfl
theorem dX6_train_110 : decode cX6_train 110 = .ok (.invokestatic 121, 3) := vl_at vq_cX6_train_1 (i := 24) rfl
theorem dX6_train_113 : decode cX6_train 113 = .ok (.invokevirtual 127, 3) := vl_at vq_cX6_train_1 (i := 25) rfl
theorem dX6_train_116 : decode cX6_train 116 = .ok (.iinc 5 1, 3) := vl_at vq_cX6_train_1 (i := 26) rfl
theorem dX6_train_119 : decode cX6_train 119 = .ok (.goto (-40), 3) := vl_at vq_cX6_train_1 (i := 27) rfl
theorem dX6_train_122 : decode cX6_train 122 = .ok (.aload_n 0, 1) := vl_at vq_cX6_train_1 (i := 28) rfl
theorem dX6_train_123 : decode cX6_train 123 = .ok (.iload_n 1, 1) := vl_at vq_cX6_train_1 (i := 29) rfl
theorem dX6_train_124 : decode cX6_train 124 = .ok (.invokevirtual 91, 3) := vl_at vq_cX6_train_1 (i := 30) rfl
theorem dX6_train_127 : decode cX6_train 127 = .ok (.ireturn, 1) := vl_at vq_cX6_train_1 (i := 31) rfl
noncomputable def vl_cX6_off_0 : List (Nat × Instr × Nat) := [(0, .aload_n 0, 1), (1, .iload_n 1, 1), (2, .invokevirtual 91, 3), (5, .ifCond .ne 7, 3), (8, .iload_n 3, 1), (9, .goto 9, 3), (12, .aload_n 0, 1), (13, .iload_n 1, 1), (14, .iload_n 2, 1), (15, .invokevirtual 137, 3), (18, .ireturn, 1)]
theorem vq_cX6_off_0 : vl_ok cX6_off vl_cX6_off_0 = true := by decide +kernel
theorem dX6_off_0 : decode cX6_off 0 = .ok (.aload_n 0, 1) := vl_at vq_cX6_off_0 (i := 0) rfl
theorem dX6_off_1 : decode cX6_off 1 = .ok (.iload_n 1, 1) := vl_at vq_cX6_off_0 (i := 1) rfl
theorem dX6_off_2 : decode cX6_off 2 = .ok (.invokevirtual 91, 3) := vl_at vq_cX6_off_0 (i := 2) rfl
theorem dX6_off_5 : decode cX6_off 5 = .ok (.ifCond .ne 7, 3) := vl_at vq_cX6_off_0 (i := 3) rfl
theorem dX6_off_8 : decode cX6_off 8 = .ok (.iload_n 3, 1) := vl_at vq_cX6_off_0 (i := 4) rfl
theorem dX6_off_9 : decode cX6_off 9 = .ok (.goto 9, 3) := vl_at vq_cX6_off_0 (i := 5) rfl
theorem dX6_off_12 : decode cX6_off 12 = .ok (.aload_n 0, 1) := vl_at vq_cX6_off_0 (i := 6) rfl
theorem dX6_off_13 : decode cX6_off 13 = .ok (.iload_n 1, 1) := vl_at vq_cX6_off_0 (i := 7) rfl
theorem dX6_off_14 : decode cX6_off 14 = .ok (.iload_n 2, 1) := vl_at vq_cX6_off_0 (i := 8) rfl
theorem dX6_off_15 : decode cX6_off 15 = .ok (.invokevirtual 137, 3) := vl_at vq_cX6_off_0 (i := 9) rfl
theorem dX6_off_18 : decode cX6_off 18 = .ok (.ireturn, 1) := vl_at vq_cX6_off_0 (i := 10) rfl
noncomputable def vl_cX6_take_0 : List (Nat × Instr × Nat) := [(0, .aload_n 0, 1), (1, .iload_n 1, 1), (2, .invokestatic 106, 3), (5, .iconst 1, 1), (6, .invokevirtual 110, 3), (9, .ifCond .eq 7, 3), (12, .iconst 0, 1), (13, .goto 11, 3), (16, .aload_n 0, 1), (17, .iload_n 1, 1), (18, .iload_n 2, 1), (19, .bipush (-9), 2), (21, .invokevirtual 141, 3), (24, .ireturn, 1)]
theorem vq_cX6_take_0 : vl_ok cX6_take vl_cX6_take_0 = true := by decide +kernel
theorem dX6_take_0 : decode cX6_take 0 = .ok (.aload_n 0, 1) := vl_at vq_cX6_take_0 (i := 0) rfl
theorem dX6_take_1 : decode cX6_take 1 = .ok (.iload_n 1, 1) := vl_at vq_cX6_take_0 (i := 1) rfl
theorem dX6_take_2 : decode cX6_take 2 = .ok (.invokestatic 106, 3) := vl_at vq_cX6_take_0 (i := 2) rfl
theorem dX6_take_5 : decode cX6_take 5 = .ok (.iconst 1, 1) := vl_at vq_cX6_take_0 (i := 3) rfl
theorem dX6_take_6 : decode cX6_take 6 = .ok (.invokevirtual 110, 3) := vl_at vq_cX6_take_0 (i := 4) rfl
theorem dX6_take_9 : decode cX6_take 9 = .ok (.ifCond .eq 7, 3) := vl_at vq_cX6_take_0 (i := 5) rfl
theorem dX6_take_12 : decode cX6_take 12 = .ok (.iconst 0, 1) := vl_at vq_cX6_take_0 (i := 6) rfl
theorem dX6_take_13 : decode cX6_take 13 = .ok (.goto 11, 3) := vl_at vq_cX6_take_0 (i := 7) rfl
theorem dX6_take_16 : decode cX6_take 16 = .ok (.aload_n 0, 1) := vl_at vq_cX6_take_0 (i := 8) rfl
theorem dX6_take_17 : decode cX6_take 17 = .ok (.iload_n 1, 1) := vl_at vq_cX6_take_0 (i := 9) rfl
theorem dX6_take_18 : decode cX6_take 18 = .ok (.iload_n 2, 1) := vl_at vq_cX6_take_0 (i := 10) rfl
theorem dX6_take_19 : decode cX6_take 19 = .ok (.bipush (-9), 2) := vl_at vq_cX6_take_0 (i := 11) rfl
theorem dX6_take_21 : decode cX6_take 21 = .ok (.invokevirtual 141, 3) := vl_at vq_cX6_take_0 (i := 12) rfl
theorem dX6_take_24 : decode cX6_take 24 = .ok (.ireturn, 1) := vl_at vq_cX6_take_0 (i := 13) rfl
noncomputable def vl_cX6_poll_0 : List (Nat × Instr × Nat) := [(0, .aload_n 0, 1), (1, .iload_n 1, 1), (2, .invokestatic 106, 3), (5, .iconst 1, 1), (6, .invokevirtual 110, 3), (9, .ifCond .eq 7, 3), (12, .iconst 0, 1), (13, .goto 10, 3), (16, .aload_n 0, 1), (17, .iload_n 1, 1), (18, .iload_n 2, 1), (19, .iconst 0, 1), (20, .invokevirtual 141, 3), (23, .ireturn, 1)]
theorem vq_cX6_poll_0 : vl_ok cX6_poll vl_cX6_poll_0 = true := by decide +kernel
theorem dX6_poll_0 : decode cX6_poll 0 = .ok (.aload_n 0, 1) := vl_at vq_cX6_poll_0 (i := 0) rfl
theorem dX6_poll_1 : decode cX6_poll 1 = .ok (.iload_n 1, 1) := vl_at vq_cX6_poll_0 (i := 1) rfl
theorem dX6_poll_2 : decode cX6_poll 2 = .ok (.invokestatic 106, 3) := vl_at vq_cX6_poll_0 (i := 2) rfl
theorem dX6_poll_5 : decode cX6_poll 5 = .ok (.iconst 1, 1) := vl_at vq_cX6_poll_0 (i := 3) rfl
theorem dX6_poll_6 : decode cX6_poll 6 = .ok (.invokevirtual 110, 3) := vl_at vq_cX6_poll_0 (i := 4) rfl
theorem dX6_poll_9 : decode cX6_poll 9 = .ok (.ifCond .eq 7, 3) := vl_at vq_cX6_poll_0 (i := 5) rfl
theorem dX6_poll_12 : decode cX6_poll 12 = .ok (.iconst 0, 1) := vl_at vq_cX6_poll_0 (i := 6) rfl
theorem dX6_poll_13 : decode cX6_poll 13 = .ok (.goto 10, 3) := vl_at vq_cX6_poll_0 (i := 7) rfl
theorem dX6_poll_16 : decode cX6_poll 16 = .ok (.aload_n 0, 1) := vl_at vq_cX6_poll_0 (i := 8) rfl
theorem dX6_poll_17 : decode cX6_poll 17 = .ok (.iload_n 1, 1) := vl_at vq_cX6_poll_0 (i := 9) rfl
theorem dX6_poll_18 : decode cX6_poll 18 = .ok (.iload_n 2, 1) := vl_at vq_cX6_poll_0 (i := 10) rfl
theorem dX6_poll_19 : decode cX6_poll 19 = .ok (.iconst 0, 1) := vl_at vq_cX6_poll_0 (i := 11) rfl
theorem dX6_poll_20 : decode cX6_poll 20 = .ok (.invokevirtual 141, 3) := vl_at vq_cX6_poll_0 (i := 12) rfl
theorem dX6_poll_23 : decode cX6_poll 23 = .ok (.ireturn, 1) := vl_at vq_cX6_poll_0 (i := 13) rfl
noncomputable def vl_cX6_pop_0 : List (Nat × Instr × Nat) := [(0, .aload_n 0, 1), (1, .iload_n 1, 1), (2, .invokestatic 106, 3), (5, .iconst 1, 1), (6, .invokevirtual 110, 3), (9, .ifCond .eq 7, 3), (12, .iconst 0, 1), (13, .goto 11, 3), (16, .aload_n 0, 1), (17, .iload_n 1, 1), (18, .iconst 0, 1), (19, .bipush (-9), 2), (21, .invokevirtual 141, 3), (24, .ireturn, 1)]
theorem vq_cX6_pop_0 : vl_ok cX6_pop vl_cX6_pop_0 = true := by decide +kernel
theorem dX6_pop_0 : decode cX6_pop 0 = .ok (.aload_n 0, 1) := vl_at vq_cX6_pop_0 (i := 0) rfl
theorem dX6_pop_1 : decode cX6_pop 1 = .ok (.iload_n 1, 1) := vl_at vq_cX6_pop_0 (i := 1) rfl
theorem dX6_pop_2 : decode cX6_pop 2 = .ok (.invokestatic 106, 3) := vl_at vq_cX6_pop_0 (i := 2) rfl
theorem dX6_pop_5 : decode cX6_pop 5 = .ok (.iconst 1, 1) := vl_at vq_cX6_pop_0 (i := 3) rfl
theorem dX6_pop_6 : decode cX6_pop 6 = .ok (.invokevirtual 110, 3) := vl_at vq_cX6_pop_0 (i := 4) rfl
theorem dX6_pop_9 : decode cX6_pop 9 = .ok (.ifCond .eq 7, 3) := vl_at vq_cX6_pop_0 (i := 5) rfl
theorem dX6_pop_12 : decode cX6_pop 12 = .ok (.iconst 0, 1) := vl_at vq_cX6_pop_0 (i := 6) rfl
theorem dX6_pop_13 : decode cX6_pop 13 = .ok (.goto 11, 3) := vl_at vq_cX6_pop_0 (i := 7) rfl
theorem dX6_pop_16 : decode cX6_pop 16 = .ok (.aload_n 0, 1) := vl_at vq_cX6_pop_0 (i := 8) rfl
theorem dX6_pop_17 : decode cX6_pop 17 = .ok (.iload_n 1, 1) := vl_at vq_cX6_pop_0 (i := 9) rfl
theorem dX6_pop_18 : decode cX6_pop 18 = .ok (.iconst 0, 1) := vl_at vq_cX6_pop_0 (i := 10) rfl
theorem dX6_pop_19 : decode cX6_pop 19 = .ok (.bipush (-9), 2) := vl_at vq_cX6_pop_0 (i := 11) rfl
theorem dX6_pop_21 : decode cX6_pop 21 = .ok (.invokevirtual 141, 3) := vl_at vq_cX6_pop_0 (i := 12) rfl
theorem dX6_pop_24 : decode cX6_pop 24 = .ok (.ireturn, 1) := vl_at vq_cX6_pop_0 (i := 13) rfl
noncomputable def vl_cX6_serve_0 : List (Nat × Instr × Nat) := [(0, .aload_n 0, 1), (1, .iload_n 1, 1), (2, .invokestatic 106, 3), (5, .iconst 1, 1), (6, .invokevirtual 110, 3), (9, .ifCond .eq 7, 3), (12, .iconst 0, 1), (13, .goto 19, 3), (16, .aload_n 0, 1), (17, .iload_n 1, 1), (18, .iconst 0, 1), (19, .iload_n 2, 1), (20, .ifCond .eq 7, 3), (23, .iconst 0, 1), (24, .goto 5, 3), (27, .bipush (-9), 2), (29, .invokevirtual 141, 3), (32, .ireturn, 1)]
theorem vq_cX6_serve_0 : vl_ok cX6_serve vl_cX6_serve_0 = true := by decide +kernel
theorem dX6_serve_0 : decode cX6_serve 0 = .ok (.aload_n 0, 1) := vl_at vq_cX6_serve_0 (i := 0) rfl
theorem dX6_serve_1 : decode cX6_serve 1 = .ok (.iload_n 1, 1) := vl_at vq_cX6_serve_0 (i := 1) rfl
theorem dX6_serve_2 : decode cX6_serve 2 = .ok (.invokestatic 106, 3) := vl_at vq_cX6_serve_0 (i := 2) rfl
theorem dX6_serve_5 : decode cX6_serve 5 = .ok (.iconst 1, 1) := vl_at vq_cX6_serve_0 (i := 3) rfl
theorem dX6_serve_6 : decode cX6_serve 6 = .ok (.invokevirtual 110, 3) := vl_at vq_cX6_serve_0 (i := 4) rfl
theorem dX6_serve_9 : decode cX6_serve 9 = .ok (.ifCond .eq 7, 3) := vl_at vq_cX6_serve_0 (i := 5) rfl
theorem dX6_serve_12 : decode cX6_serve 12 = .ok (.iconst 0, 1) := vl_at vq_cX6_serve_0 (i := 6) rfl
theorem dX6_serve_13 : decode cX6_serve 13 = .ok (.goto 19, 3) := vl_at vq_cX6_serve_0 (i := 7) rfl
theorem dX6_serve_16 : decode cX6_serve 16 = .ok (.aload_n 0, 1) := vl_at vq_cX6_serve_0 (i := 8) rfl
theorem dX6_serve_17 : decode cX6_serve 17 = .ok (.iload_n 1, 1) := vl_at vq_cX6_serve_0 (i := 9) rfl
theorem dX6_serve_18 : decode cX6_serve 18 = .ok (.iconst 0, 1) := vl_at vq_cX6_serve_0 (i := 10) rfl
theorem dX6_serve_19 : decode cX6_serve 19 = .ok (.iload_n 2, 1) := vl_at vq_cX6_serve_0 (i := 11) rfl
theorem dX6_serve_20 : decode cX6_serve 20 = .ok (.ifCond .eq 7, 3) := vl_at vq_cX6_serve_0 (i := 12) rfl
theorem dX6_serve_23 : decode cX6_serve 23 = .ok (.iconst 0, 1) := vl_at vq_cX6_serve_0 (i := 13) rfl
theorem dX6_serve_24 : decode cX6_serve 24 = .ok (.goto 5, 3) := vl_at vq_cX6_serve_0 (i := 14) rfl
theorem dX6_serve_27 : decode cX6_serve 27 = .ok (.bipush (-9), 2) := vl_at vq_cX6_serve_0 (i := 15) rfl
theorem dX6_serve_29 : decode cX6_serve 29 = .ok (.invokevirtual 141, 3) := vl_at vq_cX6_serve_0 (i := 16) rfl
theorem dX6_serve_32 : decode cX6_serve 32 = .ok (.ireturn, 1) := vl_at vq_cX6_serve_0 (i := 17) rfl
noncomputable def vl_cX6_rotate_0 : List (Nat × Instr × Nat) := [(0, .aload_n 0, 1), (1, .iload_n 1, 1), (2, .invokestatic 106, 3), (5, .iconst 1, 1), (6, .invokevirtual 110, 3), (9, .ifCond .ne 27, 3), (12, .aload_n 0, 1), (13, .iload_n 2, 1), (14, .bipush (-6), 2), (16, .bipush 6, 2), (18, .invokestatic 44, 3), (21, .ifCond .ne 7, 3), (24, .iconst 1, 1), (25, .goto 4, 3), (28, .iconst 0, 1), (29, .iconst 2, 1), (30, .invokevirtual 40, 3), (33, .ifCond .eq 5, 3), (36, .iconst 0, 1), (37, .ireturn, 1), (38, .aload_n 0, 1), (39, .iload_n 1, 1), (40, .invokevirtual 91, 3), (43, .ifCond .ne 5, 3), (46, .iconst 0, 1), (47, .ireturn, 1), (48, .iconst 0, 1), (49, .istore_n 3, 1), (50, .iload_n 3, 1), (51, .iload_n 2, 1), (52, .invokestatic 145, 3), (55, .if_icmp .ge 37, 3), (58, .aload_n 0, 1), (59, .iload_n 1, 1), (60, .iload_n 2, 1), (61, .ifCond .ge 7, 3), (64, .iconst 1, 1), (65, .goto 4, 3), (68, .iconst 0, 1), (69, .aload_n 0, 1)]
theorem vq_cX6_rotate_0 : vl_ok cX6_rotate vl_cX6_rotate_0 = true := by decide +kernel
theorem dX6_rotate_0 : decode cX6_rotate 0 = .ok (.aload_n 0, 1) := vl_at vq_cX6_rotate_0 (i := 0) rfl
theorem dX6_rotate_1 : decode cX6_rotate 1 = .ok (.iload_n 1, 1) := vl_at vq_cX6_rotate_0 (i := 1) rfl
theorem dX6_rotate_2 : decode cX6_rotate 2 = .ok (.invokestatic 106, 3) := vl_at vq_cX6_rotate_0 (i := 2) rfl
theorem dX6_rotate_5 : decode cX6_rotate 5 = .ok (.iconst 1, 1) := vl_at vq_cX6_rotate_0 (i := 3) rfl
theorem dX6_rotate_6 : decode cX6_rotate 6 = .ok (.invokevirtual 110, 3) := vl_at vq_cX6_rotate_0 (i := 4) rfl
theorem dX6_rotate_9 : decode cX6_rotate 9 = .ok (.ifCond .ne 27, 3) := vl_at vq_cX6_rotate_0 (i := 5) rfl
theorem dX6_rotate_12 : decode cX6_rotate 12 = .ok (.aload_n 0, 1) := vl_at vq_cX6_rotate_0 (i := 6) rfl
theorem dX6_rotate_13 : decode cX6_rotate 13 = .ok (.iload_n 2, 1) := vl_at vq_cX6_rotate_0 (i := 7) rfl
theorem dX6_rotate_14 : decode cX6_rotate 14 = .ok (.bipush (-6), 2) := vl_at vq_cX6_rotate_0 (i := 8) rfl
theorem dX6_rotate_16 : decode cX6_rotate 16 = .ok (.bipush 6, 2) := vl_at vq_cX6_rotate_0 (i := 9) rfl
theorem dX6_rotate_18 : decode cX6_rotate 18 = .ok (.invokestatic 44, 3) := vl_at vq_cX6_rotate_0 (i := 10) rfl
theorem dX6_rotate_21 : decode cX6_rotate 21 = .ok (.ifCond .ne 7, 3) := vl_at vq_cX6_rotate_0 (i := 11) rfl
theorem dX6_rotate_24 : decode cX6_rotate 24 = .ok (.iconst 1, 1) := vl_at vq_cX6_rotate_0 (i := 12) rfl
theorem dX6_rotate_25 : decode cX6_rotate 25 = .ok (.goto 4, 3) := vl_at vq_cX6_rotate_0 (i := 13) rfl
theorem dX6_rotate_28 : decode cX6_rotate 28 = .ok (.iconst 0, 1) := vl_at vq_cX6_rotate_0 (i := 14) rfl
theorem dX6_rotate_29 : decode cX6_rotate 29 = .ok (.iconst 2, 1) := vl_at vq_cX6_rotate_0 (i := 15) rfl
theorem dX6_rotate_30 : decode cX6_rotate 30 = .ok (.invokevirtual 40, 3) := vl_at vq_cX6_rotate_0 (i := 16) rfl
theorem dX6_rotate_33 : decode cX6_rotate 33 = .ok (.ifCond .eq 5, 3) := vl_at vq_cX6_rotate_0 (i := 17) rfl
theorem dX6_rotate_36 : decode cX6_rotate 36 = .ok (.iconst 0, 1) := vl_at vq_cX6_rotate_0 (i := 18) rfl
theorem dX6_rotate_37 : decode cX6_rotate 37 = .ok (.ireturn, 1) := vl_at vq_cX6_rotate_0 (i := 19) rfl
theorem dX6_rotate_38 : decode cX6_rotate 38 = .ok (.aload_n 0, 1) := vl_at vq_cX6_rotate_0 (i := 20) rfl
theorem dX6_rotate_39 : decode cX6_rotate 39 = .ok (.iload_n 1, 1) := vl_at vq_cX6_rotate_0 (i := 21) rfl
theorem dX6_rotate_40 : decode cX6_rotate 40 = .ok (.invokevirtual 91, 3) := vl_at vq_cX6_rotate_0 (i := 22) rfl
theorem dX6_rotate_43 : decode cX6_rotate 43 = .ok (.ifCond .ne 5, 3) := vl_at vq_cX6_rotate_0 (i := 23) rfl
theorem dX6_rotate_46 : decode cX6_rotate 46 = .ok (.iconst 0, 1) := vl_at vq_cX6_rotate_0 (i := 24) rfl
theorem dX6_rotate_47 : decode cX6_rotate 47 = .ok (.ireturn, 1) := vl_at vq_cX6_rotate_0 (i := 25) rfl
theorem dX6_rotate_48 : decode cX6_rotate 48 = .ok (.iconst 0, 1) := vl_at vq_cX6_rotate_0 (i := 26) rfl
theorem dX6_rotate_49 : decode cX6_rotate 49 = .ok (.istore_n 3, 1) := vl_at vq_cX6_rotate_0 (i := 27) rfl
theorem dX6_rotate_50 : decode cX6_rotate 50 = .ok (.iload_n 3, 1) := vl_at vq_cX6_rotate_0 (i := 28) rfl
theorem dX6_rotate_51 : decode cX6_rotate 51 = .ok (.iload_n 2, 1) := vl_at vq_cX6_rotate_0 (i := 29) rfl
theorem dX6_rotate_52 : decode cX6_rotate 52 = .ok (.invokestatic 145, 3) := vl_at vq_cX6_rotate_0 (i := 30) rfl
theorem dX6_rotate_55 : decode cX6_rotate 55 = .ok (.if_icmp .ge 37, 3) := vl_at vq_cX6_rotate_0 (i := 31) rfl
theorem dX6_rotate_58 : decode cX6_rotate 58 = .ok (.aload_n 0, 1) := vl_at vq_cX6_rotate_0 (i := 32) rfl
theorem dX6_rotate_59 : decode cX6_rotate 59 = .ok (.iload_n 1, 1) := vl_at vq_cX6_rotate_0 (i := 33) rfl
theorem dX6_rotate_60 : decode cX6_rotate 60 = .ok (.iload_n 2, 1) := vl_at vq_cX6_rotate_0 (i := 34) rfl
theorem dX6_rotate_61 : decode cX6_rotate 61 = .ok (.ifCond .ge 7, 3) := vl_at vq_cX6_rotate_0 (i := 35) rfl
theorem dX6_rotate_64 : decode cX6_rotate 64 = .ok (.iconst 1, 1) := vl_at vq_cX6_rotate_0 (i := 36) rfl
theorem dX6_rotate_65 : decode cX6_rotate 65 = .ok (.goto 4, 3) := vl_at vq_cX6_rotate_0 (i := 37) rfl
theorem dX6_rotate_68 : decode cX6_rotate 68 = .ok (.iconst 0, 1) := vl_at vq_cX6_rotate_0 (i := 38) rfl
theorem dX6_rotate_69 : decode cX6_rotate 69 = .ok (.aload_n 0, 1) := vl_at vq_cX6_rotate_0 (i := 39) rfl
noncomputable def vl_cX6_rotate_1 : List (Nat × Instr × Nat) := [(70, .iload_n 1, 1), (71, .iload_n 2, 1), (72, .ifCond .le 7, 3), (75, .iconst 1, 1), (76, .goto 4, 3), (79, .iconst 0, 1), (80, .invokevirtual 137, 3), (83, .invokevirtual 127, 3), (86, .iinc 3 1, 3), (89, .goto (-39), 3), (92, .aload_n 0, 1), (93, .iload_n 1, 1), (94, .iconst 0, 1), (95, .invokevirtual 131, 3), (98, .ireturn, 1)]
theorem vq_cX6_rotate_1 : vl_ok cX6_rotate vl_cX6_rotate_1 = true := by decide +kernel
theorem dX6_rotate_70 : decode cX6_rotate 70 = .ok (.iload_n 1, 1) := vl_at vq_cX6_rotate_1 (i := 0) rfl
theorem dX6_rotate_71 : decode cX6_rotate 71 = .ok (.iload_n 2, 1) := vl_at vq_cX6_rotate_1 (i := 1) rfl
theorem dX6_rotate_72 : decode cX6_rotate 72 = .ok (.ifCond .le 7, 3) := vl_at vq_cX6_rotate_1 (i := 2) rfl
theorem dX6_rotate_75 : decode cX6_rotate 75 = .ok (.iconst 1, 1) := vl_at vq_cX6_rotate_1 (i := 3) rfl
theorem dX6_rotate_76 : decode cX6_rotate 76 = .ok (.goto 4, 3) := vl_at vq_cX6_rotate_1 (i := 4) rfl
theorem dX6_rotate_79 : decode cX6_rotate 79 = .ok (.iconst 0, 1) := vl_at vq_cX6_rotate_1 (i := 5) rfl
theorem dX6_rotate_80 : decode cX6_rotate 80 = .ok (.invokevirtual 137, 3) := vl_at vq_cX6_rotate_1 (i := 6) rfl
theorem dX6_rotate_83 : decode cX6_rotate 83 = .ok (.invokevirtual 127, 3) := vl_at vq_cX6_rotate_1 (i := 7) rfl
theorem dX6_rotate_86 : decode cX6_rotate 86 = .ok (.iinc 3 1, 3) := vl_at vq_cX6_rotate_1 (i := 8) rfl
theorem dX6_rotate_89 : decode cX6_rotate 89 = .ok (.goto (-39), 3) := vl_at vq_cX6_rotate_1 (i := 9) rfl
theorem dX6_rotate_92 : decode cX6_rotate 92 = .ok (.aload_n 0, 1) := vl_at vq_cX6_rotate_1 (i := 10) rfl
theorem dX6_rotate_93 : decode cX6_rotate 93 = .ok (.iload_n 1, 1) := vl_at vq_cX6_rotate_1 (i := 11) rfl
theorem dX6_rotate_94 : decode cX6_rotate 94 = .ok (.iconst 0, 1) := vl_at vq_cX6_rotate_1 (i := 12) rfl
theorem dX6_rotate_95 : decode cX6_rotate 95 = .ok (.invokevirtual 131, 3) := vl_at vq_cX6_rotate_1 (i := 13) rfl
theorem dX6_rotate_98 : decode cX6_rotate 98 = .ok (.ireturn, 1) := vl_at vq_cX6_rotate_1 (i := 14) rfl
noncomputable def vl_cX6_undo_0 : List (Nat × Instr × Nat) := [(0, .aload_n 0, 1), (1, .iconst 0, 1), (2, .putfield 37, 3), (5, .aload_n 0, 1), (6, .getfield 16, 3), (9, .invokevirtual 150, 3), (12, .ifCond .eq 6, 3), (15, .bipush (-9), 2), (17, .ireturn, 1), (18, .aload_n 0, 1), (19, .getfield 16, 3), (22, .aload_n 0, 1), (23, .getfield 16, 3), (26, .invokevirtual 52, 3), (29, .iconst 1, 1), (30, .isub, 1), (31, .invokevirtual 81, 3), (34, .checkcast 56, 3), (37, .invokevirtual 58, 3), (40, .istore_n 1, 1), (41, .iload_n 1, 1), (42, .sipush 4000, 3), (45, .idiv, 1), (46, .istore_n 2, 1), (47, .iload_n 1, 1), (48, .sipush 2000, 3), (51, .idiv, 1), (52, .iconst 2, 1), (53, .irem, 1), (54, .iconst 1, 1), (55, .if_icmp .ne 7, 3), (58, .iconst 1, 1), (59, .goto 4, 3), (62, .iconst 0, 1), (63, .istore_n 3, 1), (64, .iload_n 1, 1), (65, .sipush 1000, 3), (68, .idiv, 1), (69, .iconst 2, 1), (70, .irem, 1)]
theorem vq_cX6_undo_0 : vl_ok cX6_undo vl_cX6_undo_0 = true := by decide +kernel
theorem dX6_undo_0 : decode cX6_undo 0 = .ok (.aload_n 0, 1) := vl_at vq_cX6_undo_0 (i := 0) rfl
theorem dX6_undo_1 : decode cX6_undo 1 = .ok (.iconst 0, 1) := vl_at vq_cX6_undo_0 (i := 1) rfl
theorem dX6_undo_2 : decode cX6_undo 2 = .ok (.putfield 37, 3) := vl_at vq_cX6_undo_0 (i := 2) rfl
theorem dX6_undo_5 : decode cX6_undo 5 = .ok (.aload_n 0, 1) := vl_at vq_cX6_undo_0 (i := 3) rfl
theorem dX6_undo_6 : decode cX6_undo 6 = .ok (.getfield 16, 3) := vl_at vq_cX6_undo_0 (i := 4) rfl
theorem dX6_undo_9 : decode cX6_undo 9 = .ok (.invokevirtual 150, 3) := vl_at vq_cX6_undo_0 (i := 5) rfl
theorem dX6_undo_12 : decode cX6_undo 12 = .ok (.ifCond .eq 6, 3) := vl_at vq_cX6_undo_0 (i := 6) rfl
theorem dX6_undo_15 : decode cX6_undo 15 = .ok (.bipush (-9), 2) := vl_at vq_cX6_undo_0 (i := 7) rfl
theorem dX6_undo_17 : decode cX6_undo 17 = .ok (.ireturn, 1) := vl_at vq_cX6_undo_0 (i := 8) rfl
theorem dX6_undo_18 : decode cX6_undo 18 = .ok (.aload_n 0, 1) := vl_at vq_cX6_undo_0 (i := 9) rfl
theorem dX6_undo_19 : decode cX6_undo 19 = .ok (.getfield 16, 3) := vl_at vq_cX6_undo_0 (i := 10) rfl
theorem dX6_undo_22 : decode cX6_undo 22 = .ok (.aload_n 0, 1) := vl_at vq_cX6_undo_0 (i := 11) rfl
theorem dX6_undo_23 : decode cX6_undo 23 = .ok (.getfield 16, 3) := vl_at vq_cX6_undo_0 (i := 12) rfl
theorem dX6_undo_26 : decode cX6_undo 26 = .ok (.invokevirtual 52, 3) := vl_at vq_cX6_undo_0 (i := 13) rfl
theorem dX6_undo_29 : decode cX6_undo 29 = .ok (.iconst 1, 1) := vl_at vq_cX6_undo_0 (i := 14) rfl
theorem dX6_undo_30 : decode cX6_undo 30 = .ok (.isub, 1) := vl_at vq_cX6_undo_0 (i := 15) rfl
theorem dX6_undo_31 : decode cX6_undo 31 = .ok (.invokevirtual 81, 3) := vl_at vq_cX6_undo_0 (i := 16) rfl
theorem dX6_undo_34 : decode cX6_undo 34 = .ok (.checkcast 56, 3) := vl_at vq_cX6_undo_0 (i := 17) rfl
theorem dX6_undo_37 : decode cX6_undo 37 = .ok (.invokevirtual 58, 3) := vl_at vq_cX6_undo_0 (i := 18) rfl
theorem dX6_undo_40 : decode cX6_undo 40 = .ok (.istore_n 1, 1) := vl_at vq_cX6_undo_0 (i := 19) rfl
theorem dX6_undo_41 : decode cX6_undo 41 = .ok (.iload_n 1, 1) := vl_at vq_cX6_undo_0 (i := 20) rfl
theorem dX6_undo_42 : decode cX6_undo 42 = .ok (.sipush 4000, 3) := vl_at vq_cX6_undo_0 (i := 21) rfl
theorem dX6_undo_45 : decode cX6_undo 45 = .ok (.idiv, 1) := vl_at vq_cX6_undo_0 (i := 22) rfl
theorem dX6_undo_46 : decode cX6_undo 46 = .ok (.istore_n 2, 1) := vl_at vq_cX6_undo_0 (i := 23) rfl
theorem dX6_undo_47 : decode cX6_undo 47 = .ok (.iload_n 1, 1) := vl_at vq_cX6_undo_0 (i := 24) rfl
theorem dX6_undo_48 : decode cX6_undo 48 = .ok (.sipush 2000, 3) := vl_at vq_cX6_undo_0 (i := 25) rfl
theorem dX6_undo_51 : decode cX6_undo 51 = .ok (.idiv, 1) := vl_at vq_cX6_undo_0 (i := 26) rfl
theorem dX6_undo_52 : decode cX6_undo 52 = .ok (.iconst 2, 1) := vl_at vq_cX6_undo_0 (i := 27) rfl
theorem dX6_undo_53 : decode cX6_undo 53 = .ok (.irem, 1) := vl_at vq_cX6_undo_0 (i := 28) rfl
theorem dX6_undo_54 : decode cX6_undo 54 = .ok (.iconst 1, 1) := vl_at vq_cX6_undo_0 (i := 29) rfl
theorem dX6_undo_55 : decode cX6_undo 55 = .ok (.if_icmp .ne 7, 3) := vl_at vq_cX6_undo_0 (i := 30) rfl
theorem dX6_undo_58 : decode cX6_undo 58 = .ok (.iconst 1, 1) := vl_at vq_cX6_undo_0 (i := 31) rfl
theorem dX6_undo_59 : decode cX6_undo 59 = .ok (.goto 4, 3) := vl_at vq_cX6_undo_0 (i := 32) rfl
theorem dX6_undo_62 : decode cX6_undo 62 = .ok (.iconst 0, 1) := vl_at vq_cX6_undo_0 (i := 33) rfl
theorem dX6_undo_63 : decode cX6_undo 63 = .ok (.istore_n 3, 1) := vl_at vq_cX6_undo_0 (i := 34) rfl
theorem dX6_undo_64 : decode cX6_undo 64 = .ok (.iload_n 1, 1) := vl_at vq_cX6_undo_0 (i := 35) rfl
theorem dX6_undo_65 : decode cX6_undo 65 = .ok (.sipush 1000, 3) := vl_at vq_cX6_undo_0 (i := 36) rfl
theorem dX6_undo_68 : decode cX6_undo 68 = .ok (.idiv, 1) := vl_at vq_cX6_undo_0 (i := 37) rfl
theorem dX6_undo_69 : decode cX6_undo 69 = .ok (.iconst 2, 1) := vl_at vq_cX6_undo_0 (i := 38) rfl
theorem dX6_undo_70 : decode cX6_undo 70 = .ok (.irem, 1) := vl_at vq_cX6_undo_0 (i := 39) rfl
noncomputable def vl_cX6_undo_1 : List (Nat × Instr × Nat) := [(71, .iconst 1, 1), (72, .if_icmp .ne 27, 3), (75, .aload_n 0, 1), (76, .iload_n 2, 1), (77, .iload_n 3, 1), (78, .ifCond .eq 13, 3), (81, .aload_n 0, 1), (82, .iload_n 2, 1), (83, .invokevirtual 91, 3), (86, .iconst 1, 1), (87, .isub, 1), (88, .goto 4, 3), (91, .iconst 0, 1), (92, .invokevirtual 102, 3), (95, .pop, 1), (96, .goto 26, 3), (99, .aload_n 0, 1), (100, .iload_n 2, 1), (101, .iload_n 3, 1), (102, .ifCond .eq 11, 3), (105, .aload_n 0, 1), (106, .iload_n 2, 1), (107, .invokevirtual 91, 3), (110, .goto 4, 3), (113, .iconst 0, 1), (114, .iload_n 1, 1), (115, .sipush 1000, 3), (118, .irem, 1), (119, .invokevirtual 94, 3), (122, .iload_n 1, 1), (123, .ireturn, 1)]
theorem vq_cX6_undo_1 : vl_ok cX6_undo vl_cX6_undo_1 = true := by decide +kernel
theorem dX6_undo_71 : decode cX6_undo 71 = .ok (.iconst 1, 1) := vl_at vq_cX6_undo_1 (i := 0) rfl
theorem dX6_undo_72 : decode cX6_undo 72 = .ok (.if_icmp .ne 27, 3) := vl_at vq_cX6_undo_1 (i := 1) rfl
theorem dX6_undo_75 : decode cX6_undo 75 = .ok (.aload_n 0, 1) := vl_at vq_cX6_undo_1 (i := 2) rfl
theorem dX6_undo_76 : decode cX6_undo 76 = .ok (.iload_n 2, 1) := vl_at vq_cX6_undo_1 (i := 3) rfl
theorem dX6_undo_77 : decode cX6_undo 77 = .ok (.iload_n 3, 1) := vl_at vq_cX6_undo_1 (i := 4) rfl
theorem dX6_undo_78 : decode cX6_undo 78 = .ok (.ifCond .eq 13, 3) := vl_at vq_cX6_undo_1 (i := 5) rfl
theorem dX6_undo_81 : decode cX6_undo 81 = .ok (.aload_n 0, 1) := vl_at vq_cX6_undo_1 (i := 6) rfl
theorem dX6_undo_82 : decode cX6_undo 82 = .ok (.iload_n 2, 1) := vl_at vq_cX6_undo_1 (i := 7) rfl
theorem dX6_undo_83 : decode cX6_undo 83 = .ok (.invokevirtual 91, 3) := vl_at vq_cX6_undo_1 (i := 8) rfl
theorem dX6_undo_86 : decode cX6_undo 86 = .ok (.iconst 1, 1) := vl_at vq_cX6_undo_1 (i := 9) rfl
theorem dX6_undo_87 : decode cX6_undo 87 = .ok (.isub, 1) := vl_at vq_cX6_undo_1 (i := 10) rfl
theorem dX6_undo_88 : decode cX6_undo 88 = .ok (.goto 4, 3) := vl_at vq_cX6_undo_1 (i := 11) rfl
theorem dX6_undo_91 : decode cX6_undo 91 = .ok (.iconst 0, 1) := vl_at vq_cX6_undo_1 (i := 12) rfl
theorem dX6_undo_92 : decode cX6_undo 92 = .ok (.invokevirtual 102, 3) := vl_at vq_cX6_undo_1 (i := 13) rfl
theorem dX6_undo_95 : decode cX6_undo 95 = .ok (.pop, 1) := vl_at vq_cX6_undo_1 (i := 14) rfl
theorem dX6_undo_96 : decode cX6_undo 96 = .ok (.goto 26, 3) := vl_at vq_cX6_undo_1 (i := 15) rfl
theorem dX6_undo_99 : decode cX6_undo 99 = .ok (.aload_n 0, 1) := vl_at vq_cX6_undo_1 (i := 16) rfl
theorem dX6_undo_100 : decode cX6_undo 100 = .ok (.iload_n 2, 1) := vl_at vq_cX6_undo_1 (i := 17) rfl
theorem dX6_undo_101 : decode cX6_undo 101 = .ok (.iload_n 3, 1) := vl_at vq_cX6_undo_1 (i := 18) rfl
theorem dX6_undo_102 : decode cX6_undo 102 = .ok (.ifCond .eq 11, 3) := vl_at vq_cX6_undo_1 (i := 19) rfl
theorem dX6_undo_105 : decode cX6_undo 105 = .ok (.aload_n 0, 1) := vl_at vq_cX6_undo_1 (i := 20) rfl
theorem dX6_undo_106 : decode cX6_undo 106 = .ok (.iload_n 2, 1) := vl_at vq_cX6_undo_1 (i := 21) rfl
theorem dX6_undo_107 : decode cX6_undo 107 = .ok (.invokevirtual 91, 3) := vl_at vq_cX6_undo_1 (i := 22) rfl
theorem dX6_undo_110 : decode cX6_undo 110 = .ok (.goto 4, 3) := vl_at vq_cX6_undo_1 (i := 23) rfl
theorem dX6_undo_113 : decode cX6_undo 113 = .ok (.iconst 0, 1) := vl_at vq_cX6_undo_1 (i := 24) rfl
theorem dX6_undo_114 : decode cX6_undo 114 = .ok (.iload_n 1, 1) := vl_at vq_cX6_undo_1 (i := 25) rfl
theorem dX6_undo_115 : decode cX6_undo 115 = .ok (.sipush 1000, 3) := vl_at vq_cX6_undo_1 (i := 26) rfl
theorem dX6_undo_118 : decode cX6_undo 118 = .ok (.irem, 1) := vl_at vq_cX6_undo_1 (i := 27) rfl
theorem dX6_undo_119 : decode cX6_undo 119 = .ok (.invokevirtual 94, 3) := vl_at vq_cX6_undo_1 (i := 28) rfl
theorem dX6_undo_122 : decode cX6_undo 122 = .ok (.iload_n 1, 1) := vl_at vq_cX6_undo_1 (i := 29) rfl
theorem dX6_undo_123 : decode cX6_undo 123 = .ok (.ireturn, 1) := vl_at vq_cX6_undo_1 (i := 30) rfl
noncomputable def vl_cX6_found_0 : List (Nat × Instr × Nat) := [(0, .iconst (-1), 1), (1, .istore 4, 2), (3, .iconst 0, 1), (4, .istore 5, 2), (6, .iload 5, 2), (8, .aload_n 0, 1), (9, .iload_n 1, 1), (10, .invokevirtual 91, 3), (13, .if_icmp .ge 37, 3), (16, .aload_n 0, 1), (17, .iload_n 1, 1), (18, .iload 5, 2), (20, .invokevirtual 131, 3), (23, .invokestatic 154, 3), (26, .iload_n 2, 1), (27, .if_icmp .ne 17, 3), (30, .iload_n 3, 1), (31, .ifCond .ne 9, 3), (34, .iload 4, 2), (36, .iconst (-1), 1), (37, .if_icmp .ne 7, 3), (40, .iload 5, 2), (42, .istore 4, 2), (44, .iinc 5 1, 3), (47, .goto (-41), 3), (50, .iload 4, 2), (52, .ireturn, 1)]
theorem vq_cX6_found_0 : vl_ok cX6_found vl_cX6_found_0 = true := by decide +kernel
theorem dX6_found_0 : decode cX6_found 0 = .ok (.iconst (-1), 1) := vl_at vq_cX6_found_0 (i := 0) rfl
theorem dX6_found_1 : decode cX6_found 1 = .ok (.istore 4, 2) := vl_at vq_cX6_found_0 (i := 1) rfl
theorem dX6_found_3 : decode cX6_found 3 = .ok (.iconst 0, 1) := vl_at vq_cX6_found_0 (i := 2) rfl
theorem dX6_found_4 : decode cX6_found 4 = .ok (.istore 5, 2) := vl_at vq_cX6_found_0 (i := 3) rfl
theorem dX6_found_6 : decode cX6_found 6 = .ok (.iload 5, 2) := vl_at vq_cX6_found_0 (i := 4) rfl
theorem dX6_found_8 : decode cX6_found 8 = .ok (.aload_n 0, 1) := vl_at vq_cX6_found_0 (i := 5) rfl
theorem dX6_found_9 : decode cX6_found 9 = .ok (.iload_n 1, 1) := vl_at vq_cX6_found_0 (i := 6) rfl
theorem dX6_found_10 : decode cX6_found 10 = .ok (.invokevirtual 91, 3) := vl_at vq_cX6_found_0 (i := 7) rfl
theorem dX6_found_13 : decode cX6_found 13 = .ok (.if_icmp .ge 37, 3) := vl_at vq_cX6_found_0 (i := 8) rfl
theorem dX6_found_16 : decode cX6_found 16 = .ok (.aload_n 0, 1) := vl_at vq_cX6_found_0 (i := 9) rfl
theorem dX6_found_17 : decode cX6_found 17 = .ok (.iload_n 1, 1) := vl_at vq_cX6_found_0 (i := 10) rfl
theorem dX6_found_18 : decode cX6_found 18 = .ok (.iload 5, 2) := vl_at vq_cX6_found_0 (i := 11) rfl
theorem dX6_found_20 : decode cX6_found 20 = .ok (.invokevirtual 131, 3) := vl_at vq_cX6_found_0 (i := 12) rfl
theorem dX6_found_23 : decode cX6_found 23 = .ok (.invokestatic 154, 3) := vl_at vq_cX6_found_0 (i := 13) rfl
theorem dX6_found_26 : decode cX6_found 26 = .ok (.iload_n 2, 1) := vl_at vq_cX6_found_0 (i := 14) rfl
theorem dX6_found_27 : decode cX6_found 27 = .ok (.if_icmp .ne 17, 3) := vl_at vq_cX6_found_0 (i := 15) rfl
theorem dX6_found_30 : decode cX6_found 30 = .ok (.iload_n 3, 1) := vl_at vq_cX6_found_0 (i := 16) rfl
theorem dX6_found_31 : decode cX6_found 31 = .ok (.ifCond .ne 9, 3) := vl_at vq_cX6_found_0 (i := 17) rfl
theorem dX6_found_34 : decode cX6_found 34 = .ok (.iload 4, 2) := vl_at vq_cX6_found_0 (i := 18) rfl
theorem dX6_found_36 : decode cX6_found 36 = .ok (.iconst (-1), 1) := vl_at vq_cX6_found_0 (i := 19) rfl
theorem dX6_found_37 : decode cX6_found 37 = .ok (.if_icmp .ne 7, 3) := vl_at vq_cX6_found_0 (i := 20) rfl
theorem dX6_found_40 : decode cX6_found 40 = .ok (.iload 5, 2) := vl_at vq_cX6_found_0 (i := 21) rfl
theorem dX6_found_42 : decode cX6_found 42 = .ok (.istore 4, 2) := vl_at vq_cX6_found_0 (i := 22) rfl
theorem dX6_found_44 : decode cX6_found 44 = .ok (.iinc 5 1, 3) := vl_at vq_cX6_found_0 (i := 23) rfl
theorem dX6_found_47 : decode cX6_found 47 = .ok (.goto (-41), 3) := vl_at vq_cX6_found_0 (i := 24) rfl
theorem dX6_found_50 : decode cX6_found 50 = .ok (.iload 4, 2) := vl_at vq_cX6_found_0 (i := 25) rfl
theorem dX6_found_52 : decode cX6_found 52 = .ok (.ireturn, 1) := vl_at vq_cX6_found_0 (i := 26) rfl
noncomputable def vl_cX6_isNoKind_0 : List (Nat × Instr × Nat) := [(0, .aload_n 0, 1), (1, .iload_n 1, 1), (2, .invokestatic 106, 3), (5, .iconst 1, 1), (6, .invokevirtual 110, 3), (9, .ifCond .ne 34, 3), (12, .aload_n 0, 1), (13, .iload_n 2, 1), (14, .iconst 0, 1), (15, .bipush 9, 2), (17, .invokestatic 44, 3), (20, .ifCond .eq 11, 3), (23, .iload_n 2, 1), (24, .ifCond .ne 11, 3), (27, .iload_n 1, 1), (28, .ifCond .ne 7, 3), (31, .iconst 1, 1), (32, .goto 4, 3), (35, .iconst 0, 1), (36, .iconst 2, 1), (37, .invokevirtual 40, 3), (40, .ifCond .eq 7, 3), (43, .iconst 1, 1), (44, .goto 4, 3), (47, .iconst 0, 1), (48, .ireturn, 1)]
theorem vq_cX6_isNoKind_0 : vl_ok cX6_isNoKind vl_cX6_isNoKind_0 = true := by decide +kernel
theorem dX6_isNoKind_0 : decode cX6_isNoKind 0 = .ok (.aload_n 0, 1) := vl_at vq_cX6_isNoKind_0 (i := 0) rfl
theorem dX6_isNoKind_1 : decode cX6_isNoKind 1 = .ok (.iload_n 1, 1) := vl_at vq_cX6_isNoKind_0 (i := 1) rfl
theorem dX6_isNoKind_2 : decode cX6_isNoKind 2 = .ok (.invokestatic 106, 3) := vl_at vq_cX6_isNoKind_0 (i := 2) rfl
theorem dX6_isNoKind_5 : decode cX6_isNoKind 5 = .ok (.iconst 1, 1) := vl_at vq_cX6_isNoKind_0 (i := 3) rfl
theorem dX6_isNoKind_6 : decode cX6_isNoKind 6 = .ok (.invokevirtual 110, 3) := vl_at vq_cX6_isNoKind_0 (i := 4) rfl
theorem dX6_isNoKind_9 : decode cX6_isNoKind 9 = .ok (.ifCond .ne 34, 3) := vl_at vq_cX6_isNoKind_0 (i := 5) rfl
theorem dX6_isNoKind_12 : decode cX6_isNoKind 12 = .ok (.aload_n 0, 1) := vl_at vq_cX6_isNoKind_0 (i := 6) rfl
theorem dX6_isNoKind_13 : decode cX6_isNoKind 13 = .ok (.iload_n 2, 1) := vl_at vq_cX6_isNoKind_0 (i := 7) rfl
theorem dX6_isNoKind_14 : decode cX6_isNoKind 14 = .ok (.iconst 0, 1) := vl_at vq_cX6_isNoKind_0 (i := 8) rfl
theorem dX6_isNoKind_15 : decode cX6_isNoKind 15 = .ok (.bipush 9, 2) := vl_at vq_cX6_isNoKind_0 (i := 9) rfl
theorem dX6_isNoKind_17 : decode cX6_isNoKind 17 = .ok (.invokestatic 44, 3) := vl_at vq_cX6_isNoKind_0 (i := 10) rfl
theorem dX6_isNoKind_20 : decode cX6_isNoKind 20 = .ok (.ifCond .eq 11, 3) := vl_at vq_cX6_isNoKind_0 (i := 11) rfl
theorem dX6_isNoKind_23 : decode cX6_isNoKind 23 = .ok (.iload_n 2, 1) := vl_at vq_cX6_isNoKind_0 (i := 12) rfl
theorem dX6_isNoKind_24 : decode cX6_isNoKind 24 = .ok (.ifCond .ne 11, 3) := vl_at vq_cX6_isNoKind_0 (i := 13) rfl
theorem dX6_isNoKind_27 : decode cX6_isNoKind 27 = .ok (.iload_n 1, 1) := vl_at vq_cX6_isNoKind_0 (i := 14) rfl
theorem dX6_isNoKind_28 : decode cX6_isNoKind 28 = .ok (.ifCond .ne 7, 3) := vl_at vq_cX6_isNoKind_0 (i := 15) rfl
theorem dX6_isNoKind_31 : decode cX6_isNoKind 31 = .ok (.iconst 1, 1) := vl_at vq_cX6_isNoKind_0 (i := 16) rfl
theorem dX6_isNoKind_32 : decode cX6_isNoKind 32 = .ok (.goto 4, 3) := vl_at vq_cX6_isNoKind_0 (i := 17) rfl
theorem dX6_isNoKind_35 : decode cX6_isNoKind 35 = .ok (.iconst 0, 1) := vl_at vq_cX6_isNoKind_0 (i := 18) rfl
theorem dX6_isNoKind_36 : decode cX6_isNoKind 36 = .ok (.iconst 2, 1) := vl_at vq_cX6_isNoKind_0 (i := 19) rfl
theorem dX6_isNoKind_37 : decode cX6_isNoKind 37 = .ok (.invokevirtual 40, 3) := vl_at vq_cX6_isNoKind_0 (i := 20) rfl
theorem dX6_isNoKind_40 : decode cX6_isNoKind 40 = .ok (.ifCond .eq 7, 3) := vl_at vq_cX6_isNoKind_0 (i := 21) rfl
theorem dX6_isNoKind_43 : decode cX6_isNoKind 43 = .ok (.iconst 1, 1) := vl_at vq_cX6_isNoKind_0 (i := 22) rfl
theorem dX6_isNoKind_44 : decode cX6_isNoKind 44 = .ok (.goto 4, 3) := vl_at vq_cX6_isNoKind_0 (i := 23) rfl
theorem dX6_isNoKind_47 : decode cX6_isNoKind 47 = .ok (.iconst 0, 1) := vl_at vq_cX6_isNoKind_0 (i := 24) rfl
theorem dX6_isNoKind_48 : decode cX6_isNoKind 48 = .ok (.ireturn, 1) := vl_at vq_cX6_isNoKind_0 (i := 25) rfl
noncomputable def vl_cX6_drop_0 : List (Nat × Instr × Nat) := [(0, .aload_n 0, 1), (1, .iload_n 1, 1), (2, .iload_n 2, 1), (3, .invokevirtual 157, 3), (6, .ifCond .eq 5, 3), (9, .iconst 0, 1), (10, .ireturn, 1), (11, .aload_n 0, 1), (12, .iload_n 1, 1), (13, .iload_n 2, 1), (14, .iload_n 3, 1), (15, .invokevirtual 160, 3), (18, .istore 4, 2), (20, .iload 4, 2), (22, .iconst (-1), 1), (23, .if_icmp .ne 5, 3), (26, .iconst 0, 1), (27, .ireturn, 1), (28, .aload_n 0, 1), (29, .iload_n 1, 1), (30, .iload 4, 2), (32, .invokevirtual 102, 3), (35, .pop, 1), (36, .aload_n 0, 1), (37, .invokevirtual 164, 3), (40, .iconst 1, 1), (41, .ireturn, 1)]
theorem vq_cX6_drop_0 : vl_ok cX6_drop vl_cX6_drop_0 = true := by decide +kernel
theorem dX6_drop_0 : decode cX6_drop 0 = .ok (.aload_n 0, 1) := vl_at vq_cX6_drop_0 (i := 0) rfl
theorem dX6_drop_1 : decode cX6_drop 1 = .ok (.iload_n 1, 1) := vl_at vq_cX6_drop_0 (i := 1) rfl
theorem dX6_drop_2 : decode cX6_drop 2 = .ok (.iload_n 2, 1) := vl_at vq_cX6_drop_0 (i := 2) rfl
theorem dX6_drop_3 : decode cX6_drop 3 = .ok (.invokevirtual 157, 3) := vl_at vq_cX6_drop_0 (i := 3) rfl
theorem dX6_drop_6 : decode cX6_drop 6 = .ok (.ifCond .eq 5, 3) := vl_at vq_cX6_drop_0 (i := 4) rfl
theorem dX6_drop_9 : decode cX6_drop 9 = .ok (.iconst 0, 1) := vl_at vq_cX6_drop_0 (i := 5) rfl
theorem dX6_drop_10 : decode cX6_drop 10 = .ok (.ireturn, 1) := vl_at vq_cX6_drop_0 (i := 6) rfl
theorem dX6_drop_11 : decode cX6_drop 11 = .ok (.aload_n 0, 1) := vl_at vq_cX6_drop_0 (i := 7) rfl
theorem dX6_drop_12 : decode cX6_drop 12 = .ok (.iload_n 1, 1) := vl_at vq_cX6_drop_0 (i := 8) rfl
theorem dX6_drop_13 : decode cX6_drop 13 = .ok (.iload_n 2, 1) := vl_at vq_cX6_drop_0 (i := 9) rfl
theorem dX6_drop_14 : decode cX6_drop 14 = .ok (.iload_n 3, 1) := vl_at vq_cX6_drop_0 (i := 10) rfl
theorem dX6_drop_15 : decode cX6_drop 15 = .ok (.invokevirtual 160, 3) := vl_at vq_cX6_drop_0 (i := 11) rfl
theorem dX6_drop_18 : decode cX6_drop 18 = .ok (.istore 4, 2) := vl_at vq_cX6_drop_0 (i := 12) rfl
theorem dX6_drop_20 : decode cX6_drop 20 = .ok (.iload 4, 2) := vl_at vq_cX6_drop_0 (i := 13) rfl
theorem dX6_drop_22 : decode cX6_drop 22 = .ok (.iconst (-1), 1) := vl_at vq_cX6_drop_0 (i := 14) rfl
theorem dX6_drop_23 : decode cX6_drop 23 = .ok (.if_icmp .ne 5, 3) := vl_at vq_cX6_drop_0 (i := 15) rfl
theorem dX6_drop_26 : decode cX6_drop 26 = .ok (.iconst 0, 1) := vl_at vq_cX6_drop_0 (i := 16) rfl
theorem dX6_drop_27 : decode cX6_drop 27 = .ok (.ireturn, 1) := vl_at vq_cX6_drop_0 (i := 17) rfl
theorem dX6_drop_28 : decode cX6_drop 28 = .ok (.aload_n 0, 1) := vl_at vq_cX6_drop_0 (i := 18) rfl
theorem dX6_drop_29 : decode cX6_drop 29 = .ok (.iload_n 1, 1) := vl_at vq_cX6_drop_0 (i := 19) rfl
theorem dX6_drop_30 : decode cX6_drop 30 = .ok (.iload 4, 2) := vl_at vq_cX6_drop_0 (i := 20) rfl
theorem dX6_drop_32 : decode cX6_drop 32 = .ok (.invokevirtual 102, 3) := vl_at vq_cX6_drop_0 (i := 21) rfl
theorem dX6_drop_35 : decode cX6_drop 35 = .ok (.pop, 1) := vl_at vq_cX6_drop_0 (i := 22) rfl
theorem dX6_drop_36 : decode cX6_drop 36 = .ok (.aload_n 0, 1) := vl_at vq_cX6_drop_0 (i := 23) rfl
theorem dX6_drop_37 : decode cX6_drop 37 = .ok (.invokevirtual 164, 3) := vl_at vq_cX6_drop_0 (i := 24) rfl
theorem dX6_drop_40 : decode cX6_drop 40 = .ok (.iconst 1, 1) := vl_at vq_cX6_drop_0 (i := 25) rfl
theorem dX6_drop_41 : decode cX6_drop 41 = .ok (.ireturn, 1) := vl_at vq_cX6_drop_0 (i := 26) rfl
noncomputable def vl_cX6_offAll_0 : List (Nat × Instr × Nat) := [(0, .iconst 0, 1), (1, .istore_n 3, 1), (2, .aload_n 2, 1), (3, .arraylength, 1), (4, .iconst 1, 1), (5, .isub, 1), (6, .istore 4, 2), (8, .iload 4, 2), (10, .ifCond .lt 27, 3), (13, .aload_n 2, 1), (14, .iload 4, 2), (16, .baload, 1), (17, .ifCond .eq 14, 3), (20, .aload_n 0, 1), (21, .iload_n 1, 1), (22, .iload 4, 2), (24, .invokevirtual 102, 3), (27, .pop, 1), (28, .iinc 3 1, 3), (31, .iinc 4 (-1), 3), (34, .goto (-26), 3), (37, .iload_n 3, 1), (38, .ifCond .le 7, 3), (41, .aload_n 0, 1), (42, .invokevirtual 164, 3), (45, .iload_n 3, 1), (46, .ireturn, 1)]
theorem vq_cX6_offAll_0 : vl_ok cX6_offAll vl_cX6_offAll_0 = true := by decide +kernel
theorem dX6_offAll_0 : decode cX6_offAll 0 = .ok (.iconst 0, 1) := vl_at vq_cX6_offAll_0 (i := 0) rfl
theorem dX6_offAll_1 : decode cX6_offAll 1 = .ok (.istore_n 3, 1) := vl_at vq_cX6_offAll_0 (i := 1) rfl
theorem dX6_offAll_2 : decode cX6_offAll 2 = .ok (.aload_n 2, 1) := vl_at vq_cX6_offAll_0 (i := 2) rfl
theorem dX6_offAll_3 : decode cX6_offAll 3 = .ok (.arraylength, 1) := vl_at vq_cX6_offAll_0 (i := 3) rfl
theorem dX6_offAll_4 : decode cX6_offAll 4 = .ok (.iconst 1, 1) := vl_at vq_cX6_offAll_0 (i := 4) rfl
theorem dX6_offAll_5 : decode cX6_offAll 5 = .ok (.isub, 1) := vl_at vq_cX6_offAll_0 (i := 5) rfl
theorem dX6_offAll_6 : decode cX6_offAll 6 = .ok (.istore 4, 2) := vl_at vq_cX6_offAll_0 (i := 6) rfl
theorem dX6_offAll_8 : decode cX6_offAll 8 = .ok (.iload 4, 2) := vl_at vq_cX6_offAll_0 (i := 7) rfl
theorem dX6_offAll_10 : decode cX6_offAll 10 = .ok (.ifCond .lt 27, 3) := vl_at vq_cX6_offAll_0 (i := 8) rfl
theorem dX6_offAll_13 : decode cX6_offAll 13 = .ok (.aload_n 2, 1) := vl_at vq_cX6_offAll_0 (i := 9) rfl
theorem dX6_offAll_14 : decode cX6_offAll 14 = .ok (.iload 4, 2) := vl_at vq_cX6_offAll_0 (i := 10) rfl
theorem dX6_offAll_16 : decode cX6_offAll 16 = .ok (.baload, 1) := vl_at vq_cX6_offAll_0 (i := 11) rfl
theorem dX6_offAll_17 : decode cX6_offAll 17 = .ok (.ifCond .eq 14, 3) := vl_at vq_cX6_offAll_0 (i := 12) rfl
theorem dX6_offAll_20 : decode cX6_offAll 20 = .ok (.aload_n 0, 1) := vl_at vq_cX6_offAll_0 (i := 13) rfl
theorem dX6_offAll_21 : decode cX6_offAll 21 = .ok (.iload_n 1, 1) := vl_at vq_cX6_offAll_0 (i := 14) rfl
theorem dX6_offAll_22 : decode cX6_offAll 22 = .ok (.iload 4, 2) := vl_at vq_cX6_offAll_0 (i := 15) rfl
theorem dX6_offAll_24 : decode cX6_offAll 24 = .ok (.invokevirtual 102, 3) := vl_at vq_cX6_offAll_0 (i := 16) rfl
theorem dX6_offAll_27 : decode cX6_offAll 27 = .ok (.pop, 1) := vl_at vq_cX6_offAll_0 (i := 17) rfl
theorem dX6_offAll_28 : decode cX6_offAll 28 = .ok (.iinc 3 1, 3) := vl_at vq_cX6_offAll_0 (i := 18) rfl
theorem dX6_offAll_31 : decode cX6_offAll 31 = .ok (.iinc 4 (-1), 3) := vl_at vq_cX6_offAll_0 (i := 19) rfl
theorem dX6_offAll_34 : decode cX6_offAll 34 = .ok (.goto (-26), 3) := vl_at vq_cX6_offAll_0 (i := 20) rfl
theorem dX6_offAll_37 : decode cX6_offAll 37 = .ok (.iload_n 3, 1) := vl_at vq_cX6_offAll_0 (i := 21) rfl
theorem dX6_offAll_38 : decode cX6_offAll 38 = .ok (.ifCond .le 7, 3) := vl_at vq_cX6_offAll_0 (i := 22) rfl
theorem dX6_offAll_41 : decode cX6_offAll 41 = .ok (.aload_n 0, 1) := vl_at vq_cX6_offAll_0 (i := 23) rfl
theorem dX6_offAll_42 : decode cX6_offAll 42 = .ok (.invokevirtual 164, 3) := vl_at vq_cX6_offAll_0 (i := 24) rfl
theorem dX6_offAll_45 : decode cX6_offAll 45 = .ok (.iload_n 3, 1) := vl_at vq_cX6_offAll_0 (i := 25) rfl
theorem dX6_offAll_46 : decode cX6_offAll 46 = .ok (.ireturn, 1) := vl_at vq_cX6_offAll_0 (i := 26) rfl
noncomputable def vl_cX6_dropAll_0 : List (Nat × Instr × Nat) := [(0, .aload_n 0, 1), (1, .iload_n 1, 1), (2, .iload_n 2, 1), (3, .invokevirtual 157, 3), (6, .ifCond .eq 5, 3), (9, .iconst 0, 1), (10, .ireturn, 1), (11, .aload_n 0, 1), (12, .iload_n 1, 1), (13, .invokevirtual 91, 3), (16, .newarray .boolean, 2), (18, .astore_n 3, 1), (19, .iconst 0, 1), (20, .istore 4, 2), (22, .iload 4, 2), (24, .aload_n 3, 1), (25, .arraylength, 1), (26, .if_icmp .ge 32, 3), (29, .aload_n 3, 1), (30, .iload 4, 2), (32, .aload_n 0, 1), (33, .iload_n 1, 1), (34, .iload 4, 2), (36, .invokevirtual 131, 3), (39, .invokestatic 154, 3), (42, .iload_n 2, 1), (43, .if_icmp .ne 7, 3), (46, .iconst 1, 1), (47, .goto 4, 3), (50, .iconst 0, 1), (51, .bastore, 1), (52, .iinc 4 1, 3), (55, .goto (-33), 3), (58, .aload_n 0, 1), (59, .iload_n 1, 1), (60, .aload_n 3, 1), (61, .invokevirtual 167, 3), (64, .ireturn, 1)]
theorem vq_cX6_dropAll_0 : vl_ok cX6_dropAll vl_cX6_dropAll_0 = true := by decide +kernel
theorem dX6_dropAll_0 : decode cX6_dropAll 0 = .ok (.aload_n 0, 1) := vl_at vq_cX6_dropAll_0 (i := 0) rfl
theorem dX6_dropAll_1 : decode cX6_dropAll 1 = .ok (.iload_n 1, 1) := vl_at vq_cX6_dropAll_0 (i := 1) rfl
theorem dX6_dropAll_2 : decode cX6_dropAll 2 = .ok (.iload_n 2, 1) := vl_at vq_cX6_dropAll_0 (i := 2) rfl
theorem dX6_dropAll_3 : decode cX6_dropAll 3 = .ok (.invokevirtual 157, 3) := vl_at vq_cX6_dropAll_0 (i := 3) rfl
theorem dX6_dropAll_6 : decode cX6_dropAll 6 = .ok (.ifCond .eq 5, 3) := vl_at vq_cX6_dropAll_0 (i := 4) rfl
theorem dX6_dropAll_9 : decode cX6_dropAll 9 = .ok (.iconst 0, 1) := vl_at vq_cX6_dropAll_0 (i := 5) rfl
theorem dX6_dropAll_10 : decode cX6_dropAll 10 = .ok (.ireturn, 1) := vl_at vq_cX6_dropAll_0 (i := 6) rfl
theorem dX6_dropAll_11 : decode cX6_dropAll 11 = .ok (.aload_n 0, 1) := vl_at vq_cX6_dropAll_0 (i := 7) rfl
theorem dX6_dropAll_12 : decode cX6_dropAll 12 = .ok (.iload_n 1, 1) := vl_at vq_cX6_dropAll_0 (i := 8) rfl
theorem dX6_dropAll_13 : decode cX6_dropAll 13 = .ok (.invokevirtual 91, 3) := vl_at vq_cX6_dropAll_0 (i := 9) rfl
theorem dX6_dropAll_16 : decode cX6_dropAll 16 = .ok (.newarray .boolean, 2) := vl_at vq_cX6_dropAll_0 (i := 10) rfl
theorem dX6_dropAll_18 : decode cX6_dropAll 18 = .ok (.astore_n 3, 1) := vl_at vq_cX6_dropAll_0 (i := 11) rfl
theorem dX6_dropAll_19 : decode cX6_dropAll 19 = .ok (.iconst 0, 1) := vl_at vq_cX6_dropAll_0 (i := 12) rfl
theorem dX6_dropAll_20 : decode cX6_dropAll 20 = .ok (.istore 4, 2) := vl_at vq_cX6_dropAll_0 (i := 13) rfl
theorem dX6_dropAll_22 : decode cX6_dropAll 22 = .ok (.iload 4, 2) := vl_at vq_cX6_dropAll_0 (i := 14) rfl
theorem dX6_dropAll_24 : decode cX6_dropAll 24 = .ok (.aload_n 3, 1) := vl_at vq_cX6_dropAll_0 (i := 15) rfl
theorem dX6_dropAll_25 : decode cX6_dropAll 25 = .ok (.arraylength, 1) := vl_at vq_cX6_dropAll_0 (i := 16) rfl
theorem dX6_dropAll_26 : decode cX6_dropAll 26 = .ok (.if_icmp .ge 32, 3) := vl_at vq_cX6_dropAll_0 (i := 17) rfl
theorem dX6_dropAll_29 : decode cX6_dropAll 29 = .ok (.aload_n 3, 1) := vl_at vq_cX6_dropAll_0 (i := 18) rfl
theorem dX6_dropAll_30 : decode cX6_dropAll 30 = .ok (.iload 4, 2) := vl_at vq_cX6_dropAll_0 (i := 19) rfl
theorem dX6_dropAll_32 : decode cX6_dropAll 32 = .ok (.aload_n 0, 1) := vl_at vq_cX6_dropAll_0 (i := 20) rfl
theorem dX6_dropAll_33 : decode cX6_dropAll 33 = .ok (.iload_n 1, 1) := vl_at vq_cX6_dropAll_0 (i := 21) rfl
theorem dX6_dropAll_34 : decode cX6_dropAll 34 = .ok (.iload 4, 2) := vl_at vq_cX6_dropAll_0 (i := 22) rfl
theorem dX6_dropAll_36 : decode cX6_dropAll 36 = .ok (.invokevirtual 131, 3) := vl_at vq_cX6_dropAll_0 (i := 23) rfl
theorem dX6_dropAll_39 : decode cX6_dropAll 39 = .ok (.invokestatic 154, 3) := vl_at vq_cX6_dropAll_0 (i := 24) rfl
theorem dX6_dropAll_42 : decode cX6_dropAll 42 = .ok (.iload_n 2, 1) := vl_at vq_cX6_dropAll_0 (i := 25) rfl
theorem dX6_dropAll_43 : decode cX6_dropAll 43 = .ok (.if_icmp .ne 7, 3) := vl_at vq_cX6_dropAll_0 (i := 26) rfl
theorem dX6_dropAll_46 : decode cX6_dropAll 46 = .ok (.iconst 1, 1) := vl_at vq_cX6_dropAll_0 (i := 27) rfl
theorem dX6_dropAll_47 : decode cX6_dropAll 47 = .ok (.goto 4, 3) := vl_at vq_cX6_dropAll_0 (i := 28) rfl
theorem dX6_dropAll_50 : decode cX6_dropAll 50 = .ok (.iconst 0, 1) := vl_at vq_cX6_dropAll_0 (i := 29) rfl
theorem dX6_dropAll_51 : decode cX6_dropAll 51 = .ok (.bastore, 1) := vl_at vq_cX6_dropAll_0 (i := 30) rfl
theorem dX6_dropAll_52 : decode cX6_dropAll 52 = .ok (.iinc 4 1, 3) := vl_at vq_cX6_dropAll_0 (i := 31) rfl
theorem dX6_dropAll_55 : decode cX6_dropAll 55 = .ok (.goto (-33), 3) := vl_at vq_cX6_dropAll_0 (i := 32) rfl
theorem dX6_dropAll_58 : decode cX6_dropAll 58 = .ok (.aload_n 0, 1) := vl_at vq_cX6_dropAll_0 (i := 33) rfl
theorem dX6_dropAll_59 : decode cX6_dropAll 59 = .ok (.iload_n 1, 1) := vl_at vq_cX6_dropAll_0 (i := 34) rfl
theorem dX6_dropAll_60 : decode cX6_dropAll 60 = .ok (.aload_n 3, 1) := vl_at vq_cX6_dropAll_0 (i := 35) rfl
theorem dX6_dropAll_61 : decode cX6_dropAll 61 = .ok (.invokevirtual 167, 3) := vl_at vq_cX6_dropAll_0 (i := 36) rfl
theorem dX6_dropAll_64 : decode cX6_dropAll 64 = .ok (.ireturn, 1) := vl_at vq_cX6_dropAll_0 (i := 37) rfl
noncomputable def vl_cX6_shed_0 : List (Nat × Instr × Nat) := [(0, .aload_n 0, 1), (1, .iload_n 1, 1), (2, .invokestatic 106, 3), (5, .iconst 1, 1), (6, .invokevirtual 110, 3), (9, .ifCond .ne 37, 3), (12, .aload_n 0, 1), (13, .iload_n 3, 1), (14, .iconst 0, 1), (15, .bipush 99, 2), (17, .invokestatic 44, 3), (20, .ifCond .eq 14, 3), (23, .iload 4, 2), (25, .iconst 1, 1), (26, .bipush 20, 2), (28, .invokestatic 44, 3), (31, .ifCond .ne 7, 3), (34, .iconst 1, 1), (35, .goto 4, 3), (38, .iconst 0, 1), (39, .iconst 2, 1), (40, .invokevirtual 40, 3), (43, .ifCond .eq 5, 3), (46, .iconst 0, 1), (47, .ireturn, 1), (48, .aload_n 0, 1), (49, .iload_n 1, 1), (50, .invokevirtual 91, 3), (53, .newarray .boolean, 2), (55, .astore 5, 2), (57, .iload 4, 2), (59, .istore 6, 2), (61, .iconst 0, 1), (62, .istore 7, 2), (64, .iconst 0, 1), (65, .istore 8, 2), (67, .iload 8, 2), (69, .aload 5, 2), (71, .arraylength, 1), (72, .if_icmp .ge 74, 3)]
theorem vq_cX6_shed_0 : vl_ok cX6_shed vl_cX6_shed_0 = true := by decide +kernel
theorem dX6_shed_0 : decode cX6_shed 0 = .ok (.aload_n 0, 1) := vl_at vq_cX6_shed_0 (i := 0) rfl
theorem dX6_shed_1 : decode cX6_shed 1 = .ok (.iload_n 1, 1) := vl_at vq_cX6_shed_0 (i := 1) rfl
theorem dX6_shed_2 : decode cX6_shed 2 = .ok (.invokestatic 106, 3) := vl_at vq_cX6_shed_0 (i := 2) rfl
theorem dX6_shed_5 : decode cX6_shed 5 = .ok (.iconst 1, 1) := vl_at vq_cX6_shed_0 (i := 3) rfl
theorem dX6_shed_6 : decode cX6_shed 6 = .ok (.invokevirtual 110, 3) := vl_at vq_cX6_shed_0 (i := 4) rfl
theorem dX6_shed_9 : decode cX6_shed 9 = .ok (.ifCond .ne 37, 3) := vl_at vq_cX6_shed_0 (i := 5) rfl
theorem dX6_shed_12 : decode cX6_shed 12 = .ok (.aload_n 0, 1) := vl_at vq_cX6_shed_0 (i := 6) rfl
theorem dX6_shed_13 : decode cX6_shed 13 = .ok (.iload_n 3, 1) := vl_at vq_cX6_shed_0 (i := 7) rfl
theorem dX6_shed_14 : decode cX6_shed 14 = .ok (.iconst 0, 1) := vl_at vq_cX6_shed_0 (i := 8) rfl
theorem dX6_shed_15 : decode cX6_shed 15 = .ok (.bipush 99, 2) := vl_at vq_cX6_shed_0 (i := 9) rfl
theorem dX6_shed_17 : decode cX6_shed 17 = .ok (.invokestatic 44, 3) := vl_at vq_cX6_shed_0 (i := 10) rfl
theorem dX6_shed_20 : decode cX6_shed 20 = .ok (.ifCond .eq 14, 3) := vl_at vq_cX6_shed_0 (i := 11) rfl
theorem dX6_shed_23 : decode cX6_shed 23 = .ok (.iload 4, 2) := vl_at vq_cX6_shed_0 (i := 12) rfl
theorem dX6_shed_25 : decode cX6_shed 25 = .ok (.iconst 1, 1) := vl_at vq_cX6_shed_0 (i := 13) rfl
theorem dX6_shed_26 : decode cX6_shed 26 = .ok (.bipush 20, 2) := vl_at vq_cX6_shed_0 (i := 14) rfl
theorem dX6_shed_28 : decode cX6_shed 28 = .ok (.invokestatic 44, 3) := vl_at vq_cX6_shed_0 (i := 15) rfl
theorem dX6_shed_31 : decode cX6_shed 31 = .ok (.ifCond .ne 7, 3) := vl_at vq_cX6_shed_0 (i := 16) rfl
theorem dX6_shed_34 : decode cX6_shed 34 = .ok (.iconst 1, 1) := vl_at vq_cX6_shed_0 (i := 17) rfl
theorem dX6_shed_35 : decode cX6_shed 35 = .ok (.goto 4, 3) := vl_at vq_cX6_shed_0 (i := 18) rfl
theorem dX6_shed_38 : decode cX6_shed 38 = .ok (.iconst 0, 1) := vl_at vq_cX6_shed_0 (i := 19) rfl
theorem dX6_shed_39 : decode cX6_shed 39 = .ok (.iconst 2, 1) := vl_at vq_cX6_shed_0 (i := 20) rfl
theorem dX6_shed_40 : decode cX6_shed 40 = .ok (.invokevirtual 40, 3) := vl_at vq_cX6_shed_0 (i := 21) rfl
theorem dX6_shed_43 : decode cX6_shed 43 = .ok (.ifCond .eq 5, 3) := vl_at vq_cX6_shed_0 (i := 22) rfl
theorem dX6_shed_46 : decode cX6_shed 46 = .ok (.iconst 0, 1) := vl_at vq_cX6_shed_0 (i := 23) rfl
theorem dX6_shed_47 : decode cX6_shed 47 = .ok (.ireturn, 1) := vl_at vq_cX6_shed_0 (i := 24) rfl
theorem dX6_shed_48 : decode cX6_shed 48 = .ok (.aload_n 0, 1) := vl_at vq_cX6_shed_0 (i := 25) rfl
theorem dX6_shed_49 : decode cX6_shed 49 = .ok (.iload_n 1, 1) := vl_at vq_cX6_shed_0 (i := 26) rfl
theorem dX6_shed_50 : decode cX6_shed 50 = .ok (.invokevirtual 91, 3) := vl_at vq_cX6_shed_0 (i := 27) rfl
theorem dX6_shed_53 : decode cX6_shed 53 = .ok (.newarray .boolean, 2) := vl_at vq_cX6_shed_0 (i := 28) rfl
theorem dX6_shed_55 : decode cX6_shed 55 = .ok (.astore 5, 2) := vl_at vq_cX6_shed_0 (i := 29) rfl
theorem dX6_shed_57 : decode cX6_shed 57 = .ok (.iload 4, 2) := vl_at vq_cX6_shed_0 (i := 30) rfl
theorem dX6_shed_59 : decode cX6_shed 59 = .ok (.istore 6, 2) := vl_at vq_cX6_shed_0 (i := 31) rfl
theorem dX6_shed_61 : decode cX6_shed 61 = .ok (.iconst 0, 1) := vl_at vq_cX6_shed_0 (i := 32) rfl
theorem dX6_shed_62 : decode cX6_shed 62 = .ok (.istore 7, 2) := vl_at vq_cX6_shed_0 (i := 33) rfl
theorem dX6_shed_64 : decode cX6_shed 64 = .ok (.iconst 0, 1) := vl_at vq_cX6_shed_0 (i := 34) rfl
theorem dX6_shed_65 : decode cX6_shed 65 = .ok (.istore 8, 2) := vl_at vq_cX6_shed_0 (i := 35) rfl
theorem dX6_shed_67 : decode cX6_shed 67 = .ok (.iload 8, 2) := vl_at vq_cX6_shed_0 (i := 36) rfl
theorem dX6_shed_69 : decode cX6_shed 69 = .ok (.aload 5, 2) := vl_at vq_cX6_shed_0 (i := 37) rfl
theorem dX6_shed_71 : decode cX6_shed 71 = .ok (.arraylength, 1) := vl_at vq_cX6_shed_0 (i := 38) rfl
theorem dX6_shed_72 : decode cX6_shed 72 = .ok (.if_icmp .ge 74, 3) := vl_at vq_cX6_shed_0 (i := 39) rfl
noncomputable def vl_cX6_shed_1 : List (Nat × Instr × Nat) := [(75, .iload_n 2, 1), (76, .ifCond .eq 14, 3), (79, .aload 5, 2), (81, .arraylength, 1), (82, .iconst 1, 1), (83, .isub, 1), (84, .iload 8, 2), (86, .isub, 1), (87, .goto 5, 3), (90, .iload 8, 2), (92, .istore 9, 2), (94, .iload 6, 2), (96, .ifCond .eq 44, 3), (99, .aload_n 0, 1), (100, .iload_n 1, 1), (101, .iload 9, 2), (103, .invokevirtual 131, 3), (106, .invokestatic 171, 3), (109, .iload_n 3, 1), (110, .if_icmp .ge 6, 3), (113, .goto 27, 3), (116, .aload 5, 2), (118, .iload 9, 2), (120, .iconst 1, 1), (121, .bastore, 1), (122, .iload 7, 2), (124, .aload_n 0, 1), (125, .iload_n 1, 1), (126, .iload 9, 2), (128, .invokevirtual 131, 3), (131, .invokestatic 171, 3), (134, .iadd, 1), (135, .istore 7, 2), (137, .iinc 6 (-1), 3), (140, .iinc 8 1, 3), (143, .goto (-76), 3), (146, .aload_n 0, 1), (147, .iload_n 1, 1), (148, .aload 5, 2), (150, .invokevirtual 167, 3)]
theorem vq_cX6_shed_1 : vl_ok cX6_shed vl_cX6_shed_1 = true := by decide +kernel
theorem dX6_shed_75 : decode cX6_shed 75 = .ok (.iload_n 2, 1) := vl_at vq_cX6_shed_1 (i := 0) rfl
theorem dX6_shed_76 : decode cX6_shed 76 = .ok (.ifCond .eq 14, 3) := vl_at vq_cX6_shed_1 (i := 1) rfl
theorem dX6_shed_79 : decode cX6_shed 79 = .ok (.aload 5, 2) := vl_at vq_cX6_shed_1 (i := 2) rfl
theorem dX6_shed_81 : decode cX6_shed 81 = .ok (.arraylength, 1) := vl_at vq_cX6_shed_1 (i := 3) rfl
theorem dX6_shed_82 : decode cX6_shed 82 = .ok (.iconst 1, 1) := vl_at vq_cX6_shed_1 (i := 4) rfl
theorem dX6_shed_83 : decode cX6_shed 83 = .ok (.isub, 1) := vl_at vq_cX6_shed_1 (i := 5) rfl
theorem dX6_shed_84 : decode cX6_shed 84 = .ok (.iload 8, 2) := vl_at vq_cX6_shed_1 (i := 6) rfl
theorem dX6_shed_86 : decode cX6_shed 86 = .ok (.isub, 1) := vl_at vq_cX6_shed_1 (i := 7) rfl
theorem dX6_shed_87 : decode cX6_shed 87 = .ok (.goto 5, 3) := vl_at vq_cX6_shed_1 (i := 8) rfl
theorem dX6_shed_90 : decode cX6_shed 90 = .ok (.iload 8, 2) := vl_at vq_cX6_shed_1 (i := 9) rfl
theorem dX6_shed_92 : decode cX6_shed 92 = .ok (.istore 9, 2) := vl_at vq_cX6_shed_1 (i := 10) rfl
theorem dX6_shed_94 : decode cX6_shed 94 = .ok (.iload 6, 2) := vl_at vq_cX6_shed_1 (i := 11) rfl
theorem dX6_shed_96 : decode cX6_shed 96 = .ok (.ifCond .eq 44, 3) := vl_at vq_cX6_shed_1 (i := 12) rfl
theorem dX6_shed_99 : decode cX6_shed 99 = .ok (.aload_n 0, 1) := vl_at vq_cX6_shed_1 (i := 13) rfl
theorem dX6_shed_100 : decode cX6_shed 100 = .ok (.iload_n 1, 1) := vl_at vq_cX6_shed_1 (i := 14) rfl
theorem dX6_shed_101 : decode cX6_shed 101 = .ok (.iload 9, 2) := vl_at vq_cX6_shed_1 (i := 15) rfl
theorem dX6_shed_103 : decode cX6_shed 103 = .ok (.invokevirtual 131, 3) := vl_at vq_cX6_shed_1 (i := 16) rfl
theorem dX6_shed_106 : decode cX6_shed 106 = .ok (.invokestatic 171, 3) := vl_at vq_cX6_shed_1 (i := 17) rfl
theorem dX6_shed_109 : decode cX6_shed 109 = .ok (.iload_n 3, 1) := vl_at vq_cX6_shed_1 (i := 18) rfl
theorem dX6_shed_110 : decode cX6_shed 110 = .ok (.if_icmp .ge 6, 3) := vl_at vq_cX6_shed_1 (i := 19) rfl
theorem dX6_shed_113 : decode cX6_shed 113 = .ok (.goto 27, 3) := vl_at vq_cX6_shed_1 (i := 20) rfl
theorem dX6_shed_116 : decode cX6_shed 116 = .ok (.aload 5, 2) := vl_at vq_cX6_shed_1 (i := 21) rfl
theorem dX6_shed_118 : decode cX6_shed 118 = .ok (.iload 9, 2) := vl_at vq_cX6_shed_1 (i := 22) rfl
theorem dX6_shed_120 : decode cX6_shed 120 = .ok (.iconst 1, 1) := vl_at vq_cX6_shed_1 (i := 23) rfl
theorem dX6_shed_121 : decode cX6_shed 121 = .ok (.bastore, 1) := vl_at vq_cX6_shed_1 (i := 24) rfl
theorem dX6_shed_122 : decode cX6_shed 122 = .ok (.iload 7, 2) := vl_at vq_cX6_shed_1 (i := 25) rfl
theorem dX6_shed_124 : decode cX6_shed 124 = .ok (.aload_n 0, 1) := vl_at vq_cX6_shed_1 (i := 26) rfl
theorem dX6_shed_125 : decode cX6_shed 125 = .ok (.iload_n 1, 1) := vl_at vq_cX6_shed_1 (i := 27) rfl
theorem dX6_shed_126 : decode cX6_shed 126 = .ok (.iload 9, 2) := vl_at vq_cX6_shed_1 (i := 28) rfl
theorem dX6_shed_128 : decode cX6_shed 128 = .ok (.invokevirtual 131, 3) := vl_at vq_cX6_shed_1 (i := 29) rfl
theorem dX6_shed_131 : decode cX6_shed 131 = .ok (.invokestatic 171, 3) := vl_at vq_cX6_shed_1 (i := 30) rfl
theorem dX6_shed_134 : decode cX6_shed 134 = .ok (.iadd, 1) := vl_at vq_cX6_shed_1 (i := 31) rfl
theorem dX6_shed_135 : decode cX6_shed 135 = .ok (.istore 7, 2) := vl_at vq_cX6_shed_1 (i := 32) rfl
theorem dX6_shed_137 : decode cX6_shed 137 = .ok (.iinc 6 (-1), 3) := vl_at vq_cX6_shed_1 (i := 33) rfl
theorem dX6_shed_140 : decode cX6_shed 140 = .ok (.iinc 8 1, 3) := vl_at vq_cX6_shed_1 (i := 34) rfl
theorem dX6_shed_143 : decode cX6_shed 143 = .ok (.goto (-76), 3) := vl_at vq_cX6_shed_1 (i := 35) rfl
theorem dX6_shed_146 : decode cX6_shed 146 = .ok (.aload_n 0, 1) := vl_at vq_cX6_shed_1 (i := 36) rfl
theorem dX6_shed_147 : decode cX6_shed 147 = .ok (.iload_n 1, 1) := vl_at vq_cX6_shed_1 (i := 37) rfl
theorem dX6_shed_148 : decode cX6_shed 148 = .ok (.aload 5, 2) := vl_at vq_cX6_shed_1 (i := 38) rfl
theorem dX6_shed_150 : decode cX6_shed 150 = .ok (.invokevirtual 167, 3) := vl_at vq_cX6_shed_1 (i := 39) rfl
noncomputable def vl_cX6_shed_2 : List (Nat × Instr × Nat) := [(153, .pop, 1), (154, .iload 7, 2), (156, .ireturn, 1)]
theorem vq_cX6_shed_2 : vl_ok cX6_shed vl_cX6_shed_2 = true := by decide +kernel
theorem dX6_shed_153 : decode cX6_shed 153 = .ok (.pop, 1) := vl_at vq_cX6_shed_2 (i := 0) rfl
theorem dX6_shed_154 : decode cX6_shed 154 = .ok (.iload 7, 2) := vl_at vq_cX6_shed_2 (i := 1) rfl
theorem dX6_shed_156 : decode cX6_shed 156 = .ok (.ireturn, 1) := vl_at vq_cX6_shed_2 (i := 2) rfl
noncomputable def vl_cX6_thin_0 : List (Nat × Instr × Nat) := [(0, .aload_n 0, 1), (1, .iload_n 1, 1), (2, .invokestatic 106, 3), (5, .iconst 1, 1), (6, .invokevirtual 110, 3), (9, .ifCond .ne 25, 3), (12, .aload_n 0, 1), (13, .iload_n 3, 1), (14, .iconst 2, 1), (15, .iconst 5, 1), (16, .invokestatic 44, 3), (19, .ifCond .ne 7, 3), (22, .iconst 1, 1), (23, .goto 4, 3), (26, .iconst 0, 1), (27, .iconst 2, 1), (28, .invokevirtual 40, 3), (31, .ifCond .eq 5, 3), (34, .iconst 0, 1), (35, .ireturn, 1), (36, .aload_n 0, 1), (37, .iload_n 1, 1), (38, .invokevirtual 91, 3), (41, .newarray .boolean, 2), (43, .astore 4, 2), (45, .iconst 1, 1), (46, .istore 5, 2), (48, .iload 5, 2), (50, .aload 4, 2), (52, .arraylength, 1), (53, .if_icmp .gt 41, 3), (56, .aload 4, 2), (58, .iload_n 2, 1), (59, .ifCond .eq 12, 3), (62, .aload 4, 2), (64, .arraylength, 1), (65, .iload 5, 2), (67, .isub, 1), (68, .goto 7, 3), (71, .iload 5, 2)]
theorem vq_cX6_thin_0 : vl_ok cX6_thin vl_cX6_thin_0 = true := by decide +kernel
theorem dX6_thin_0 : decode cX6_thin 0 = .ok (.aload_n 0, 1) := vl_at vq_cX6_thin_0 (i := 0) rfl
theorem dX6_thin_1 : decode cX6_thin 1 = .ok (.iload_n 1, 1) := vl_at vq_cX6_thin_0 (i := 1) rfl
theorem dX6_thin_2 : decode cX6_thin 2 = .ok (.invokestatic 106, 3) := vl_at vq_cX6_thin_0 (i := 2) rfl
theorem dX6_thin_5 : decode cX6_thin 5 = .ok (.iconst 1, 1) := vl_at vq_cX6_thin_0 (i := 3) rfl
theorem dX6_thin_6 : decode cX6_thin 6 = .ok (.invokevirtual 110, 3) := vl_at vq_cX6_thin_0 (i := 4) rfl
theorem dX6_thin_9 : decode cX6_thin 9 = .ok (.ifCond .ne 25, 3) := vl_at vq_cX6_thin_0 (i := 5) rfl
theorem dX6_thin_12 : decode cX6_thin 12 = .ok (.aload_n 0, 1) := vl_at vq_cX6_thin_0 (i := 6) rfl
theorem dX6_thin_13 : decode cX6_thin 13 = .ok (.iload_n 3, 1) := vl_at vq_cX6_thin_0 (i := 7) rfl
theorem dX6_thin_14 : decode cX6_thin 14 = .ok (.iconst 2, 1) := vl_at vq_cX6_thin_0 (i := 8) rfl
theorem dX6_thin_15 : decode cX6_thin 15 = .ok (.iconst 5, 1) := vl_at vq_cX6_thin_0 (i := 9) rfl
theorem dX6_thin_16 : decode cX6_thin 16 = .ok (.invokestatic 44, 3) := vl_at vq_cX6_thin_0 (i := 10) rfl
theorem dX6_thin_19 : decode cX6_thin 19 = .ok (.ifCond .ne 7, 3) := vl_at vq_cX6_thin_0 (i := 11) rfl
theorem dX6_thin_22 : decode cX6_thin 22 = .ok (.iconst 1, 1) := vl_at vq_cX6_thin_0 (i := 12) rfl
theorem dX6_thin_23 : decode cX6_thin 23 = .ok (.goto 4, 3) := vl_at vq_cX6_thin_0 (i := 13) rfl
theorem dX6_thin_26 : decode cX6_thin 26 = .ok (.iconst 0, 1) := vl_at vq_cX6_thin_0 (i := 14) rfl
theorem dX6_thin_27 : decode cX6_thin 27 = .ok (.iconst 2, 1) := vl_at vq_cX6_thin_0 (i := 15) rfl
theorem dX6_thin_28 : decode cX6_thin 28 = .ok (.invokevirtual 40, 3) := vl_at vq_cX6_thin_0 (i := 16) rfl
theorem dX6_thin_31 : decode cX6_thin 31 = .ok (.ifCond .eq 5, 3) := vl_at vq_cX6_thin_0 (i := 17) rfl
theorem dX6_thin_34 : decode cX6_thin 34 = .ok (.iconst 0, 1) := vl_at vq_cX6_thin_0 (i := 18) rfl
theorem dX6_thin_35 : decode cX6_thin 35 = .ok (.ireturn, 1) := vl_at vq_cX6_thin_0 (i := 19) rfl
theorem dX6_thin_36 : decode cX6_thin 36 = .ok (.aload_n 0, 1) := vl_at vq_cX6_thin_0 (i := 20) rfl
theorem dX6_thin_37 : decode cX6_thin 37 = .ok (.iload_n 1, 1) := vl_at vq_cX6_thin_0 (i := 21) rfl
theorem dX6_thin_38 : decode cX6_thin 38 = .ok (.invokevirtual 91, 3) := vl_at vq_cX6_thin_0 (i := 22) rfl
theorem dX6_thin_41 : decode cX6_thin 41 = .ok (.newarray .boolean, 2) := vl_at vq_cX6_thin_0 (i := 23) rfl
theorem dX6_thin_43 : decode cX6_thin 43 = .ok (.astore 4, 2) := vl_at vq_cX6_thin_0 (i := 24) rfl
theorem dX6_thin_45 : decode cX6_thin 45 = .ok (.iconst 1, 1) := vl_at vq_cX6_thin_0 (i := 25) rfl
theorem dX6_thin_46 : decode cX6_thin 46 = .ok (.istore 5, 2) := vl_at vq_cX6_thin_0 (i := 26) rfl
theorem dX6_thin_48 : decode cX6_thin 48 = .ok (.iload 5, 2) := vl_at vq_cX6_thin_0 (i := 27) rfl
theorem dX6_thin_50 : decode cX6_thin 50 = .ok (.aload 4, 2) := vl_at vq_cX6_thin_0 (i := 28) rfl
theorem dX6_thin_52 : decode cX6_thin 52 = .ok (.arraylength, 1) := vl_at vq_cX6_thin_0 (i := 29) rfl
theorem dX6_thin_53 : decode cX6_thin 53 = .ok (.if_icmp .gt 41, 3) := vl_at vq_cX6_thin_0 (i := 30) rfl
theorem dX6_thin_56 : decode cX6_thin 56 = .ok (.aload 4, 2) := vl_at vq_cX6_thin_0 (i := 31) rfl
theorem dX6_thin_58 : decode cX6_thin 58 = .ok (.iload_n 2, 1) := vl_at vq_cX6_thin_0 (i := 32) rfl
theorem dX6_thin_59 : decode cX6_thin 59 = .ok (.ifCond .eq 12, 3) := vl_at vq_cX6_thin_0 (i := 33) rfl
theorem dX6_thin_62 : decode cX6_thin 62 = .ok (.aload 4, 2) := vl_at vq_cX6_thin_0 (i := 34) rfl
theorem dX6_thin_64 : decode cX6_thin 64 = .ok (.arraylength, 1) := vl_at vq_cX6_thin_0 (i := 35) rfl
theorem dX6_thin_65 : decode cX6_thin 65 = .ok (.iload 5, 2) := vl_at vq_cX6_thin_0 (i := 36) rfl
theorem dX6_thin_67 : decode cX6_thin 67 = .ok (.isub, 1) := vl_at vq_cX6_thin_0 (i := 37) rfl
theorem dX6_thin_68 : decode cX6_thin 68 = .ok (.goto 7, 3) := vl_at vq_cX6_thin_0 (i := 38) rfl
theorem dX6_thin_71 : decode cX6_thin 71 = .ok (.iload 5, 2) := vl_at vq_cX6_thin_0 (i := 39) rfl
noncomputable def vl_cX6_thin_1 : List (Nat × Instr × Nat) := [(73, .iconst 1, 1), (74, .isub, 1), (75, .iload 5, 2), (77, .iload_n 3, 1), (78, .irem, 1), (79, .ifCond .ne 7, 3), (82, .iconst 1, 1), (83, .goto 4, 3), (86, .iconst 0, 1), (87, .bastore, 1), (88, .iinc 5 1, 3), (91, .goto (-43), 3), (94, .aload_n 0, 1), (95, .iload_n 1, 1), (96, .aload 4, 2), (98, .invokevirtual 167, 3), (101, .ireturn, 1)]
theorem vq_cX6_thin_1 : vl_ok cX6_thin vl_cX6_thin_1 = true := by decide +kernel
theorem dX6_thin_73 : decode cX6_thin 73 = .ok (.iconst 1, 1) := vl_at vq_cX6_thin_1 (i := 0) rfl
theorem dX6_thin_74 : decode cX6_thin 74 = .ok (.isub, 1) := vl_at vq_cX6_thin_1 (i := 1) rfl
theorem dX6_thin_75 : decode cX6_thin 75 = .ok (.iload 5, 2) := vl_at vq_cX6_thin_1 (i := 2) rfl
theorem dX6_thin_77 : decode cX6_thin 77 = .ok (.iload_n 3, 1) := vl_at vq_cX6_thin_1 (i := 3) rfl
theorem dX6_thin_78 : decode cX6_thin 78 = .ok (.irem, 1) := vl_at vq_cX6_thin_1 (i := 4) rfl
theorem dX6_thin_79 : decode cX6_thin 79 = .ok (.ifCond .ne 7, 3) := vl_at vq_cX6_thin_1 (i := 5) rfl
theorem dX6_thin_82 : decode cX6_thin 82 = .ok (.iconst 1, 1) := vl_at vq_cX6_thin_1 (i := 6) rfl
theorem dX6_thin_83 : decode cX6_thin 83 = .ok (.goto 4, 3) := vl_at vq_cX6_thin_1 (i := 7) rfl
theorem dX6_thin_86 : decode cX6_thin 86 = .ok (.iconst 0, 1) := vl_at vq_cX6_thin_1 (i := 8) rfl
theorem dX6_thin_87 : decode cX6_thin 87 = .ok (.bastore, 1) := vl_at vq_cX6_thin_1 (i := 9) rfl
theorem dX6_thin_88 : decode cX6_thin 88 = .ok (.iinc 5 1, 3) := vl_at vq_cX6_thin_1 (i := 10) rfl
theorem dX6_thin_91 : decode cX6_thin 91 = .ok (.goto (-43), 3) := vl_at vq_cX6_thin_1 (i := 11) rfl
theorem dX6_thin_94 : decode cX6_thin 94 = .ok (.aload_n 0, 1) := vl_at vq_cX6_thin_1 (i := 12) rfl
theorem dX6_thin_95 : decode cX6_thin 95 = .ok (.iload_n 1, 1) := vl_at vq_cX6_thin_1 (i := 13) rfl
theorem dX6_thin_96 : decode cX6_thin 96 = .ok (.aload 4, 2) := vl_at vq_cX6_thin_1 (i := 14) rfl
theorem dX6_thin_98 : decode cX6_thin 98 = .ok (.invokevirtual 167, 3) := vl_at vq_cX6_thin_1 (i := 15) rfl
theorem dX6_thin_101 : decode cX6_thin 101 = .ok (.ireturn, 1) := vl_at vq_cX6_thin_1 (i := 16) rfl
noncomputable def vl_cX6_turn_0 : List (Nat × Instr × Nat) := [(0, .aload_n 0, 1), (1, .iload_n 1, 1), (2, .invokestatic 106, 3), (5, .iconst 1, 1), (6, .invokevirtual 110, 3), (9, .ifCond .eq 5, 3), (12, .iconst 0, 1), (13, .ireturn, 1), (14, .aload_n 0, 1), (15, .iload_n 1, 1), (16, .invokevirtual 91, 3), (19, .istore_n 2, 1), (20, .iload_n 2, 1), (21, .ifCond .ne 5, 3), (24, .iconst 0, 1), (25, .ireturn, 1), (26, .iconst 1, 1), (27, .istore_n 3, 1), (28, .iload_n 3, 1), (29, .iload_n 2, 1), (30, .if_icmp .ge 42, 3), (33, .aload_n 0, 1), (34, .getfield 10, 3), (37, .iload_n 1, 1), (38, .invokevirtual 48, 3), (41, .checkcast 7, 3), (44, .iconst 0, 1), (45, .aload_n 0, 1), (46, .getfield 10, 3), (49, .iload_n 1, 1), (50, .invokevirtual 48, 3), (53, .checkcast 7, 3), (56, .iload_n 3, 1), (57, .invokevirtual 81, 3), (60, .checkcast 56, 3), (63, .invokevirtual 74, 3), (66, .iinc 3 1, 3), (69, .goto (-41), 3), (72, .aload_n 0, 1), (73, .iload_n 1, 1)]
theorem vq_cX6_turn_0 : vl_ok cX6_turn vl_cX6_turn_0 = true := by decide +kernel
theorem dX6_turn_0 : decode cX6_turn 0 = .ok (.aload_n 0, 1) := vl_at vq_cX6_turn_0 (i := 0) rfl
theorem dX6_turn_1 : decode cX6_turn 1 = .ok (.iload_n 1, 1) := vl_at vq_cX6_turn_0 (i := 1) rfl
theorem dX6_turn_2 : decode cX6_turn 2 = .ok (.invokestatic 106, 3) := vl_at vq_cX6_turn_0 (i := 2) rfl
theorem dX6_turn_5 : decode cX6_turn 5 = .ok (.iconst 1, 1) := vl_at vq_cX6_turn_0 (i := 3) rfl
theorem dX6_turn_6 : decode cX6_turn 6 = .ok (.invokevirtual 110, 3) := vl_at vq_cX6_turn_0 (i := 4) rfl
theorem dX6_turn_9 : decode cX6_turn 9 = .ok (.ifCond .eq 5, 3) := vl_at vq_cX6_turn_0 (i := 5) rfl
theorem dX6_turn_12 : decode cX6_turn 12 = .ok (.iconst 0, 1) := vl_at vq_cX6_turn_0 (i := 6) rfl
theorem dX6_turn_13 : decode cX6_turn 13 = .ok (.ireturn, 1) := vl_at vq_cX6_turn_0 (i := 7) rfl
theorem dX6_turn_14 : decode cX6_turn 14 = .ok (.aload_n 0, 1) := vl_at vq_cX6_turn_0 (i := 8) rfl
theorem dX6_turn_15 : decode cX6_turn 15 = .ok (.iload_n 1, 1) := vl_at vq_cX6_turn_0 (i := 9) rfl
theorem dX6_turn_16 : decode cX6_turn 16 = .ok (.invokevirtual 91, 3) := vl_at vq_cX6_turn_0 (i := 10) rfl
theorem dX6_turn_19 : decode cX6_turn 19 = .ok (.istore_n 2, 1) := vl_at vq_cX6_turn_0 (i := 11) rfl
theorem dX6_turn_20 : decode cX6_turn 20 = .ok (.iload_n 2, 1) := vl_at vq_cX6_turn_0 (i := 12) rfl
theorem dX6_turn_21 : decode cX6_turn 21 = .ok (.ifCond .ne 5, 3) := vl_at vq_cX6_turn_0 (i := 13) rfl
theorem dX6_turn_24 : decode cX6_turn 24 = .ok (.iconst 0, 1) := vl_at vq_cX6_turn_0 (i := 14) rfl
theorem dX6_turn_25 : decode cX6_turn 25 = .ok (.ireturn, 1) := vl_at vq_cX6_turn_0 (i := 15) rfl
theorem dX6_turn_26 : decode cX6_turn 26 = .ok (.iconst 1, 1) := vl_at vq_cX6_turn_0 (i := 16) rfl
theorem dX6_turn_27 : decode cX6_turn 27 = .ok (.istore_n 3, 1) := vl_at vq_cX6_turn_0 (i := 17) rfl
theorem dX6_turn_28 : decode cX6_turn 28 = .ok (.iload_n 3, 1) := vl_at vq_cX6_turn_0 (i := 18) rfl
theorem dX6_turn_29 : decode cX6_turn 29 = .ok (.iload_n 2, 1) := vl_at vq_cX6_turn_0 (i := 19) rfl
theorem dX6_turn_30 : decode cX6_turn 30 = .ok (.if_icmp .ge 42, 3) := vl_at vq_cX6_turn_0 (i := 20) rfl
theorem dX6_turn_33 : decode cX6_turn 33 = .ok (.aload_n 0, 1) := vl_at vq_cX6_turn_0 (i := 21) rfl
theorem dX6_turn_34 : decode cX6_turn 34 = .ok (.getfield 10, 3) := vl_at vq_cX6_turn_0 (i := 22) rfl
theorem dX6_turn_37 : decode cX6_turn 37 = .ok (.iload_n 1, 1) := vl_at vq_cX6_turn_0 (i := 23) rfl
theorem dX6_turn_38 : decode cX6_turn 38 = .ok (.invokevirtual 48, 3) := vl_at vq_cX6_turn_0 (i := 24) rfl
theorem dX6_turn_41 : decode cX6_turn 41 = .ok (.checkcast 7, 3) := vl_at vq_cX6_turn_0 (i := 25) rfl
theorem dX6_turn_44 : decode cX6_turn 44 = .ok (.iconst 0, 1) := vl_at vq_cX6_turn_0 (i := 26) rfl
theorem dX6_turn_45 : decode cX6_turn 45 = .ok (.aload_n 0, 1) := vl_at vq_cX6_turn_0 (i := 27) rfl
theorem dX6_turn_46 : decode cX6_turn 46 = .ok (.getfield 10, 3) := vl_at vq_cX6_turn_0 (i := 28) rfl
theorem dX6_turn_49 : decode cX6_turn 49 = .ok (.iload_n 1, 1) := vl_at vq_cX6_turn_0 (i := 29) rfl
theorem dX6_turn_50 : decode cX6_turn 50 = .ok (.invokevirtual 48, 3) := vl_at vq_cX6_turn_0 (i := 30) rfl
theorem dX6_turn_53 : decode cX6_turn 53 = .ok (.checkcast 7, 3) := vl_at vq_cX6_turn_0 (i := 31) rfl
theorem dX6_turn_56 : decode cX6_turn 56 = .ok (.iload_n 3, 1) := vl_at vq_cX6_turn_0 (i := 32) rfl
theorem dX6_turn_57 : decode cX6_turn 57 = .ok (.invokevirtual 81, 3) := vl_at vq_cX6_turn_0 (i := 33) rfl
theorem dX6_turn_60 : decode cX6_turn 60 = .ok (.checkcast 56, 3) := vl_at vq_cX6_turn_0 (i := 34) rfl
theorem dX6_turn_63 : decode cX6_turn 63 = .ok (.invokevirtual 74, 3) := vl_at vq_cX6_turn_0 (i := 35) rfl
theorem dX6_turn_66 : decode cX6_turn 66 = .ok (.iinc 3 1, 3) := vl_at vq_cX6_turn_0 (i := 36) rfl
theorem dX6_turn_69 : decode cX6_turn 69 = .ok (.goto (-41), 3) := vl_at vq_cX6_turn_0 (i := 37) rfl
theorem dX6_turn_72 : decode cX6_turn 72 = .ok (.aload_n 0, 1) := vl_at vq_cX6_turn_0 (i := 38) rfl
theorem dX6_turn_73 : decode cX6_turn 73 = .ok (.iload_n 1, 1) := vl_at vq_cX6_turn_0 (i := 39) rfl
noncomputable def vl_cX6_turn_1 : List (Nat × Instr × Nat) := [(74, .iconst (-1), 1), (75, .invokevirtual 77, 3), (78, .aload_n 0, 1), (79, .invokevirtual 164, 3), (82, .aload_n 0, 1), (83, .iload_n 1, 1), (84, .iconst 0, 1), (85, .invokevirtual 131, 3), (88, .ireturn, 1)]
theorem vq_cX6_turn_1 : vl_ok cX6_turn vl_cX6_turn_1 = true := by decide +kernel
theorem dX6_turn_74 : decode cX6_turn 74 = .ok (.iconst (-1), 1) := vl_at vq_cX6_turn_1 (i := 0) rfl
theorem dX6_turn_75 : decode cX6_turn 75 = .ok (.invokevirtual 77, 3) := vl_at vq_cX6_turn_1 (i := 1) rfl
theorem dX6_turn_78 : decode cX6_turn 78 = .ok (.aload_n 0, 1) := vl_at vq_cX6_turn_1 (i := 2) rfl
theorem dX6_turn_79 : decode cX6_turn 79 = .ok (.invokevirtual 164, 3) := vl_at vq_cX6_turn_1 (i := 3) rfl
theorem dX6_turn_82 : decode cX6_turn 82 = .ok (.aload_n 0, 1) := vl_at vq_cX6_turn_1 (i := 4) rfl
theorem dX6_turn_83 : decode cX6_turn 83 = .ok (.iload_n 1, 1) := vl_at vq_cX6_turn_1 (i := 5) rfl
theorem dX6_turn_84 : decode cX6_turn 84 = .ok (.iconst 0, 1) := vl_at vq_cX6_turn_1 (i := 6) rfl
theorem dX6_turn_85 : decode cX6_turn 85 = .ok (.invokevirtual 131, 3) := vl_at vq_cX6_turn_1 (i := 7) rfl
theorem dX6_turn_88 : decode cX6_turn 88 = .ok (.ireturn, 1) := vl_at vq_cX6_turn_1 (i := 8) rfl
noncomputable def vl_cX6_clear_0 : List (Nat × Instr × Nat) := [(0, .aload_n 0, 1), (1, .iload_n 1, 1), (2, .invokestatic 106, 3), (5, .iconst 1, 1), (6, .invokevirtual 110, 3), (9, .ifCond .eq 5, 3), (12, .iconst 0, 1), (13, .ireturn, 1), (14, .aload_n 0, 1), (15, .iload_n 1, 1), (16, .invokevirtual 91, 3), (19, .newarray .boolean, 2), (21, .astore_n 2, 1), (22, .iconst 0, 1), (23, .istore_n 3, 1), (24, .iload_n 3, 1), (25, .aload_n 2, 1), (26, .arraylength, 1), (27, .if_icmp .ge 13, 3), (30, .aload_n 2, 1), (31, .iload_n 3, 1), (32, .iconst 1, 1), (33, .bastore, 1), (34, .iinc 3 1, 3), (37, .goto (-13), 3), (40, .aload_n 0, 1), (41, .iload_n 1, 1), (42, .aload_n 2, 1), (43, .invokevirtual 167, 3), (46, .ireturn, 1)]
theorem vq_cX6_clear_0 : vl_ok cX6_clear vl_cX6_clear_0 = true := by decide +kernel
theorem dX6_clear_0 : decode cX6_clear 0 = .ok (.aload_n 0, 1) := vl_at vq_cX6_clear_0 (i := 0) rfl
theorem dX6_clear_1 : decode cX6_clear 1 = .ok (.iload_n 1, 1) := vl_at vq_cX6_clear_0 (i := 1) rfl
theorem dX6_clear_2 : decode cX6_clear 2 = .ok (.invokestatic 106, 3) := vl_at vq_cX6_clear_0 (i := 2) rfl
theorem dX6_clear_5 : decode cX6_clear 5 = .ok (.iconst 1, 1) := vl_at vq_cX6_clear_0 (i := 3) rfl
theorem dX6_clear_6 : decode cX6_clear 6 = .ok (.invokevirtual 110, 3) := vl_at vq_cX6_clear_0 (i := 4) rfl
theorem dX6_clear_9 : decode cX6_clear 9 = .ok (.ifCond .eq 5, 3) := vl_at vq_cX6_clear_0 (i := 5) rfl
theorem dX6_clear_12 : decode cX6_clear 12 = .ok (.iconst 0, 1) := vl_at vq_cX6_clear_0 (i := 6) rfl
theorem dX6_clear_13 : decode cX6_clear 13 = .ok (.ireturn, 1) := vl_at vq_cX6_clear_0 (i := 7) rfl
theorem dX6_clear_14 : decode cX6_clear 14 = .ok (.aload_n 0, 1) := vl_at vq_cX6_clear_0 (i := 8) rfl
theorem dX6_clear_15 : decode cX6_clear 15 = .ok (.iload_n 1, 1) := vl_at vq_cX6_clear_0 (i := 9) rfl
theorem dX6_clear_16 : decode cX6_clear 16 = .ok (.invokevirtual 91, 3) := vl_at vq_cX6_clear_0 (i := 10) rfl
theorem dX6_clear_19 : decode cX6_clear 19 = .ok (.newarray .boolean, 2) := vl_at vq_cX6_clear_0 (i := 11) rfl
theorem dX6_clear_21 : decode cX6_clear 21 = .ok (.astore_n 2, 1) := vl_at vq_cX6_clear_0 (i := 12) rfl
theorem dX6_clear_22 : decode cX6_clear 22 = .ok (.iconst 0, 1) := vl_at vq_cX6_clear_0 (i := 13) rfl
theorem dX6_clear_23 : decode cX6_clear 23 = .ok (.istore_n 3, 1) := vl_at vq_cX6_clear_0 (i := 14) rfl
theorem dX6_clear_24 : decode cX6_clear 24 = .ok (.iload_n 3, 1) := vl_at vq_cX6_clear_0 (i := 15) rfl
theorem dX6_clear_25 : decode cX6_clear 25 = .ok (.aload_n 2, 1) := vl_at vq_cX6_clear_0 (i := 16) rfl
theorem dX6_clear_26 : decode cX6_clear 26 = .ok (.arraylength, 1) := vl_at vq_cX6_clear_0 (i := 17) rfl
theorem dX6_clear_27 : decode cX6_clear 27 = .ok (.if_icmp .ge 13, 3) := vl_at vq_cX6_clear_0 (i := 18) rfl
theorem dX6_clear_30 : decode cX6_clear 30 = .ok (.aload_n 2, 1) := vl_at vq_cX6_clear_0 (i := 19) rfl
theorem dX6_clear_31 : decode cX6_clear 31 = .ok (.iload_n 3, 1) := vl_at vq_cX6_clear_0 (i := 20) rfl
theorem dX6_clear_32 : decode cX6_clear 32 = .ok (.iconst 1, 1) := vl_at vq_cX6_clear_0 (i := 21) rfl
theorem dX6_clear_33 : decode cX6_clear 33 = .ok (.bastore, 1) := vl_at vq_cX6_clear_0 (i := 22) rfl
theorem dX6_clear_34 : decode cX6_clear 34 = .ok (.iinc 3 1, 3) := vl_at vq_cX6_clear_0 (i := 23) rfl
theorem dX6_clear_37 : decode cX6_clear 37 = .ok (.goto (-13), 3) := vl_at vq_cX6_clear_0 (i := 24) rfl
theorem dX6_clear_40 : decode cX6_clear 40 = .ok (.aload_n 0, 1) := vl_at vq_cX6_clear_0 (i := 25) rfl
theorem dX6_clear_41 : decode cX6_clear 41 = .ok (.iload_n 1, 1) := vl_at vq_cX6_clear_0 (i := 26) rfl
theorem dX6_clear_42 : decode cX6_clear 42 = .ok (.aload_n 2, 1) := vl_at vq_cX6_clear_0 (i := 27) rfl
theorem dX6_clear_43 : decode cX6_clear 43 = .ok (.invokevirtual 167, 3) := vl_at vq_cX6_clear_0 (i := 28) rfl
theorem dX6_clear_46 : decode cX6_clear 46 = .ok (.ireturn, 1) := vl_at vq_cX6_clear_0 (i := 29) rfl
noncomputable def vl_cX6_purge_0 : List (Nat × Instr × Nat) := [(0, .aload_n 0, 1), (1, .iconst 0, 1), (2, .putfield 37, 3), (5, .aload_n 0, 1), (6, .iconst 1, 1), (7, .invokevirtual 91, 3), (10, .newarray .boolean, 2), (12, .astore_n 2, 1), (13, .iconst 0, 1), (14, .istore_n 3, 1), (15, .iload_n 3, 1), (16, .aload_n 2, 1), (17, .arraylength, 1), (18, .if_icmp .ge 45, 3), (21, .aload_n 2, 1), (22, .iload_n 3, 1), (23, .aload_n 0, 1), (24, .iconst 0, 1), (25, .aload_n 0, 1), (26, .iconst 1, 1), (27, .iload_n 3, 1), (28, .invokevirtual 131, 3), (31, .invokestatic 154, 3), (34, .iconst 0, 1), (35, .invokevirtual 160, 3), (38, .iconst (-1), 1), (39, .if_icmp .ne 7, 3), (42, .iconst 1, 1), (43, .goto 4, 3), (46, .iconst 0, 1), (47, .iload_n 1, 1), (48, .if_icmp .ne 7, 3), (51, .iconst 1, 1), (52, .goto 4, 3), (55, .iconst 0, 1), (56, .bastore, 1), (57, .iinc 3 1, 3), (60, .goto (-45), 3), (63, .aload_n 0, 1), (64, .iconst 1, 1)]
theorem vq_cX6_purge_0 : vl_ok cX6_purge vl_cX6_purge_0 = true := by decide +kernel
theorem dX6_purge_0 : decode cX6_purge 0 = .ok (.aload_n 0, 1) := vl_at vq_cX6_purge_0 (i := 0) rfl
theorem dX6_purge_1 : decode cX6_purge 1 = .ok (.iconst 0, 1) := vl_at vq_cX6_purge_0 (i := 1) rfl
theorem dX6_purge_2 : decode cX6_purge 2 = .ok (.putfield 37, 3) := vl_at vq_cX6_purge_0 (i := 2) rfl
theorem dX6_purge_5 : decode cX6_purge 5 = .ok (.aload_n 0, 1) := vl_at vq_cX6_purge_0 (i := 3) rfl
theorem dX6_purge_6 : decode cX6_purge 6 = .ok (.iconst 1, 1) := vl_at vq_cX6_purge_0 (i := 4) rfl
theorem dX6_purge_7 : decode cX6_purge 7 = .ok (.invokevirtual 91, 3) := vl_at vq_cX6_purge_0 (i := 5) rfl
theorem dX6_purge_10 : decode cX6_purge 10 = .ok (.newarray .boolean, 2) := vl_at vq_cX6_purge_0 (i := 6) rfl
theorem dX6_purge_12 : decode cX6_purge 12 = .ok (.astore_n 2, 1) := vl_at vq_cX6_purge_0 (i := 7) rfl
theorem dX6_purge_13 : decode cX6_purge 13 = .ok (.iconst 0, 1) := vl_at vq_cX6_purge_0 (i := 8) rfl
theorem dX6_purge_14 : decode cX6_purge 14 = .ok (.istore_n 3, 1) := vl_at vq_cX6_purge_0 (i := 9) rfl
theorem dX6_purge_15 : decode cX6_purge 15 = .ok (.iload_n 3, 1) := vl_at vq_cX6_purge_0 (i := 10) rfl
theorem dX6_purge_16 : decode cX6_purge 16 = .ok (.aload_n 2, 1) := vl_at vq_cX6_purge_0 (i := 11) rfl
theorem dX6_purge_17 : decode cX6_purge 17 = .ok (.arraylength, 1) := vl_at vq_cX6_purge_0 (i := 12) rfl
theorem dX6_purge_18 : decode cX6_purge 18 = .ok (.if_icmp .ge 45, 3) := vl_at vq_cX6_purge_0 (i := 13) rfl
theorem dX6_purge_21 : decode cX6_purge 21 = .ok (.aload_n 2, 1) := vl_at vq_cX6_purge_0 (i := 14) rfl
theorem dX6_purge_22 : decode cX6_purge 22 = .ok (.iload_n 3, 1) := vl_at vq_cX6_purge_0 (i := 15) rfl
theorem dX6_purge_23 : decode cX6_purge 23 = .ok (.aload_n 0, 1) := vl_at vq_cX6_purge_0 (i := 16) rfl
theorem dX6_purge_24 : decode cX6_purge 24 = .ok (.iconst 0, 1) := vl_at vq_cX6_purge_0 (i := 17) rfl
theorem dX6_purge_25 : decode cX6_purge 25 = .ok (.aload_n 0, 1) := vl_at vq_cX6_purge_0 (i := 18) rfl
theorem dX6_purge_26 : decode cX6_purge 26 = .ok (.iconst 1, 1) := vl_at vq_cX6_purge_0 (i := 19) rfl
theorem dX6_purge_27 : decode cX6_purge 27 = .ok (.iload_n 3, 1) := vl_at vq_cX6_purge_0 (i := 20) rfl
theorem dX6_purge_28 : decode cX6_purge 28 = .ok (.invokevirtual 131, 3) := vl_at vq_cX6_purge_0 (i := 21) rfl
theorem dX6_purge_31 : decode cX6_purge 31 = .ok (.invokestatic 154, 3) := vl_at vq_cX6_purge_0 (i := 22) rfl
theorem dX6_purge_34 : decode cX6_purge 34 = .ok (.iconst 0, 1) := vl_at vq_cX6_purge_0 (i := 23) rfl
theorem dX6_purge_35 : decode cX6_purge 35 = .ok (.invokevirtual 160, 3) := vl_at vq_cX6_purge_0 (i := 24) rfl
theorem dX6_purge_38 : decode cX6_purge 38 = .ok (.iconst (-1), 1) := vl_at vq_cX6_purge_0 (i := 25) rfl
theorem dX6_purge_39 : decode cX6_purge 39 = .ok (.if_icmp .ne 7, 3) := vl_at vq_cX6_purge_0 (i := 26) rfl
theorem dX6_purge_42 : decode cX6_purge 42 = .ok (.iconst 1, 1) := vl_at vq_cX6_purge_0 (i := 27) rfl
theorem dX6_purge_43 : decode cX6_purge 43 = .ok (.goto 4, 3) := vl_at vq_cX6_purge_0 (i := 28) rfl
theorem dX6_purge_46 : decode cX6_purge 46 = .ok (.iconst 0, 1) := vl_at vq_cX6_purge_0 (i := 29) rfl
theorem dX6_purge_47 : decode cX6_purge 47 = .ok (.iload_n 1, 1) := vl_at vq_cX6_purge_0 (i := 30) rfl
theorem dX6_purge_48 : decode cX6_purge 48 = .ok (.if_icmp .ne 7, 3) := vl_at vq_cX6_purge_0 (i := 31) rfl
theorem dX6_purge_51 : decode cX6_purge 51 = .ok (.iconst 1, 1) := vl_at vq_cX6_purge_0 (i := 32) rfl
theorem dX6_purge_52 : decode cX6_purge 52 = .ok (.goto 4, 3) := vl_at vq_cX6_purge_0 (i := 33) rfl
theorem dX6_purge_55 : decode cX6_purge 55 = .ok (.iconst 0, 1) := vl_at vq_cX6_purge_0 (i := 34) rfl
theorem dX6_purge_56 : decode cX6_purge 56 = .ok (.bastore, 1) := vl_at vq_cX6_purge_0 (i := 35) rfl
theorem dX6_purge_57 : decode cX6_purge 57 = .ok (.iinc 3 1, 3) := vl_at vq_cX6_purge_0 (i := 36) rfl
theorem dX6_purge_60 : decode cX6_purge 60 = .ok (.goto (-45), 3) := vl_at vq_cX6_purge_0 (i := 37) rfl
theorem dX6_purge_63 : decode cX6_purge 63 = .ok (.aload_n 0, 1) := vl_at vq_cX6_purge_0 (i := 38) rfl
theorem dX6_purge_64 : decode cX6_purge 64 = .ok (.iconst 1, 1) := vl_at vq_cX6_purge_0 (i := 39) rfl
noncomputable def vl_cX6_purge_1 : List (Nat × Instr × Nat) := [(65, .aload_n 2, 1), (66, .invokevirtual 167, 3), (69, .ireturn, 1)]
theorem vq_cX6_purge_1 : vl_ok cX6_purge vl_cX6_purge_1 = true := by decide +kernel
theorem dX6_purge_65 : decode cX6_purge 65 = .ok (.aload_n 2, 1) := vl_at vq_cX6_purge_1 (i := 0) rfl
theorem dX6_purge_66 : decode cX6_purge 66 = .ok (.invokevirtual 167, 3) := vl_at vq_cX6_purge_1 (i := 1) rfl
theorem dX6_purge_69 : decode cX6_purge 69 = .ok (.ireturn, 1) := vl_at vq_cX6_purge_1 (i := 2) rfl
noncomputable def vl_cX6_walk_0 : List (Nat × Instr × Nat) := [(0, .aload_n 0, 1), (1, .iconst 0, 1), (2, .putfield 37, 3), (5, .aload_n 0, 1), (6, .iload_n 1, 1), (7, .ifCond .eq 7, 3), (10, .iconst 2, 1), (11, .goto 4, 3), (14, .iconst 1, 1), (15, .putfield 61, 3), (18, .aload_n 0, 1), (19, .iload_n 1, 1), (20, .ifCond .eq 13, 3), (23, .aload_n 0, 1), (24, .iconst 0, 1), (25, .invokevirtual 91, 3), (28, .iconst 1, 1), (29, .isub, 1), (30, .goto 4, 3), (33, .iconst 0, 1), (34, .putfield 64, 3), (37, .aload_n 0, 1), (38, .iconst (-1), 1), (39, .putfield 29, 3), (42, .aload_n 0, 1), (43, .iconst 0, 1), (44, .invokevirtual 91, 3), (47, .ireturn, 1)]
theorem vq_cX6_walk_0 : vl_ok cX6_walk vl_cX6_walk_0 = true := by decide +kernel
theorem dX6_walk_0 : decode cX6_walk 0 = .ok (.aload_n 0, 1) := vl_at vq_cX6_walk_0 (i := 0) rfl
theorem dX6_walk_1 : decode cX6_walk 1 = .ok (.iconst 0, 1) := vl_at vq_cX6_walk_0 (i := 1) rfl
theorem dX6_walk_2 : decode cX6_walk 2 = .ok (.putfield 37, 3) := vl_at vq_cX6_walk_0 (i := 2) rfl
theorem dX6_walk_5 : decode cX6_walk 5 = .ok (.aload_n 0, 1) := vl_at vq_cX6_walk_0 (i := 3) rfl
theorem dX6_walk_6 : decode cX6_walk 6 = .ok (.iload_n 1, 1) := vl_at vq_cX6_walk_0 (i := 4) rfl
theorem dX6_walk_7 : decode cX6_walk 7 = .ok (.ifCond .eq 7, 3) := vl_at vq_cX6_walk_0 (i := 5) rfl
theorem dX6_walk_10 : decode cX6_walk 10 = .ok (.iconst 2, 1) := vl_at vq_cX6_walk_0 (i := 6) rfl
theorem dX6_walk_11 : decode cX6_walk 11 = .ok (.goto 4, 3) := vl_at vq_cX6_walk_0 (i := 7) rfl
theorem dX6_walk_14 : decode cX6_walk 14 = .ok (.iconst 1, 1) := vl_at vq_cX6_walk_0 (i := 8) rfl
theorem dX6_walk_15 : decode cX6_walk 15 = .ok (.putfield 61, 3) := vl_at vq_cX6_walk_0 (i := 9) rfl
theorem dX6_walk_18 : decode cX6_walk 18 = .ok (.aload_n 0, 1) := vl_at vq_cX6_walk_0 (i := 10) rfl
theorem dX6_walk_19 : decode cX6_walk 19 = .ok (.iload_n 1, 1) := vl_at vq_cX6_walk_0 (i := 11) rfl
theorem dX6_walk_20 : decode cX6_walk 20 = .ok (.ifCond .eq 13, 3) := vl_at vq_cX6_walk_0 (i := 12) rfl
theorem dX6_walk_23 : decode cX6_walk 23 = .ok (.aload_n 0, 1) := vl_at vq_cX6_walk_0 (i := 13) rfl
theorem dX6_walk_24 : decode cX6_walk 24 = .ok (.iconst 0, 1) := vl_at vq_cX6_walk_0 (i := 14) rfl
theorem dX6_walk_25 : decode cX6_walk 25 = .ok (.invokevirtual 91, 3) := vl_at vq_cX6_walk_0 (i := 15) rfl
theorem dX6_walk_28 : decode cX6_walk 28 = .ok (.iconst 1, 1) := vl_at vq_cX6_walk_0 (i := 16) rfl
theorem dX6_walk_29 : decode cX6_walk 29 = .ok (.isub, 1) := vl_at vq_cX6_walk_0 (i := 17) rfl
theorem dX6_walk_30 : decode cX6_walk 30 = .ok (.goto 4, 3) := vl_at vq_cX6_walk_0 (i := 18) rfl
theorem dX6_walk_33 : decode cX6_walk 33 = .ok (.iconst 0, 1) := vl_at vq_cX6_walk_0 (i := 19) rfl
theorem dX6_walk_34 : decode cX6_walk 34 = .ok (.putfield 64, 3) := vl_at vq_cX6_walk_0 (i := 20) rfl
theorem dX6_walk_37 : decode cX6_walk 37 = .ok (.aload_n 0, 1) := vl_at vq_cX6_walk_0 (i := 21) rfl
theorem dX6_walk_38 : decode cX6_walk 38 = .ok (.iconst (-1), 1) := vl_at vq_cX6_walk_0 (i := 22) rfl
theorem dX6_walk_39 : decode cX6_walk 39 = .ok (.putfield 29, 3) := vl_at vq_cX6_walk_0 (i := 23) rfl
theorem dX6_walk_42 : decode cX6_walk 42 = .ok (.aload_n 0, 1) := vl_at vq_cX6_walk_0 (i := 24) rfl
theorem dX6_walk_43 : decode cX6_walk 43 = .ok (.iconst 0, 1) := vl_at vq_cX6_walk_0 (i := 25) rfl
theorem dX6_walk_44 : decode cX6_walk 44 = .ok (.invokevirtual 91, 3) := vl_at vq_cX6_walk_0 (i := 26) rfl
theorem dX6_walk_47 : decode cX6_walk 47 = .ok (.ireturn, 1) := vl_at vq_cX6_walk_0 (i := 27) rfl
noncomputable def vl_cX6_hasNext_0 : List (Nat × Instr × Nat) := [(0, .aload_n 0, 1), (1, .getfield 61, 3), (4, .ifCond .eq 25, 3), (7, .aload_n 0, 1), (8, .getfield 64, 3), (11, .iconst 0, 1), (12, .aload_n 0, 1), (13, .iconst 0, 1), (14, .invokevirtual 91, 3), (17, .iconst 1, 1), (18, .isub, 1), (19, .invokestatic 44, 3), (22, .ifCond .eq 7, 3), (25, .iconst 1, 1), (26, .goto 4, 3), (29, .iconst 0, 1), (30, .ireturn, 1)]
theorem vq_cX6_hasNext_0 : vl_ok cX6_hasNext vl_cX6_hasNext_0 = true := by decide +kernel
theorem dX6_hasNext_0 : decode cX6_hasNext 0 = .ok (.aload_n 0, 1) := vl_at vq_cX6_hasNext_0 (i := 0) rfl
theorem dX6_hasNext_1 : decode cX6_hasNext 1 = .ok (.getfield 61, 3) := vl_at vq_cX6_hasNext_0 (i := 1) rfl
theorem dX6_hasNext_4 : decode cX6_hasNext 4 = .ok (.ifCond .eq 25, 3) := vl_at vq_cX6_hasNext_0 (i := 2) rfl
theorem dX6_hasNext_7 : decode cX6_hasNext 7 = .ok (.aload_n 0, 1) := vl_at vq_cX6_hasNext_0 (i := 3) rfl
theorem dX6_hasNext_8 : decode cX6_hasNext 8 = .ok (.getfield 64, 3) := vl_at vq_cX6_hasNext_0 (i := 4) rfl
theorem dX6_hasNext_11 : decode cX6_hasNext 11 = .ok (.iconst 0, 1) := vl_at vq_cX6_hasNext_0 (i := 5) rfl
theorem dX6_hasNext_12 : decode cX6_hasNext 12 = .ok (.aload_n 0, 1) := vl_at vq_cX6_hasNext_0 (i := 6) rfl
theorem dX6_hasNext_13 : decode cX6_hasNext 13 = .ok (.iconst 0, 1) := vl_at vq_cX6_hasNext_0 (i := 7) rfl
theorem dX6_hasNext_14 : decode cX6_hasNext 14 = .ok (.invokevirtual 91, 3) := vl_at vq_cX6_hasNext_0 (i := 8) rfl
theorem dX6_hasNext_17 : decode cX6_hasNext 17 = .ok (.iconst 1, 1) := vl_at vq_cX6_hasNext_0 (i := 9) rfl
theorem dX6_hasNext_18 : decode cX6_hasNext 18 = .ok (.isub, 1) := vl_at vq_cX6_hasNext_0 (i := 10) rfl
theorem dX6_hasNext_19 : decode cX6_hasNext 19 = .ok (.invokestatic 44, 3) := vl_at vq_cX6_hasNext_0 (i := 11) rfl
theorem dX6_hasNext_22 : decode cX6_hasNext 22 = .ok (.ifCond .eq 7, 3) := vl_at vq_cX6_hasNext_0 (i := 12) rfl
theorem dX6_hasNext_25 : decode cX6_hasNext 25 = .ok (.iconst 1, 1) := vl_at vq_cX6_hasNext_0 (i := 13) rfl
theorem dX6_hasNext_26 : decode cX6_hasNext 26 = .ok (.goto 4, 3) := vl_at vq_cX6_hasNext_0 (i := 14) rfl
theorem dX6_hasNext_29 : decode cX6_hasNext 29 = .ok (.iconst 0, 1) := vl_at vq_cX6_hasNext_0 (i := 15) rfl
theorem dX6_hasNext_30 : decode cX6_hasNext 30 = .ok (.ireturn, 1) := vl_at vq_cX6_hasNext_0 (i := 16) rfl
noncomputable def vl_cX6_step_0 : List (Nat × Instr × Nat) := [(0, .aload_n 0, 1), (1, .aload_n 0, 1), (2, .getfield 61, 3), (5, .ifCond .ne 7, 3), (8, .iconst 1, 1), (9, .goto 4, 3), (12, .iconst 0, 1), (13, .iconst 1, 1), (14, .invokevirtual 110, 3), (17, .ifCond .eq 5, 3), (20, .iconst 0, 1), (21, .ireturn, 1), (22, .aload_n 0, 1), (23, .invokevirtual 174, 3), (26, .ifCond .ne 6, 3), (29, .bipush (-9), 2), (31, .ireturn, 1), (32, .aload_n 0, 1), (33, .aload_n 0, 1), (34, .getfield 64, 3), (37, .putfield 29, 3), (40, .aload_n 0, 1), (41, .dup, 1), (42, .getfield 64, 3), (45, .aload_n 0, 1), (46, .getfield 61, 3), (49, .iconst 1, 1), (50, .if_icmp .ne 7, 3), (53, .iconst 1, 1), (54, .goto 4, 3), (57, .iconst (-1), 1), (58, .iadd, 1), (59, .putfield 64, 3), (62, .aload_n 0, 1), (63, .iconst 0, 1), (64, .aload_n 0, 1), (65, .getfield 29, 3), (68, .invokevirtual 131, 3), (71, .ireturn, 1)]
theorem vq_cX6_step_0 : vl_ok cX6_step vl_cX6_step_0 = true := by decide +kernel
theorem dX6_step_0 : decode cX6_step 0 = .ok (.aload_n 0, 1) := vl_at vq_cX6_step_0 (i := 0) rfl
theorem dX6_step_1 : decode cX6_step 1 = .ok (.aload_n 0, 1) := vl_at vq_cX6_step_0 (i := 1) rfl
theorem dX6_step_2 : decode cX6_step 2 = .ok (.getfield 61, 3) := vl_at vq_cX6_step_0 (i := 2) rfl
theorem dX6_step_5 : decode cX6_step 5 = .ok (.ifCond .ne 7, 3) := vl_at vq_cX6_step_0 (i := 3) rfl
theorem dX6_step_8 : decode cX6_step 8 = .ok (.iconst 1, 1) := vl_at vq_cX6_step_0 (i := 4) rfl
theorem dX6_step_9 : decode cX6_step 9 = .ok (.goto 4, 3) := vl_at vq_cX6_step_0 (i := 5) rfl
theorem dX6_step_12 : decode cX6_step 12 = .ok (.iconst 0, 1) := vl_at vq_cX6_step_0 (i := 6) rfl
theorem dX6_step_13 : decode cX6_step 13 = .ok (.iconst 1, 1) := vl_at vq_cX6_step_0 (i := 7) rfl
theorem dX6_step_14 : decode cX6_step 14 = .ok (.invokevirtual 110, 3) := vl_at vq_cX6_step_0 (i := 8) rfl
theorem dX6_step_17 : decode cX6_step 17 = .ok (.ifCond .eq 5, 3) := vl_at vq_cX6_step_0 (i := 9) rfl
theorem dX6_step_20 : decode cX6_step 20 = .ok (.iconst 0, 1) := vl_at vq_cX6_step_0 (i := 10) rfl
theorem dX6_step_21 : decode cX6_step 21 = .ok (.ireturn, 1) := vl_at vq_cX6_step_0 (i := 11) rfl
theorem dX6_step_22 : decode cX6_step 22 = .ok (.aload_n 0, 1) := vl_at vq_cX6_step_0 (i := 12) rfl
theorem dX6_step_23 : decode cX6_step 23 = .ok (.invokevirtual 174, 3) := vl_at vq_cX6_step_0 (i := 13) rfl
theorem dX6_step_26 : decode cX6_step 26 = .ok (.ifCond .ne 6, 3) := vl_at vq_cX6_step_0 (i := 14) rfl
theorem dX6_step_29 : decode cX6_step 29 = .ok (.bipush (-9), 2) := vl_at vq_cX6_step_0 (i := 15) rfl
theorem dX6_step_31 : decode cX6_step 31 = .ok (.ireturn, 1) := vl_at vq_cX6_step_0 (i := 16) rfl
theorem dX6_step_32 : decode cX6_step 32 = .ok (.aload_n 0, 1) := vl_at vq_cX6_step_0 (i := 17) rfl
theorem dX6_step_33 : decode cX6_step 33 = .ok (.aload_n 0, 1) := vl_at vq_cX6_step_0 (i := 18) rfl
theorem dX6_step_34 : decode cX6_step 34 = .ok (.getfield 64, 3) := vl_at vq_cX6_step_0 (i := 19) rfl
theorem dX6_step_37 : decode cX6_step 37 = .ok (.putfield 29, 3) := vl_at vq_cX6_step_0 (i := 20) rfl
theorem dX6_step_40 : decode cX6_step 40 = .ok (.aload_n 0, 1) := vl_at vq_cX6_step_0 (i := 21) rfl
theorem dX6_step_41 : decode cX6_step 41 = .ok (.dup, 1) := vl_at vq_cX6_step_0 (i := 22) rfl
theorem dX6_step_42 : decode cX6_step 42 = .ok (.getfield 64, 3) := vl_at vq_cX6_step_0 (i := 23) rfl
theorem dX6_step_45 : decode cX6_step 45 = .ok (.aload_n 0, 1) := vl_at vq_cX6_step_0 (i := 24) rfl
theorem dX6_step_46 : decode cX6_step 46 = .ok (.getfield 61, 3) := vl_at vq_cX6_step_0 (i := 25) rfl
theorem dX6_step_49 : decode cX6_step 49 = .ok (.iconst 1, 1) := vl_at vq_cX6_step_0 (i := 26) rfl
theorem dX6_step_50 : decode cX6_step 50 = .ok (.if_icmp .ne 7, 3) := vl_at vq_cX6_step_0 (i := 27) rfl
theorem dX6_step_53 : decode cX6_step 53 = .ok (.iconst 1, 1) := vl_at vq_cX6_step_0 (i := 28) rfl
theorem dX6_step_54 : decode cX6_step 54 = .ok (.goto 4, 3) := vl_at vq_cX6_step_0 (i := 29) rfl
theorem dX6_step_57 : decode cX6_step 57 = .ok (.iconst (-1), 1) := vl_at vq_cX6_step_0 (i := 30) rfl
theorem dX6_step_58 : decode cX6_step 58 = .ok (.iadd, 1) := vl_at vq_cX6_step_0 (i := 31) rfl
theorem dX6_step_59 : decode cX6_step 59 = .ok (.putfield 64, 3) := vl_at vq_cX6_step_0 (i := 32) rfl
theorem dX6_step_62 : decode cX6_step 62 = .ok (.aload_n 0, 1) := vl_at vq_cX6_step_0 (i := 33) rfl
theorem dX6_step_63 : decode cX6_step 63 = .ok (.iconst 0, 1) := vl_at vq_cX6_step_0 (i := 34) rfl
theorem dX6_step_64 : decode cX6_step 64 = .ok (.aload_n 0, 1) := vl_at vq_cX6_step_0 (i := 35) rfl
theorem dX6_step_65 : decode cX6_step 65 = .ok (.getfield 29, 3) := vl_at vq_cX6_step_0 (i := 36) rfl
theorem dX6_step_68 : decode cX6_step 68 = .ok (.invokevirtual 131, 3) := vl_at vq_cX6_step_0 (i := 37) rfl
theorem dX6_step_71 : decode cX6_step 71 = .ok (.ireturn, 1) := vl_at vq_cX6_step_0 (i := 38) rfl
noncomputable def vl_cX6_pluck_0 : List (Nat × Instr × Nat) := [(0, .aload_n 0, 1), (1, .aload_n 0, 1), (2, .getfield 61, 3), (5, .ifCond .ne 7, 3), (8, .iconst 1, 1), (9, .goto 4, 3), (12, .iconst 0, 1), (13, .iconst 1, 1), (14, .invokevirtual 110, 3), (17, .ifCond .eq 5, 3), (20, .iconst 0, 1), (21, .ireturn, 1), (22, .aload_n 0, 1), (23, .getfield 29, 3), (26, .iconst (-1), 1), (27, .if_icmp .ne 6, 3), (30, .bipush (-9), 2), (32, .ireturn, 1), (33, .aload_n 0, 1), (34, .getfield 10, 3), (37, .iconst 0, 1), (38, .invokevirtual 48, 3), (41, .checkcast 7, 3), (44, .aload_n 0, 1), (45, .getfield 29, 3), (48, .invokevirtual 81, 3), (51, .pop, 1), (52, .aload_n 0, 1), (53, .getfield 61, 3), (56, .iconst 1, 1), (57, .if_icmp .ne 13, 3), (60, .aload_n 0, 1), (61, .dup, 1), (62, .getfield 64, 3), (65, .iconst 1, 1), (66, .isub, 1), (67, .putfield 64, 3), (70, .aload_n 0, 1), (71, .iconst (-1), 1), (72, .putfield 29, 3)]
theorem vq_cX6_pluck_0 : vl_ok cX6_pluck vl_cX6_pluck_0 = true := by decide +kernel
theorem dX6_pluck_0 : decode cX6_pluck 0 = .ok (.aload_n 0, 1) := vl_at vq_cX6_pluck_0 (i := 0) rfl
theorem dX6_pluck_1 : decode cX6_pluck 1 = .ok (.aload_n 0, 1) := vl_at vq_cX6_pluck_0 (i := 1) rfl
theorem dX6_pluck_2 : decode cX6_pluck 2 = .ok (.getfield 61, 3) := vl_at vq_cX6_pluck_0 (i := 2) rfl
theorem dX6_pluck_5 : decode cX6_pluck 5 = .ok (.ifCond .ne 7, 3) := vl_at vq_cX6_pluck_0 (i := 3) rfl
theorem dX6_pluck_8 : decode cX6_pluck 8 = .ok (.iconst 1, 1) := vl_at vq_cX6_pluck_0 (i := 4) rfl
theorem dX6_pluck_9 : decode cX6_pluck 9 = .ok (.goto 4, 3) := vl_at vq_cX6_pluck_0 (i := 5) rfl
theorem dX6_pluck_12 : decode cX6_pluck 12 = .ok (.iconst 0, 1) := vl_at vq_cX6_pluck_0 (i := 6) rfl
theorem dX6_pluck_13 : decode cX6_pluck 13 = .ok (.iconst 1, 1) := vl_at vq_cX6_pluck_0 (i := 7) rfl
theorem dX6_pluck_14 : decode cX6_pluck 14 = .ok (.invokevirtual 110, 3) := vl_at vq_cX6_pluck_0 (i := 8) rfl
theorem dX6_pluck_17 : decode cX6_pluck 17 = .ok (.ifCond .eq 5, 3) := vl_at vq_cX6_pluck_0 (i := 9) rfl
theorem dX6_pluck_20 : decode cX6_pluck 20 = .ok (.iconst 0, 1) := vl_at vq_cX6_pluck_0 (i := 10) rfl
theorem dX6_pluck_21 : decode cX6_pluck 21 = .ok (.ireturn, 1) := vl_at vq_cX6_pluck_0 (i := 11) rfl
theorem dX6_pluck_22 : decode cX6_pluck 22 = .ok (.aload_n 0, 1) := vl_at vq_cX6_pluck_0 (i := 12) rfl
theorem dX6_pluck_23 : decode cX6_pluck 23 = .ok (.getfield 29, 3) := vl_at vq_cX6_pluck_0 (i := 13) rfl
theorem dX6_pluck_26 : decode cX6_pluck 26 = .ok (.iconst (-1), 1) := vl_at vq_cX6_pluck_0 (i := 14) rfl
theorem dX6_pluck_27 : decode cX6_pluck 27 = .ok (.if_icmp .ne 6, 3) := vl_at vq_cX6_pluck_0 (i := 15) rfl
theorem dX6_pluck_30 : decode cX6_pluck 30 = .ok (.bipush (-9), 2) := vl_at vq_cX6_pluck_0 (i := 16) rfl
theorem dX6_pluck_32 : decode cX6_pluck 32 = .ok (.ireturn, 1) := vl_at vq_cX6_pluck_0 (i := 17) rfl
theorem dX6_pluck_33 : decode cX6_pluck 33 = .ok (.aload_n 0, 1) := vl_at vq_cX6_pluck_0 (i := 18) rfl
theorem dX6_pluck_34 : decode cX6_pluck 34 = .ok (.getfield 10, 3) := vl_at vq_cX6_pluck_0 (i := 19) rfl
theorem dX6_pluck_37 : decode cX6_pluck 37 = .ok (.iconst 0, 1) := vl_at vq_cX6_pluck_0 (i := 20) rfl
theorem dX6_pluck_38 : decode cX6_pluck 38 = .ok (.invokevirtual 48, 3) := vl_at vq_cX6_pluck_0 (i := 21) rfl
theorem dX6_pluck_41 : decode cX6_pluck 41 = .ok (.checkcast 7, 3) := vl_at vq_cX6_pluck_0 (i := 22) rfl
theorem dX6_pluck_44 : decode cX6_pluck 44 = .ok (.aload_n 0, 1) := vl_at vq_cX6_pluck_0 (i := 23) rfl
theorem dX6_pluck_45 : decode cX6_pluck 45 = .ok (.getfield 29, 3) := vl_at vq_cX6_pluck_0 (i := 24) rfl
theorem dX6_pluck_48 : decode cX6_pluck 48 = .ok (.invokevirtual 81, 3) := vl_at vq_cX6_pluck_0 (i := 25) rfl
theorem dX6_pluck_51 : decode cX6_pluck 51 = .ok (.pop, 1) := vl_at vq_cX6_pluck_0 (i := 26) rfl
theorem dX6_pluck_52 : decode cX6_pluck 52 = .ok (.aload_n 0, 1) := vl_at vq_cX6_pluck_0 (i := 27) rfl
theorem dX6_pluck_53 : decode cX6_pluck 53 = .ok (.getfield 61, 3) := vl_at vq_cX6_pluck_0 (i := 28) rfl
theorem dX6_pluck_56 : decode cX6_pluck 56 = .ok (.iconst 1, 1) := vl_at vq_cX6_pluck_0 (i := 29) rfl
theorem dX6_pluck_57 : decode cX6_pluck 57 = .ok (.if_icmp .ne 13, 3) := vl_at vq_cX6_pluck_0 (i := 30) rfl
theorem dX6_pluck_60 : decode cX6_pluck 60 = .ok (.aload_n 0, 1) := vl_at vq_cX6_pluck_0 (i := 31) rfl
theorem dX6_pluck_61 : decode cX6_pluck 61 = .ok (.dup, 1) := vl_at vq_cX6_pluck_0 (i := 32) rfl
theorem dX6_pluck_62 : decode cX6_pluck 62 = .ok (.getfield 64, 3) := vl_at vq_cX6_pluck_0 (i := 33) rfl
theorem dX6_pluck_65 : decode cX6_pluck 65 = .ok (.iconst 1, 1) := vl_at vq_cX6_pluck_0 (i := 34) rfl
theorem dX6_pluck_66 : decode cX6_pluck 66 = .ok (.isub, 1) := vl_at vq_cX6_pluck_0 (i := 35) rfl
theorem dX6_pluck_67 : decode cX6_pluck 67 = .ok (.putfield 64, 3) := vl_at vq_cX6_pluck_0 (i := 36) rfl
theorem dX6_pluck_70 : decode cX6_pluck 70 = .ok (.aload_n 0, 1) := vl_at vq_cX6_pluck_0 (i := 37) rfl
theorem dX6_pluck_71 : decode cX6_pluck 71 = .ok (.iconst (-1), 1) := vl_at vq_cX6_pluck_0 (i := 38) rfl
theorem dX6_pluck_72 : decode cX6_pluck 72 = .ok (.putfield 29, 3) := vl_at vq_cX6_pluck_0 (i := 39) rfl
noncomputable def vl_cX6_pluck_1 : List (Nat × Instr × Nat) := [(75, .aload_n 0, 1), (76, .invokevirtual 164, 3), (79, .aload_n 0, 1), (80, .iconst 0, 1), (81, .invokevirtual 91, 3), (84, .ireturn, 1)]
theorem vq_cX6_pluck_1 : vl_ok cX6_pluck vl_cX6_pluck_1 = true := by decide +kernel
theorem dX6_pluck_75 : decode cX6_pluck 75 = .ok (.aload_n 0, 1) := vl_at vq_cX6_pluck_1 (i := 0) rfl
theorem dX6_pluck_76 : decode cX6_pluck 76 = .ok (.invokevirtual 164, 3) := vl_at vq_cX6_pluck_1 (i := 1) rfl
theorem dX6_pluck_79 : decode cX6_pluck 79 = .ok (.aload_n 0, 1) := vl_at vq_cX6_pluck_1 (i := 2) rfl
theorem dX6_pluck_80 : decode cX6_pluck 80 = .ok (.iconst 0, 1) := vl_at vq_cX6_pluck_1 (i := 3) rfl
theorem dX6_pluck_81 : decode cX6_pluck 81 = .ok (.invokevirtual 91, 3) := vl_at vq_cX6_pluck_1 (i := 4) rfl
theorem dX6_pluck_84 : decode cX6_pluck 84 = .ok (.ireturn, 1) := vl_at vq_cX6_pluck_1 (i := 5) rfl
noncomputable def vl_cX6_insert_0 : List (Nat × Instr × Nat) := [(0, .aload_n 0, 1), (1, .iload_n 1, 1), (2, .iconst 0, 1), (3, .bipush 20, 2), (5, .invokestatic 44, 3), (8, .ifCond .ne 7, 3), (11, .iconst 1, 1), (12, .goto 4, 3), (15, .iconst 0, 1), (16, .iconst 1, 1), (17, .invokevirtual 110, 3), (20, .ifCond .ne 39, 3), (23, .aload_n 0, 1), (24, .iload_n 2, 1), (25, .iload_n 3, 1), (26, .invokestatic 113, 3), (29, .iconst 2, 1), (30, .invokevirtual 40, 3), (33, .ifCond .ne 26, 3), (36, .aload_n 0, 1), (37, .aload_n 0, 1), (38, .iconst 1, 1), (39, .invokevirtual 91, 3), (42, .bipush 20, 2), (44, .if_icmp .ne 7, 3), (47, .iconst 1, 1), (48, .goto 4, 3), (51, .iconst 0, 1), (52, .iconst 3, 1), (53, .invokevirtual 40, 3), (56, .ifCond .eq 5, 3), (59, .iconst 0, 1), (60, .ireturn, 1), (61, .iload_n 1, 1), (62, .aload_n 0, 1), (63, .iconst 1, 1), (64, .invokevirtual 91, 3), (67, .if_icmp .le 6, 3), (70, .bipush (-9), 2), (72, .ireturn, 1)]
theorem vq_cX6_insert_0 : vl_ok cX6_insert vl_cX6_insert_0 = true := by decide +kernel
theorem dX6_insert_0 : decode cX6_insert 0 = .ok (.aload_n 0, 1) := vl_at vq_cX6_insert_0 (i := 0) rfl
theorem dX6_insert_1 : decode cX6_insert 1 = .ok (.iload_n 1, 1) := vl_at vq_cX6_insert_0 (i := 1) rfl
theorem dX6_insert_2 : decode cX6_insert 2 = .ok (.iconst 0, 1) := vl_at vq_cX6_insert_0 (i := 2) rfl
theorem dX6_insert_3 : decode cX6_insert 3 = .ok (.bipush 20, 2) := vl_at vq_cX6_insert_0 (i := 3) rfl
theorem dX6_insert_5 : decode cX6_insert 5 = .ok (.invokestatic 44, 3) := vl_at vq_cX6_insert_0 (i := 4) rfl
theorem dX6_insert_8 : decode cX6_insert 8 = .ok (.ifCond .ne 7, 3) := vl_at vq_cX6_insert_0 (i := 5) rfl
theorem dX6_insert_11 : decode cX6_insert 11 = .ok (.iconst 1, 1) := vl_at vq_cX6_insert_0 (i := 6) rfl
theorem dX6_insert_12 : decode cX6_insert 12 = .ok (.goto 4, 3) := vl_at vq_cX6_insert_0 (i := 7) rfl
theorem dX6_insert_15 : decode cX6_insert 15 = .ok (.iconst 0, 1) := vl_at vq_cX6_insert_0 (i := 8) rfl
theorem dX6_insert_16 : decode cX6_insert 16 = .ok (.iconst 1, 1) := vl_at vq_cX6_insert_0 (i := 9) rfl
theorem dX6_insert_17 : decode cX6_insert 17 = .ok (.invokevirtual 110, 3) := vl_at vq_cX6_insert_0 (i := 10) rfl
theorem dX6_insert_20 : decode cX6_insert 20 = .ok (.ifCond .ne 39, 3) := vl_at vq_cX6_insert_0 (i := 11) rfl
theorem dX6_insert_23 : decode cX6_insert 23 = .ok (.aload_n 0, 1) := vl_at vq_cX6_insert_0 (i := 12) rfl
theorem dX6_insert_24 : decode cX6_insert 24 = .ok (.iload_n 2, 1) := vl_at vq_cX6_insert_0 (i := 13) rfl
theorem dX6_insert_25 : decode cX6_insert 25 = .ok (.iload_n 3, 1) := vl_at vq_cX6_insert_0 (i := 14) rfl
theorem dX6_insert_26 : decode cX6_insert 26 = .ok (.invokestatic 113, 3) := vl_at vq_cX6_insert_0 (i := 15) rfl
theorem dX6_insert_29 : decode cX6_insert 29 = .ok (.iconst 2, 1) := vl_at vq_cX6_insert_0 (i := 16) rfl
theorem dX6_insert_30 : decode cX6_insert 30 = .ok (.invokevirtual 40, 3) := vl_at vq_cX6_insert_0 (i := 17) rfl
theorem dX6_insert_33 : decode cX6_insert 33 = .ok (.ifCond .ne 26, 3) := vl_at vq_cX6_insert_0 (i := 18) rfl
theorem dX6_insert_36 : decode cX6_insert 36 = .ok (.aload_n 0, 1) := vl_at vq_cX6_insert_0 (i := 19) rfl
theorem dX6_insert_37 : decode cX6_insert 37 = .ok (.aload_n 0, 1) := vl_at vq_cX6_insert_0 (i := 20) rfl
theorem dX6_insert_38 : decode cX6_insert 38 = .ok (.iconst 1, 1) := vl_at vq_cX6_insert_0 (i := 21) rfl
theorem dX6_insert_39 : decode cX6_insert 39 = .ok (.invokevirtual 91, 3) := vl_at vq_cX6_insert_0 (i := 22) rfl
theorem dX6_insert_42 : decode cX6_insert 42 = .ok (.bipush 20, 2) := vl_at vq_cX6_insert_0 (i := 23) rfl
theorem dX6_insert_44 : decode cX6_insert 44 = .ok (.if_icmp .ne 7, 3) := vl_at vq_cX6_insert_0 (i := 24) rfl
theorem dX6_insert_47 : decode cX6_insert 47 = .ok (.iconst 1, 1) := vl_at vq_cX6_insert_0 (i := 25) rfl
theorem dX6_insert_48 : decode cX6_insert 48 = .ok (.goto 4, 3) := vl_at vq_cX6_insert_0 (i := 26) rfl
theorem dX6_insert_51 : decode cX6_insert 51 = .ok (.iconst 0, 1) := vl_at vq_cX6_insert_0 (i := 27) rfl
theorem dX6_insert_52 : decode cX6_insert 52 = .ok (.iconst 3, 1) := vl_at vq_cX6_insert_0 (i := 28) rfl
theorem dX6_insert_53 : decode cX6_insert 53 = .ok (.invokevirtual 40, 3) := vl_at vq_cX6_insert_0 (i := 29) rfl
theorem dX6_insert_56 : decode cX6_insert 56 = .ok (.ifCond .eq 5, 3) := vl_at vq_cX6_insert_0 (i := 30) rfl
theorem dX6_insert_59 : decode cX6_insert 59 = .ok (.iconst 0, 1) := vl_at vq_cX6_insert_0 (i := 31) rfl
theorem dX6_insert_60 : decode cX6_insert 60 = .ok (.ireturn, 1) := vl_at vq_cX6_insert_0 (i := 32) rfl
theorem dX6_insert_61 : decode cX6_insert 61 = .ok (.iload_n 1, 1) := vl_at vq_cX6_insert_0 (i := 33) rfl
theorem dX6_insert_62 : decode cX6_insert 62 = .ok (.aload_n 0, 1) := vl_at vq_cX6_insert_0 (i := 34) rfl
theorem dX6_insert_63 : decode cX6_insert 63 = .ok (.iconst 1, 1) := vl_at vq_cX6_insert_0 (i := 35) rfl
theorem dX6_insert_64 : decode cX6_insert 64 = .ok (.invokevirtual 91, 3) := vl_at vq_cX6_insert_0 (i := 36) rfl
theorem dX6_insert_67 : decode cX6_insert 67 = .ok (.if_icmp .le 6, 3) := vl_at vq_cX6_insert_0 (i := 37) rfl
theorem dX6_insert_70 : decode cX6_insert 70 = .ok (.bipush (-9), 2) := vl_at vq_cX6_insert_0 (i := 38) rfl
theorem dX6_insert_72 : decode cX6_insert 72 = .ok (.ireturn, 1) := vl_at vq_cX6_insert_0 (i := 39) rfl
noncomputable def vl_cX6_insert_1 : List (Nat × Instr × Nat) := [(73, .aload_n 0, 1), (74, .iconst 1, 1), (75, .iload_n 1, 1), (76, .iload_n 2, 1), (77, .iload_n 3, 1), (78, .invokestatic 121, 3), (81, .invokevirtual 94, 3), (84, .aload_n 0, 1), (85, .invokevirtual 164, 3), (88, .aload_n 0, 1), (89, .iconst 1, 1), (90, .invokevirtual 91, 3), (93, .ireturn, 1)]
theorem vq_cX6_insert_1 : vl_ok cX6_insert vl_cX6_insert_1 = true := by decide +kernel
theorem dX6_insert_73 : decode cX6_insert 73 = .ok (.aload_n 0, 1) := vl_at vq_cX6_insert_1 (i := 0) rfl
theorem dX6_insert_74 : decode cX6_insert 74 = .ok (.iconst 1, 1) := vl_at vq_cX6_insert_1 (i := 1) rfl
theorem dX6_insert_75 : decode cX6_insert 75 = .ok (.iload_n 1, 1) := vl_at vq_cX6_insert_1 (i := 2) rfl
theorem dX6_insert_76 : decode cX6_insert 76 = .ok (.iload_n 2, 1) := vl_at vq_cX6_insert_1 (i := 3) rfl
theorem dX6_insert_77 : decode cX6_insert 77 = .ok (.iload_n 3, 1) := vl_at vq_cX6_insert_1 (i := 4) rfl
theorem dX6_insert_78 : decode cX6_insert 78 = .ok (.invokestatic 121, 3) := vl_at vq_cX6_insert_1 (i := 5) rfl
theorem dX6_insert_81 : decode cX6_insert 81 = .ok (.invokevirtual 94, 3) := vl_at vq_cX6_insert_1 (i := 6) rfl
theorem dX6_insert_84 : decode cX6_insert 84 = .ok (.aload_n 0, 1) := vl_at vq_cX6_insert_1 (i := 7) rfl
theorem dX6_insert_85 : decode cX6_insert 85 = .ok (.invokevirtual 164, 3) := vl_at vq_cX6_insert_1 (i := 8) rfl
theorem dX6_insert_88 : decode cX6_insert 88 = .ok (.aload_n 0, 1) := vl_at vq_cX6_insert_1 (i := 9) rfl
theorem dX6_insert_89 : decode cX6_insert 89 = .ok (.iconst 1, 1) := vl_at vq_cX6_insert_1 (i := 10) rfl
theorem dX6_insert_90 : decode cX6_insert 90 = .ok (.invokevirtual 91, 3) := vl_at vq_cX6_insert_1 (i := 11) rfl
theorem dX6_insert_93 : decode cX6_insert 93 = .ok (.ireturn, 1) := vl_at vq_cX6_insert_1 (i := 12) rfl
noncomputable def vl_cX6_isNoPlace_0 : List (Nat × Instr × Nat) := [(0, .iload_n 1, 1), (1, .iconst 0, 1), (2, .bipush 19, 2), (4, .invokestatic 44, 3), (7, .ifCond .ne 7, 3), (10, .iconst 1, 1), (11, .goto 4, 3), (14, .iconst 0, 1), (15, .ireturn, 1)]
theorem vq_cX6_isNoPlace_0 : vl_ok cX6_isNoPlace vl_cX6_isNoPlace_0 = true := by decide +kernel
theorem dX6_isNoPlace_0 : decode cX6_isNoPlace 0 = .ok (.iload_n 1, 1) := vl_at vq_cX6_isNoPlace_0 (i := 0) rfl
theorem dX6_isNoPlace_1 : decode cX6_isNoPlace 1 = .ok (.iconst 0, 1) := vl_at vq_cX6_isNoPlace_0 (i := 1) rfl
theorem dX6_isNoPlace_2 : decode cX6_isNoPlace 2 = .ok (.bipush 19, 2) := vl_at vq_cX6_isNoPlace_0 (i := 2) rfl
theorem dX6_isNoPlace_4 : decode cX6_isNoPlace 4 = .ok (.invokestatic 44, 3) := vl_at vq_cX6_isNoPlace_0 (i := 3) rfl
theorem dX6_isNoPlace_7 : decode cX6_isNoPlace 7 = .ok (.ifCond .ne 7, 3) := vl_at vq_cX6_isNoPlace_0 (i := 4) rfl
theorem dX6_isNoPlace_10 : decode cX6_isNoPlace 10 = .ok (.iconst 1, 1) := vl_at vq_cX6_isNoPlace_0 (i := 5) rfl
theorem dX6_isNoPlace_11 : decode cX6_isNoPlace 11 = .ok (.goto 4, 3) := vl_at vq_cX6_isNoPlace_0 (i := 6) rfl
theorem dX6_isNoPlace_14 : decode cX6_isNoPlace 14 = .ok (.iconst 0, 1) := vl_at vq_cX6_isNoPlace_0 (i := 7) rfl
theorem dX6_isNoPlace_15 : decode cX6_isNoPlace 15 = .ok (.ireturn, 1) := vl_at vq_cX6_isNoPlace_0 (i := 8) rfl
noncomputable def vl_cX6_cut_0 : List (Nat × Instr × Nat) := [(0, .aload_n 0, 1), (1, .aload_n 0, 1), (2, .iload_n 1, 1), (3, .invokevirtual 177, 3), (6, .iconst 1, 1), (7, .invokevirtual 110, 3), (10, .ifCond .eq 5, 3), (13, .iconst 0, 1), (14, .ireturn, 1), (15, .iload_n 1, 1), (16, .aload_n 0, 1), (17, .iconst 1, 1), (18, .invokevirtual 91, 3), (21, .if_icmp .lt 6, 3), (24, .bipush (-9), 2), (26, .ireturn, 1), (27, .aload_n 0, 1), (28, .invokevirtual 164, 3), (31, .aload_n 0, 1), (32, .iconst 1, 1), (33, .iload_n 1, 1), (34, .invokevirtual 102, 3), (37, .ireturn, 1)]
theorem vq_cX6_cut_0 : vl_ok cX6_cut vl_cX6_cut_0 = true := by decide +kernel
theorem dX6_cut_0 : decode cX6_cut 0 = .ok (.aload_n 0, 1) := vl_at vq_cX6_cut_0 (i := 0) rfl
theorem dX6_cut_1 : decode cX6_cut 1 = .ok (.aload_n 0, 1) := vl_at vq_cX6_cut_0 (i := 1) rfl
theorem dX6_cut_2 : decode cX6_cut 2 = .ok (.iload_n 1, 1) := vl_at vq_cX6_cut_0 (i := 2) rfl
theorem dX6_cut_3 : decode cX6_cut 3 = .ok (.invokevirtual 177, 3) := vl_at vq_cX6_cut_0 (i := 3) rfl
theorem dX6_cut_6 : decode cX6_cut 6 = .ok (.iconst 1, 1) := vl_at vq_cX6_cut_0 (i := 4) rfl
theorem dX6_cut_7 : decode cX6_cut 7 = .ok (.invokevirtual 110, 3) := vl_at vq_cX6_cut_0 (i := 5) rfl
theorem dX6_cut_10 : decode cX6_cut 10 = .ok (.ifCond .eq 5, 3) := vl_at vq_cX6_cut_0 (i := 6) rfl
theorem dX6_cut_13 : decode cX6_cut 13 = .ok (.iconst 0, 1) := vl_at vq_cX6_cut_0 (i := 7) rfl
theorem dX6_cut_14 : decode cX6_cut 14 = .ok (.ireturn, 1) := vl_at vq_cX6_cut_0 (i := 8) rfl
theorem dX6_cut_15 : decode cX6_cut 15 = .ok (.iload_n 1, 1) := vl_at vq_cX6_cut_0 (i := 9) rfl
theorem dX6_cut_16 : decode cX6_cut 16 = .ok (.aload_n 0, 1) := vl_at vq_cX6_cut_0 (i := 10) rfl
theorem dX6_cut_17 : decode cX6_cut 17 = .ok (.iconst 1, 1) := vl_at vq_cX6_cut_0 (i := 11) rfl
theorem dX6_cut_18 : decode cX6_cut 18 = .ok (.invokevirtual 91, 3) := vl_at vq_cX6_cut_0 (i := 12) rfl
theorem dX6_cut_21 : decode cX6_cut 21 = .ok (.if_icmp .lt 6, 3) := vl_at vq_cX6_cut_0 (i := 13) rfl
theorem dX6_cut_24 : decode cX6_cut 24 = .ok (.bipush (-9), 2) := vl_at vq_cX6_cut_0 (i := 14) rfl
theorem dX6_cut_26 : decode cX6_cut 26 = .ok (.ireturn, 1) := vl_at vq_cX6_cut_0 (i := 15) rfl
theorem dX6_cut_27 : decode cX6_cut 27 = .ok (.aload_n 0, 1) := vl_at vq_cX6_cut_0 (i := 16) rfl
theorem dX6_cut_28 : decode cX6_cut 28 = .ok (.invokevirtual 164, 3) := vl_at vq_cX6_cut_0 (i := 17) rfl
theorem dX6_cut_31 : decode cX6_cut 31 = .ok (.aload_n 0, 1) := vl_at vq_cX6_cut_0 (i := 18) rfl
theorem dX6_cut_32 : decode cX6_cut 32 = .ok (.iconst 1, 1) := vl_at vq_cX6_cut_0 (i := 19) rfl
theorem dX6_cut_33 : decode cX6_cut 33 = .ok (.iload_n 1, 1) := vl_at vq_cX6_cut_0 (i := 20) rfl
theorem dX6_cut_34 : decode cX6_cut 34 = .ok (.invokevirtual 102, 3) := vl_at vq_cX6_cut_0 (i := 21) rfl
theorem dX6_cut_37 : decode cX6_cut 37 = .ok (.ireturn, 1) := vl_at vq_cX6_cut_0 (i := 22) rfl
noncomputable def vl_cX6_replace_0 : List (Nat × Instr × Nat) := [(0, .aload_n 0, 1), (1, .aload_n 0, 1), (2, .iload_n 1, 1), (3, .invokevirtual 177, 3), (6, .iconst 1, 1), (7, .invokevirtual 110, 3), (10, .ifCond .ne 16, 3), (13, .aload_n 0, 1), (14, .iload_n 2, 1), (15, .iload_n 3, 1), (16, .invokestatic 113, 3), (19, .iconst 2, 1), (20, .invokevirtual 40, 3), (23, .ifCond .eq 5, 3), (26, .iconst 0, 1), (27, .ireturn, 1), (28, .iload_n 1, 1), (29, .aload_n 0, 1), (30, .iconst 1, 1), (31, .invokevirtual 91, 3), (34, .if_icmp .lt 6, 3), (37, .bipush (-9), 2), (39, .ireturn, 1), (40, .aload_n 0, 1), (41, .invokevirtual 164, 3), (44, .aload_n 0, 1), (45, .getfield 10, 3), (48, .iconst 1, 1), (49, .invokevirtual 48, 3), (52, .checkcast 7, 3), (55, .iload_n 1, 1), (56, .iload_n 2, 1), (57, .iload_n 3, 1), (58, .invokestatic 121, 3), (61, .invokestatic 70, 3), (64, .invokevirtual 180, 3), (67, .checkcast 56, 3), (70, .invokevirtual 58, 3), (73, .ireturn, 1)]
theorem vq_cX6_replace_0 : vl_ok cX6_replace vl_cX6_replace_0 = true := by decide +kernel
theorem dX6_replace_0 : decode cX6_replace 0 = .ok (.aload_n 0, 1) := vl_at vq_cX6_replace_0 (i := 0) rfl
theorem dX6_replace_1 : decode cX6_replace 1 = .ok (.aload_n 0, 1) := vl_at vq_cX6_replace_0 (i := 1) rfl
theorem dX6_replace_2 : decode cX6_replace 2 = .ok (.iload_n 1, 1) := vl_at vq_cX6_replace_0 (i := 2) rfl
theorem dX6_replace_3 : decode cX6_replace 3 = .ok (.invokevirtual 177, 3) := vl_at vq_cX6_replace_0 (i := 3) rfl
theorem dX6_replace_6 : decode cX6_replace 6 = .ok (.iconst 1, 1) := vl_at vq_cX6_replace_0 (i := 4) rfl
theorem dX6_replace_7 : decode cX6_replace 7 = .ok (.invokevirtual 110, 3) := vl_at vq_cX6_replace_0 (i := 5) rfl
theorem dX6_replace_10 : decode cX6_replace 10 = .ok (.ifCond .ne 16, 3) := vl_at vq_cX6_replace_0 (i := 6) rfl
theorem dX6_replace_13 : decode cX6_replace 13 = .ok (.aload_n 0, 1) := vl_at vq_cX6_replace_0 (i := 7) rfl
theorem dX6_replace_14 : decode cX6_replace 14 = .ok (.iload_n 2, 1) := vl_at vq_cX6_replace_0 (i := 8) rfl
theorem dX6_replace_15 : decode cX6_replace 15 = .ok (.iload_n 3, 1) := vl_at vq_cX6_replace_0 (i := 9) rfl
theorem dX6_replace_16 : decode cX6_replace 16 = .ok (.invokestatic 113, 3) := vl_at vq_cX6_replace_0 (i := 10) rfl
theorem dX6_replace_19 : decode cX6_replace 19 = .ok (.iconst 2, 1) := vl_at vq_cX6_replace_0 (i := 11) rfl
theorem dX6_replace_20 : decode cX6_replace 20 = .ok (.invokevirtual 40, 3) := vl_at vq_cX6_replace_0 (i := 12) rfl
theorem dX6_replace_23 : decode cX6_replace 23 = .ok (.ifCond .eq 5, 3) := vl_at vq_cX6_replace_0 (i := 13) rfl
theorem dX6_replace_26 : decode cX6_replace 26 = .ok (.iconst 0, 1) := vl_at vq_cX6_replace_0 (i := 14) rfl
theorem dX6_replace_27 : decode cX6_replace 27 = .ok (.ireturn, 1) := vl_at vq_cX6_replace_0 (i := 15) rfl
theorem dX6_replace_28 : decode cX6_replace 28 = .ok (.iload_n 1, 1) := vl_at vq_cX6_replace_0 (i := 16) rfl
theorem dX6_replace_29 : decode cX6_replace 29 = .ok (.aload_n 0, 1) := vl_at vq_cX6_replace_0 (i := 17) rfl
theorem dX6_replace_30 : decode cX6_replace 30 = .ok (.iconst 1, 1) := vl_at vq_cX6_replace_0 (i := 18) rfl
theorem dX6_replace_31 : decode cX6_replace 31 = .ok (.invokevirtual 91, 3) := vl_at vq_cX6_replace_0 (i := 19) rfl
theorem dX6_replace_34 : decode cX6_replace 34 = .ok (.if_icmp .lt 6, 3) := vl_at vq_cX6_replace_0 (i := 20) rfl
theorem dX6_replace_37 : decode cX6_replace 37 = .ok (.bipush (-9), 2) := vl_at vq_cX6_replace_0 (i := 21) rfl
theorem dX6_replace_39 : decode cX6_replace 39 = .ok (.ireturn, 1) := vl_at vq_cX6_replace_0 (i := 22) rfl
theorem dX6_replace_40 : decode cX6_replace 40 = .ok (.aload_n 0, 1) := vl_at vq_cX6_replace_0 (i := 23) rfl
theorem dX6_replace_41 : decode cX6_replace 41 = .ok (.invokevirtual 164, 3) := vl_at vq_cX6_replace_0 (i := 24) rfl
theorem dX6_replace_44 : decode cX6_replace 44 = .ok (.aload_n 0, 1) := vl_at vq_cX6_replace_0 (i := 25) rfl
theorem dX6_replace_45 : decode cX6_replace 45 = .ok (.getfield 10, 3) := vl_at vq_cX6_replace_0 (i := 26) rfl
theorem dX6_replace_48 : decode cX6_replace 48 = .ok (.iconst 1, 1) := vl_at vq_cX6_replace_0 (i := 27) rfl
theorem dX6_replace_49 : decode cX6_replace 49 = .ok (.invokevirtual 48, 3) := vl_at vq_cX6_replace_0 (i := 28) rfl
theorem dX6_replace_52 : decode cX6_replace 52 = .ok (.checkcast 7, 3) := vl_at vq_cX6_replace_0 (i := 29) rfl
theorem dX6_replace_55 : decode cX6_replace 55 = .ok (.iload_n 1, 1) := vl_at vq_cX6_replace_0 (i := 30) rfl
theorem dX6_replace_56 : decode cX6_replace 56 = .ok (.iload_n 2, 1) := vl_at vq_cX6_replace_0 (i := 31) rfl
theorem dX6_replace_57 : decode cX6_replace 57 = .ok (.iload_n 3, 1) := vl_at vq_cX6_replace_0 (i := 32) rfl
theorem dX6_replace_58 : decode cX6_replace 58 = .ok (.invokestatic 121, 3) := vl_at vq_cX6_replace_0 (i := 33) rfl
theorem dX6_replace_61 : decode cX6_replace 61 = .ok (.invokestatic 70, 3) := vl_at vq_cX6_replace_0 (i := 34) rfl
theorem dX6_replace_64 : decode cX6_replace 64 = .ok (.invokevirtual 180, 3) := vl_at vq_cX6_replace_0 (i := 35) rfl
theorem dX6_replace_67 : decode cX6_replace 67 = .ok (.checkcast 56, 3) := vl_at vq_cX6_replace_0 (i := 36) rfl
theorem dX6_replace_70 : decode cX6_replace 70 = .ok (.invokevirtual 58, 3) := vl_at vq_cX6_replace_0 (i := 37) rfl
theorem dX6_replace_73 : decode cX6_replace 73 = .ok (.ireturn, 1) := vl_at vq_cX6_replace_0 (i := 38) rfl
noncomputable def vl_cX6_at_0 : List (Nat × Instr × Nat) := [(0, .aload_n 0, 1), (1, .aload_n 0, 1), (2, .iload_n 1, 1), (3, .invokevirtual 177, 3), (6, .iconst 1, 1), (7, .invokevirtual 110, 3), (10, .ifCond .eq 7, 3), (13, .iconst 0, 1), (14, .goto 23, 3), (17, .iload_n 1, 1), (18, .aload_n 0, 1), (19, .iconst 1, 1), (20, .invokevirtual 91, 3), (23, .if_icmp .lt 8, 3), (26, .bipush (-9), 2), (28, .goto 9, 3), (31, .aload_n 0, 1), (32, .iconst 1, 1), (33, .iload_n 1, 1), (34, .invokevirtual 131, 3), (37, .ireturn, 1)]
theorem vq_cX6_at_0 : vl_ok cX6_at vl_cX6_at_0 = true := by decide +kernel
theorem dX6_at_0 : decode cX6_at 0 = .ok (.aload_n 0, 1) := vl_at vq_cX6_at_0 (i := 0) rfl
theorem dX6_at_1 : decode cX6_at 1 = .ok (.aload_n 0, 1) := vl_at vq_cX6_at_0 (i := 1) rfl
theorem dX6_at_2 : decode cX6_at 2 = .ok (.iload_n 1, 1) := vl_at vq_cX6_at_0 (i := 2) rfl
theorem dX6_at_3 : decode cX6_at 3 = .ok (.invokevirtual 177, 3) := vl_at vq_cX6_at_0 (i := 3) rfl
theorem dX6_at_6 : decode cX6_at 6 = .ok (.iconst 1, 1) := vl_at vq_cX6_at_0 (i := 4) rfl
theorem dX6_at_7 : decode cX6_at 7 = .ok (.invokevirtual 110, 3) := vl_at vq_cX6_at_0 (i := 5) rfl
theorem dX6_at_10 : decode cX6_at 10 = .ok (.ifCond .eq 7, 3) := vl_at vq_cX6_at_0 (i := 6) rfl
theorem dX6_at_13 : decode cX6_at 13 = .ok (.iconst 0, 1) := vl_at vq_cX6_at_0 (i := 7) rfl
theorem dX6_at_14 : decode cX6_at 14 = .ok (.goto 23, 3) := vl_at vq_cX6_at_0 (i := 8) rfl
theorem dX6_at_17 : decode cX6_at 17 = .ok (.iload_n 1, 1) := vl_at vq_cX6_at_0 (i := 9) rfl
theorem dX6_at_18 : decode cX6_at 18 = .ok (.aload_n 0, 1) := vl_at vq_cX6_at_0 (i := 10) rfl
theorem dX6_at_19 : decode cX6_at 19 = .ok (.iconst 1, 1) := vl_at vq_cX6_at_0 (i := 11) rfl
theorem dX6_at_20 : decode cX6_at 20 = .ok (.invokevirtual 91, 3) := vl_at vq_cX6_at_0 (i := 12) rfl
theorem dX6_at_23 : decode cX6_at 23 = .ok (.if_icmp .lt 8, 3) := vl_at vq_cX6_at_0 (i := 13) rfl
theorem dX6_at_26 : decode cX6_at 26 = .ok (.bipush (-9), 2) := vl_at vq_cX6_at_0 (i := 14) rfl
theorem dX6_at_28 : decode cX6_at 28 = .ok (.goto 9, 3) := vl_at vq_cX6_at_0 (i := 15) rfl
theorem dX6_at_31 : decode cX6_at 31 = .ok (.aload_n 0, 1) := vl_at vq_cX6_at_0 (i := 16) rfl
theorem dX6_at_32 : decode cX6_at 32 = .ok (.iconst 1, 1) := vl_at vq_cX6_at_0 (i := 17) rfl
theorem dX6_at_33 : decode cX6_at 33 = .ok (.iload_n 1, 1) := vl_at vq_cX6_at_0 (i := 18) rfl
theorem dX6_at_34 : decode cX6_at 34 = .ok (.invokevirtual 131, 3) := vl_at vq_cX6_at_0 (i := 19) rfl
theorem dX6_at_37 : decode cX6_at 37 = .ok (.ireturn, 1) := vl_at vq_cX6_at_0 (i := 20) rfl
noncomputable def vl_cX6_find_0 : List (Nat × Instr × Nat) := [(0, .aload_n 0, 1), (1, .iload_n 1, 1), (2, .iconst 0, 1), (3, .bipush 9, 2), (5, .invokestatic 44, 3), (8, .ifCond .ne 7, 3), (11, .iconst 1, 1), (12, .goto 4, 3), (15, .iconst 0, 1), (16, .iconst 1, 1), (17, .invokevirtual 110, 3), (20, .ifCond .eq 7, 3), (23, .iconst 0, 1), (24, .goto 10, 3), (27, .aload_n 0, 1), (28, .iconst 1, 1), (29, .iload_n 1, 1), (30, .iload_n 2, 1), (31, .invokevirtual 160, 3), (34, .ireturn, 1)]
theorem vq_cX6_find_0 : vl_ok cX6_find vl_cX6_find_0 = true := by decide +kernel
theorem dX6_find_0 : decode cX6_find 0 = .ok (.aload_n 0, 1) := vl_at vq_cX6_find_0 (i := 0) rfl
theorem dX6_find_1 : decode cX6_find 1 = .ok (.iload_n 1, 1) := vl_at vq_cX6_find_0 (i := 1) rfl
theorem dX6_find_2 : decode cX6_find 2 = .ok (.iconst 0, 1) := vl_at vq_cX6_find_0 (i := 2) rfl
theorem dX6_find_3 : decode cX6_find 3 = .ok (.bipush 9, 2) := vl_at vq_cX6_find_0 (i := 3) rfl
theorem dX6_find_5 : decode cX6_find 5 = .ok (.invokestatic 44, 3) := vl_at vq_cX6_find_0 (i := 4) rfl
theorem dX6_find_8 : decode cX6_find 8 = .ok (.ifCond .ne 7, 3) := vl_at vq_cX6_find_0 (i := 5) rfl
theorem dX6_find_11 : decode cX6_find 11 = .ok (.iconst 1, 1) := vl_at vq_cX6_find_0 (i := 6) rfl
theorem dX6_find_12 : decode cX6_find 12 = .ok (.goto 4, 3) := vl_at vq_cX6_find_0 (i := 7) rfl
theorem dX6_find_15 : decode cX6_find 15 = .ok (.iconst 0, 1) := vl_at vq_cX6_find_0 (i := 8) rfl
theorem dX6_find_16 : decode cX6_find 16 = .ok (.iconst 1, 1) := vl_at vq_cX6_find_0 (i := 9) rfl
theorem dX6_find_17 : decode cX6_find 17 = .ok (.invokevirtual 110, 3) := vl_at vq_cX6_find_0 (i := 10) rfl
theorem dX6_find_20 : decode cX6_find 20 = .ok (.ifCond .eq 7, 3) := vl_at vq_cX6_find_0 (i := 11) rfl
theorem dX6_find_23 : decode cX6_find 23 = .ok (.iconst 0, 1) := vl_at vq_cX6_find_0 (i := 12) rfl
theorem dX6_find_24 : decode cX6_find 24 = .ok (.goto 10, 3) := vl_at vq_cX6_find_0 (i := 13) rfl
theorem dX6_find_27 : decode cX6_find 27 = .ok (.aload_n 0, 1) := vl_at vq_cX6_find_0 (i := 14) rfl
theorem dX6_find_28 : decode cX6_find 28 = .ok (.iconst 1, 1) := vl_at vq_cX6_find_0 (i := 15) rfl
theorem dX6_find_29 : decode cX6_find 29 = .ok (.iload_n 1, 1) := vl_at vq_cX6_find_0 (i := 16) rfl
theorem dX6_find_30 : decode cX6_find 30 = .ok (.iload_n 2, 1) := vl_at vq_cX6_find_0 (i := 17) rfl
theorem dX6_find_31 : decode cX6_find 31 = .ok (.invokevirtual 160, 3) := vl_at vq_cX6_find_0 (i := 18) rfl
theorem dX6_find_34 : decode cX6_find 34 = .ok (.ireturn, 1) := vl_at vq_cX6_find_0 (i := 19) rfl
noncomputable def vl_cX6_splice_0 : List (Nat × Instr × Nat) := [(0, .aload_n 0, 1), (1, .iload_n 1, 1), (2, .iconst 0, 1), (3, .bipush 20, 2), (5, .invokestatic 44, 3), (8, .ifCond .ne 7, 3), (11, .iconst 1, 1), (12, .goto 4, 3), (15, .iconst 0, 1), (16, .iconst 1, 1), (17, .invokevirtual 110, 3), (20, .ifCond .ne 32, 3), (23, .aload_n 0, 1), (24, .aload_n 0, 1), (25, .iconst 0, 1), (26, .invokevirtual 91, 3), (29, .aload_n 0, 1), (30, .iconst 1, 1), (31, .invokevirtual 91, 3), (34, .iadd, 1), (35, .bipush 20, 2), (37, .if_icmp .le 7, 3), (40, .iconst 1, 1), (41, .goto 4, 3), (44, .iconst 0, 1), (45, .iconst 2, 1), (46, .invokevirtual 40, 3), (49, .ifCond .eq 5, 3), (52, .iconst 0, 1), (53, .ireturn, 1), (54, .aload_n 0, 1), (55, .iconst 0, 1), (56, .invokevirtual 91, 3), (59, .istore_n 2, 1), (60, .iload_n 2, 1), (61, .ifCond .ne 5, 3), (64, .iconst 0, 1), (65, .ireturn, 1), (66, .iload_n 1, 1), (67, .aload_n 0, 1)]
theorem vq_cX6_splice_0 : vl_ok cX6_splice vl_cX6_splice_0 = true := by decide +kernel
theorem dX6_splice_0 : decode cX6_splice 0 = .ok (.aload_n 0, 1) := vl_at vq_cX6_splice_0 (i := 0) rfl
theorem dX6_splice_1 : decode cX6_splice 1 = .ok (.iload_n 1, 1) := vl_at vq_cX6_splice_0 (i := 1) rfl
theorem dX6_splice_2 : decode cX6_splice 2 = .ok (.iconst 0, 1) := vl_at vq_cX6_splice_0 (i := 2) rfl
theorem dX6_splice_3 : decode cX6_splice 3 = .ok (.bipush 20, 2) := vl_at vq_cX6_splice_0 (i := 3) rfl
theorem dX6_splice_5 : decode cX6_splice 5 = .ok (.invokestatic 44, 3) := vl_at vq_cX6_splice_0 (i := 4) rfl
theorem dX6_splice_8 : decode cX6_splice 8 = .ok (.ifCond .ne 7, 3) := vl_at vq_cX6_splice_0 (i := 5) rfl
theorem dX6_splice_11 : decode cX6_splice 11 = .ok (.iconst 1, 1) := vl_at vq_cX6_splice_0 (i := 6) rfl
theorem dX6_splice_12 : decode cX6_splice 12 = .ok (.goto 4, 3) := vl_at vq_cX6_splice_0 (i := 7) rfl
theorem dX6_splice_15 : decode cX6_splice 15 = .ok (.iconst 0, 1) := vl_at vq_cX6_splice_0 (i := 8) rfl
theorem dX6_splice_16 : decode cX6_splice 16 = .ok (.iconst 1, 1) := vl_at vq_cX6_splice_0 (i := 9) rfl
theorem dX6_splice_17 : decode cX6_splice 17 = .ok (.invokevirtual 110, 3) := vl_at vq_cX6_splice_0 (i := 10) rfl
theorem dX6_splice_20 : decode cX6_splice 20 = .ok (.ifCond .ne 32, 3) := vl_at vq_cX6_splice_0 (i := 11) rfl
theorem dX6_splice_23 : decode cX6_splice 23 = .ok (.aload_n 0, 1) := vl_at vq_cX6_splice_0 (i := 12) rfl
theorem dX6_splice_24 : decode cX6_splice 24 = .ok (.aload_n 0, 1) := vl_at vq_cX6_splice_0 (i := 13) rfl
theorem dX6_splice_25 : decode cX6_splice 25 = .ok (.iconst 0, 1) := vl_at vq_cX6_splice_0 (i := 14) rfl
theorem dX6_splice_26 : decode cX6_splice 26 = .ok (.invokevirtual 91, 3) := vl_at vq_cX6_splice_0 (i := 15) rfl
theorem dX6_splice_29 : decode cX6_splice 29 = .ok (.aload_n 0, 1) := vl_at vq_cX6_splice_0 (i := 16) rfl
theorem dX6_splice_30 : decode cX6_splice 30 = .ok (.iconst 1, 1) := vl_at vq_cX6_splice_0 (i := 17) rfl
theorem dX6_splice_31 : decode cX6_splice 31 = .ok (.invokevirtual 91, 3) := vl_at vq_cX6_splice_0 (i := 18) rfl
theorem dX6_splice_34 : decode cX6_splice 34 = .ok (.iadd, 1) := vl_at vq_cX6_splice_0 (i := 19) rfl
theorem dX6_splice_35 : decode cX6_splice 35 = .ok (.bipush 20, 2) := vl_at vq_cX6_splice_0 (i := 20) rfl
theorem dX6_splice_37 : decode cX6_splice 37 = .ok (.if_icmp .le 7, 3) := vl_at vq_cX6_splice_0 (i := 21) rfl
theorem dX6_splice_40 : decode cX6_splice 40 = .ok (.iconst 1, 1) := vl_at vq_cX6_splice_0 (i := 22) rfl
theorem dX6_splice_41 : decode cX6_splice 41 = .ok (.goto 4, 3) := vl_at vq_cX6_splice_0 (i := 23) rfl
theorem dX6_splice_44 : decode cX6_splice 44 = .ok (.iconst 0, 1) := vl_at vq_cX6_splice_0 (i := 24) rfl
theorem dX6_splice_45 : decode cX6_splice 45 = .ok (.iconst 2, 1) := vl_at vq_cX6_splice_0 (i := 25) rfl
theorem dX6_splice_46 : decode cX6_splice 46 = .ok (.invokevirtual 40, 3) := vl_at vq_cX6_splice_0 (i := 26) rfl
theorem dX6_splice_49 : decode cX6_splice 49 = .ok (.ifCond .eq 5, 3) := vl_at vq_cX6_splice_0 (i := 27) rfl
theorem dX6_splice_52 : decode cX6_splice 52 = .ok (.iconst 0, 1) := vl_at vq_cX6_splice_0 (i := 28) rfl
theorem dX6_splice_53 : decode cX6_splice 53 = .ok (.ireturn, 1) := vl_at vq_cX6_splice_0 (i := 29) rfl
theorem dX6_splice_54 : decode cX6_splice 54 = .ok (.aload_n 0, 1) := vl_at vq_cX6_splice_0 (i := 30) rfl
theorem dX6_splice_55 : decode cX6_splice 55 = .ok (.iconst 0, 1) := vl_at vq_cX6_splice_0 (i := 31) rfl
theorem dX6_splice_56 : decode cX6_splice 56 = .ok (.invokevirtual 91, 3) := vl_at vq_cX6_splice_0 (i := 32) rfl
theorem dX6_splice_59 : decode cX6_splice 59 = .ok (.istore_n 2, 1) := vl_at vq_cX6_splice_0 (i := 33) rfl
theorem dX6_splice_60 : decode cX6_splice 60 = .ok (.iload_n 2, 1) := vl_at vq_cX6_splice_0 (i := 34) rfl
theorem dX6_splice_61 : decode cX6_splice 61 = .ok (.ifCond .ne 5, 3) := vl_at vq_cX6_splice_0 (i := 35) rfl
theorem dX6_splice_64 : decode cX6_splice 64 = .ok (.iconst 0, 1) := vl_at vq_cX6_splice_0 (i := 36) rfl
theorem dX6_splice_65 : decode cX6_splice 65 = .ok (.ireturn, 1) := vl_at vq_cX6_splice_0 (i := 37) rfl
theorem dX6_splice_66 : decode cX6_splice 66 = .ok (.iload_n 1, 1) := vl_at vq_cX6_splice_0 (i := 38) rfl
theorem dX6_splice_67 : decode cX6_splice 67 = .ok (.aload_n 0, 1) := vl_at vq_cX6_splice_0 (i := 39) rfl
noncomputable def vl_cX6_splice_1 : List (Nat × Instr × Nat) := [(68, .iconst 1, 1), (69, .invokevirtual 91, 3), (72, .if_icmp .le 6, 3), (75, .bipush (-9), 2), (77, .ireturn, 1), (78, .iconst 0, 1), (79, .istore_n 3, 1), (80, .iload_n 3, 1), (81, .iload_n 2, 1), (82, .if_icmp .ge 23, 3), (85, .aload_n 0, 1), (86, .iconst 1, 1), (87, .iload_n 1, 1), (88, .iload_n 3, 1), (89, .iadd, 1), (90, .aload_n 0, 1), (91, .iconst 0, 1), (92, .iconst 0, 1), (93, .invokevirtual 102, 3), (96, .invokevirtual 94, 3), (99, .iinc 3 1, 3), (102, .goto (-22), 3), (105, .aload_n 0, 1), (106, .invokevirtual 164, 3), (109, .iload_n 2, 1), (110, .ireturn, 1)]
theorem vq_cX6_splice_1 : vl_ok cX6_splice vl_cX6_splice_1 = true := by decide +kernel
theorem dX6_splice_68 : decode cX6_splice 68 = .ok (.iconst 1, 1) := vl_at vq_cX6_splice_1 (i := 0) rfl
theorem dX6_splice_69 : decode cX6_splice 69 = .ok (.invokevirtual 91, 3) := vl_at vq_cX6_splice_1 (i := 1) rfl
theorem dX6_splice_72 : decode cX6_splice 72 = .ok (.if_icmp .le 6, 3) := vl_at vq_cX6_splice_1 (i := 2) rfl
theorem dX6_splice_75 : decode cX6_splice 75 = .ok (.bipush (-9), 2) := vl_at vq_cX6_splice_1 (i := 3) rfl
theorem dX6_splice_77 : decode cX6_splice 77 = .ok (.ireturn, 1) := vl_at vq_cX6_splice_1 (i := 4) rfl
theorem dX6_splice_78 : decode cX6_splice 78 = .ok (.iconst 0, 1) := vl_at vq_cX6_splice_1 (i := 5) rfl
theorem dX6_splice_79 : decode cX6_splice 79 = .ok (.istore_n 3, 1) := vl_at vq_cX6_splice_1 (i := 6) rfl
theorem dX6_splice_80 : decode cX6_splice 80 = .ok (.iload_n 3, 1) := vl_at vq_cX6_splice_1 (i := 7) rfl
theorem dX6_splice_81 : decode cX6_splice 81 = .ok (.iload_n 2, 1) := vl_at vq_cX6_splice_1 (i := 8) rfl
theorem dX6_splice_82 : decode cX6_splice 82 = .ok (.if_icmp .ge 23, 3) := vl_at vq_cX6_splice_1 (i := 9) rfl
theorem dX6_splice_85 : decode cX6_splice 85 = .ok (.aload_n 0, 1) := vl_at vq_cX6_splice_1 (i := 10) rfl
theorem dX6_splice_86 : decode cX6_splice 86 = .ok (.iconst 1, 1) := vl_at vq_cX6_splice_1 (i := 11) rfl
theorem dX6_splice_87 : decode cX6_splice 87 = .ok (.iload_n 1, 1) := vl_at vq_cX6_splice_1 (i := 12) rfl
theorem dX6_splice_88 : decode cX6_splice 88 = .ok (.iload_n 3, 1) := vl_at vq_cX6_splice_1 (i := 13) rfl
theorem dX6_splice_89 : decode cX6_splice 89 = .ok (.iadd, 1) := vl_at vq_cX6_splice_1 (i := 14) rfl
theorem dX6_splice_90 : decode cX6_splice 90 = .ok (.aload_n 0, 1) := vl_at vq_cX6_splice_1 (i := 15) rfl
theorem dX6_splice_91 : decode cX6_splice 91 = .ok (.iconst 0, 1) := vl_at vq_cX6_splice_1 (i := 16) rfl
theorem dX6_splice_92 : decode cX6_splice 92 = .ok (.iconst 0, 1) := vl_at vq_cX6_splice_1 (i := 17) rfl
theorem dX6_splice_93 : decode cX6_splice 93 = .ok (.invokevirtual 102, 3) := vl_at vq_cX6_splice_1 (i := 18) rfl
theorem dX6_splice_96 : decode cX6_splice 96 = .ok (.invokevirtual 94, 3) := vl_at vq_cX6_splice_1 (i := 19) rfl
theorem dX6_splice_99 : decode cX6_splice 99 = .ok (.iinc 3 1, 3) := vl_at vq_cX6_splice_1 (i := 20) rfl
theorem dX6_splice_102 : decode cX6_splice 102 = .ok (.goto (-22), 3) := vl_at vq_cX6_splice_1 (i := 21) rfl
theorem dX6_splice_105 : decode cX6_splice 105 = .ok (.aload_n 0, 1) := vl_at vq_cX6_splice_1 (i := 22) rfl
theorem dX6_splice_106 : decode cX6_splice 106 = .ok (.invokevirtual 164, 3) := vl_at vq_cX6_splice_1 (i := 23) rfl
theorem dX6_splice_109 : decode cX6_splice 109 = .ok (.iload_n 2, 1) := vl_at vq_cX6_splice_1 (i := 24) rfl
theorem dX6_splice_110 : decode cX6_splice 110 = .ok (.ireturn, 1) := vl_at vq_cX6_splice_1 (i := 25) rfl
noncomputable def vl_cX6_shunt_0 : List (Nat × Instr × Nat) := [(0, .aload_n 0, 1), (1, .aload_n 0, 1), (2, .iload_n 1, 1), (3, .invokevirtual 177, 3), (6, .iconst 1, 1), (7, .invokevirtual 110, 3), (10, .ifCond .ne 51, 3), (13, .aload_n 0, 1), (14, .iload_n 2, 1), (15, .iconst 1, 1), (16, .bipush 20, 2), (18, .invokestatic 44, 3), (21, .ifCond .ne 7, 3), (24, .iconst 1, 1), (25, .goto 4, 3), (28, .iconst 0, 1), (29, .iconst 2, 1), (30, .invokevirtual 40, 3), (33, .ifCond .ne 28, 3), (36, .aload_n 0, 1), (37, .aload_n 0, 1), (38, .iconst 0, 1), (39, .invokevirtual 91, 3), (42, .iload_n 2, 1), (43, .iadd, 1), (44, .bipush 20, 2), (46, .if_icmp .le 7, 3), (49, .iconst 1, 1), (50, .goto 4, 3), (53, .iconst 0, 1), (54, .iconst 3, 1), (55, .invokevirtual 40, 3), (58, .ifCond .eq 5, 3), (61, .iconst 0, 1), (62, .ireturn, 1), (63, .iload_n 1, 1), (64, .aload_n 0, 1), (65, .iconst 1, 1), (66, .invokevirtual 91, 3), (69, .if_icmp .lt 6, 3)]
theorem vq_cX6_shunt_0 : vl_ok cX6_shunt vl_cX6_shunt_0 = true := by decide +kernel
theorem dX6_shunt_0 : decode cX6_shunt 0 = .ok (.aload_n 0, 1) := vl_at vq_cX6_shunt_0 (i := 0) rfl
theorem dX6_shunt_1 : decode cX6_shunt 1 = .ok (.aload_n 0, 1) := vl_at vq_cX6_shunt_0 (i := 1) rfl
theorem dX6_shunt_2 : decode cX6_shunt 2 = .ok (.iload_n 1, 1) := vl_at vq_cX6_shunt_0 (i := 2) rfl
theorem dX6_shunt_3 : decode cX6_shunt 3 = .ok (.invokevirtual 177, 3) := vl_at vq_cX6_shunt_0 (i := 3) rfl
theorem dX6_shunt_6 : decode cX6_shunt 6 = .ok (.iconst 1, 1) := vl_at vq_cX6_shunt_0 (i := 4) rfl
theorem dX6_shunt_7 : decode cX6_shunt 7 = .ok (.invokevirtual 110, 3) := vl_at vq_cX6_shunt_0 (i := 5) rfl
theorem dX6_shunt_10 : decode cX6_shunt 10 = .ok (.ifCond .ne 51, 3) := vl_at vq_cX6_shunt_0 (i := 6) rfl
theorem dX6_shunt_13 : decode cX6_shunt 13 = .ok (.aload_n 0, 1) := vl_at vq_cX6_shunt_0 (i := 7) rfl
theorem dX6_shunt_14 : decode cX6_shunt 14 = .ok (.iload_n 2, 1) := vl_at vq_cX6_shunt_0 (i := 8) rfl
theorem dX6_shunt_15 : decode cX6_shunt 15 = .ok (.iconst 1, 1) := vl_at vq_cX6_shunt_0 (i := 9) rfl
theorem dX6_shunt_16 : decode cX6_shunt 16 = .ok (.bipush 20, 2) := vl_at vq_cX6_shunt_0 (i := 10) rfl
theorem dX6_shunt_18 : decode cX6_shunt 18 = .ok (.invokestatic 44, 3) := vl_at vq_cX6_shunt_0 (i := 11) rfl
theorem dX6_shunt_21 : decode cX6_shunt 21 = .ok (.ifCond .ne 7, 3) := vl_at vq_cX6_shunt_0 (i := 12) rfl
theorem dX6_shunt_24 : decode cX6_shunt 24 = .ok (.iconst 1, 1) := vl_at vq_cX6_shunt_0 (i := 13) rfl
theorem dX6_shunt_25 : decode cX6_shunt 25 = .ok (.goto 4, 3) := vl_at vq_cX6_shunt_0 (i := 14) rfl
theorem dX6_shunt_28 : decode cX6_shunt 28 = .ok (.iconst 0, 1) := vl_at vq_cX6_shunt_0 (i := 15) rfl
theorem dX6_shunt_29 : decode cX6_shunt 29 = .ok (.iconst 2, 1) := vl_at vq_cX6_shunt_0 (i := 16) rfl
theorem dX6_shunt_30 : decode cX6_shunt 30 = .ok (.invokevirtual 40, 3) := vl_at vq_cX6_shunt_0 (i := 17) rfl
theorem dX6_shunt_33 : decode cX6_shunt 33 = .ok (.ifCond .ne 28, 3) := vl_at vq_cX6_shunt_0 (i := 18) rfl
theorem dX6_shunt_36 : decode cX6_shunt 36 = .ok (.aload_n 0, 1) := vl_at vq_cX6_shunt_0 (i := 19) rfl
theorem dX6_shunt_37 : decode cX6_shunt 37 = .ok (.aload_n 0, 1) := vl_at vq_cX6_shunt_0 (i := 20) rfl
theorem dX6_shunt_38 : decode cX6_shunt 38 = .ok (.iconst 0, 1) := vl_at vq_cX6_shunt_0 (i := 21) rfl
theorem dX6_shunt_39 : decode cX6_shunt 39 = .ok (.invokevirtual 91, 3) := vl_at vq_cX6_shunt_0 (i := 22) rfl
theorem dX6_shunt_42 : decode cX6_shunt 42 = .ok (.iload_n 2, 1) := vl_at vq_cX6_shunt_0 (i := 23) rfl
theorem dX6_shunt_43 : decode cX6_shunt 43 = .ok (.iadd, 1) := vl_at vq_cX6_shunt_0 (i := 24) rfl
theorem dX6_shunt_44 : decode cX6_shunt 44 = .ok (.bipush 20, 2) := vl_at vq_cX6_shunt_0 (i := 25) rfl
theorem dX6_shunt_46 : decode cX6_shunt 46 = .ok (.if_icmp .le 7, 3) := vl_at vq_cX6_shunt_0 (i := 26) rfl
theorem dX6_shunt_49 : decode cX6_shunt 49 = .ok (.iconst 1, 1) := vl_at vq_cX6_shunt_0 (i := 27) rfl
theorem dX6_shunt_50 : decode cX6_shunt 50 = .ok (.goto 4, 3) := vl_at vq_cX6_shunt_0 (i := 28) rfl
theorem dX6_shunt_53 : decode cX6_shunt 53 = .ok (.iconst 0, 1) := vl_at vq_cX6_shunt_0 (i := 29) rfl
theorem dX6_shunt_54 : decode cX6_shunt 54 = .ok (.iconst 3, 1) := vl_at vq_cX6_shunt_0 (i := 30) rfl
theorem dX6_shunt_55 : decode cX6_shunt 55 = .ok (.invokevirtual 40, 3) := vl_at vq_cX6_shunt_0 (i := 31) rfl
theorem dX6_shunt_58 : decode cX6_shunt 58 = .ok (.ifCond .eq 5, 3) := vl_at vq_cX6_shunt_0 (i := 32) rfl
theorem dX6_shunt_61 : decode cX6_shunt 61 = .ok (.iconst 0, 1) := vl_at vq_cX6_shunt_0 (i := 33) rfl
theorem dX6_shunt_62 : decode cX6_shunt 62 = .ok (.ireturn, 1) := vl_at vq_cX6_shunt_0 (i := 34) rfl
theorem dX6_shunt_63 : decode cX6_shunt 63 = .ok (.iload_n 1, 1) := vl_at vq_cX6_shunt_0 (i := 35) rfl
theorem dX6_shunt_64 : decode cX6_shunt 64 = .ok (.aload_n 0, 1) := vl_at vq_cX6_shunt_0 (i := 36) rfl
theorem dX6_shunt_65 : decode cX6_shunt 65 = .ok (.iconst 1, 1) := vl_at vq_cX6_shunt_0 (i := 37) rfl
theorem dX6_shunt_66 : decode cX6_shunt 66 = .ok (.invokevirtual 91, 3) := vl_at vq_cX6_shunt_0 (i := 38) rfl
theorem dX6_shunt_69 : decode cX6_shunt 69 = .ok (.if_icmp .lt 6, 3) := vl_at vq_cX6_shunt_0 (i := 39) rfl
noncomputable def vl_cX6_shunt_1 : List (Nat × Instr × Nat) := [(72, .bipush (-9), 2), (74, .ireturn, 1), (75, .iconst 0, 1), (76, .istore_n 3, 1), (77, .iload_n 2, 1), (78, .aload_n 0, 1), (79, .iconst 1, 1), (80, .invokevirtual 91, 3), (83, .iload_n 1, 1), (84, .isub, 1), (85, .invokestatic 184, 3), (88, .istore 4, 2), (90, .iload 4, 2), (92, .ifCond .le 40, 3), (95, .aload_n 0, 1), (96, .iconst 1, 1), (97, .iload_n 1, 1), (98, .invokevirtual 102, 3), (101, .istore 5, 2), (103, .iload 5, 2), (105, .ifCond .ne 6, 3), (108, .goto 18, 3), (111, .aload_n 0, 1), (112, .iconst 0, 1), (113, .aload_n 0, 1), (114, .iconst 0, 1), (115, .invokevirtual 91, 3), (118, .iload 5, 2), (120, .invokevirtual 94, 3), (123, .iinc 3 1, 3), (126, .iinc 4 (-1), 3), (129, .goto (-39), 3), (132, .aload_n 0, 1), (133, .invokevirtual 164, 3), (136, .iload_n 3, 1), (137, .ireturn, 1)]
theorem vq_cX6_shunt_1 : vl_ok cX6_shunt vl_cX6_shunt_1 = true := by decide +kernel
theorem dX6_shunt_72 : decode cX6_shunt 72 = .ok (.bipush (-9), 2) := vl_at vq_cX6_shunt_1 (i := 0) rfl
theorem dX6_shunt_74 : decode cX6_shunt 74 = .ok (.ireturn, 1) := vl_at vq_cX6_shunt_1 (i := 1) rfl
theorem dX6_shunt_75 : decode cX6_shunt 75 = .ok (.iconst 0, 1) := vl_at vq_cX6_shunt_1 (i := 2) rfl
theorem dX6_shunt_76 : decode cX6_shunt 76 = .ok (.istore_n 3, 1) := vl_at vq_cX6_shunt_1 (i := 3) rfl
theorem dX6_shunt_77 : decode cX6_shunt 77 = .ok (.iload_n 2, 1) := vl_at vq_cX6_shunt_1 (i := 4) rfl
theorem dX6_shunt_78 : decode cX6_shunt 78 = .ok (.aload_n 0, 1) := vl_at vq_cX6_shunt_1 (i := 5) rfl
theorem dX6_shunt_79 : decode cX6_shunt 79 = .ok (.iconst 1, 1) := vl_at vq_cX6_shunt_1 (i := 6) rfl
theorem dX6_shunt_80 : decode cX6_shunt 80 = .ok (.invokevirtual 91, 3) := vl_at vq_cX6_shunt_1 (i := 7) rfl
theorem dX6_shunt_83 : decode cX6_shunt 83 = .ok (.iload_n 1, 1) := vl_at vq_cX6_shunt_1 (i := 8) rfl
theorem dX6_shunt_84 : decode cX6_shunt 84 = .ok (.isub, 1) := vl_at vq_cX6_shunt_1 (i := 9) rfl
theorem dX6_shunt_85 : decode cX6_shunt 85 = .ok (.invokestatic 184, 3) := vl_at vq_cX6_shunt_1 (i := 10) rfl
theorem dX6_shunt_88 : decode cX6_shunt 88 = .ok (.istore 4, 2) := vl_at vq_cX6_shunt_1 (i := 11) rfl
theorem dX6_shunt_90 : decode cX6_shunt 90 = .ok (.iload 4, 2) := vl_at vq_cX6_shunt_1 (i := 12) rfl
theorem dX6_shunt_92 : decode cX6_shunt 92 = .ok (.ifCond .le 40, 3) := vl_at vq_cX6_shunt_1 (i := 13) rfl
theorem dX6_shunt_95 : decode cX6_shunt 95 = .ok (.aload_n 0, 1) := vl_at vq_cX6_shunt_1 (i := 14) rfl
theorem dX6_shunt_96 : decode cX6_shunt 96 = .ok (.iconst 1, 1) := vl_at vq_cX6_shunt_1 (i := 15) rfl
theorem dX6_shunt_97 : decode cX6_shunt 97 = .ok (.iload_n 1, 1) := vl_at vq_cX6_shunt_1 (i := 16) rfl
theorem dX6_shunt_98 : decode cX6_shunt 98 = .ok (.invokevirtual 102, 3) := vl_at vq_cX6_shunt_1 (i := 17) rfl
theorem dX6_shunt_101 : decode cX6_shunt 101 = .ok (.istore 5, 2) := vl_at vq_cX6_shunt_1 (i := 18) rfl
theorem dX6_shunt_103 : decode cX6_shunt 103 = .ok (.iload 5, 2) := vl_at vq_cX6_shunt_1 (i := 19) rfl
theorem dX6_shunt_105 : decode cX6_shunt 105 = .ok (.ifCond .ne 6, 3) := vl_at vq_cX6_shunt_1 (i := 20) rfl
theorem dX6_shunt_108 : decode cX6_shunt 108 = .ok (.goto 18, 3) := vl_at vq_cX6_shunt_1 (i := 21) rfl
theorem dX6_shunt_111 : decode cX6_shunt 111 = .ok (.aload_n 0, 1) := vl_at vq_cX6_shunt_1 (i := 22) rfl
theorem dX6_shunt_112 : decode cX6_shunt 112 = .ok (.iconst 0, 1) := vl_at vq_cX6_shunt_1 (i := 23) rfl
theorem dX6_shunt_113 : decode cX6_shunt 113 = .ok (.aload_n 0, 1) := vl_at vq_cX6_shunt_1 (i := 24) rfl
theorem dX6_shunt_114 : decode cX6_shunt 114 = .ok (.iconst 0, 1) := vl_at vq_cX6_shunt_1 (i := 25) rfl
theorem dX6_shunt_115 : decode cX6_shunt 115 = .ok (.invokevirtual 91, 3) := vl_at vq_cX6_shunt_1 (i := 26) rfl
theorem dX6_shunt_118 : decode cX6_shunt 118 = .ok (.iload 5, 2) := vl_at vq_cX6_shunt_1 (i := 27) rfl
theorem dX6_shunt_120 : decode cX6_shunt 120 = .ok (.invokevirtual 94, 3) := vl_at vq_cX6_shunt_1 (i := 28) rfl
theorem dX6_shunt_123 : decode cX6_shunt 123 = .ok (.iinc 3 1, 3) := vl_at vq_cX6_shunt_1 (i := 29) rfl
theorem dX6_shunt_126 : decode cX6_shunt 126 = .ok (.iinc 4 (-1), 3) := vl_at vq_cX6_shunt_1 (i := 30) rfl
theorem dX6_shunt_129 : decode cX6_shunt 129 = .ok (.goto (-39), 3) := vl_at vq_cX6_shunt_1 (i := 31) rfl
theorem dX6_shunt_132 : decode cX6_shunt 132 = .ok (.aload_n 0, 1) := vl_at vq_cX6_shunt_1 (i := 32) rfl
theorem dX6_shunt_133 : decode cX6_shunt 133 = .ok (.invokevirtual 164, 3) := vl_at vq_cX6_shunt_1 (i := 33) rfl
theorem dX6_shunt_136 : decode cX6_shunt 136 = .ok (.iload_n 3, 1) := vl_at vq_cX6_shunt_1 (i := 34) rfl
theorem dX6_shunt_137 : decode cX6_shunt 137 = .ok (.ireturn, 1) := vl_at vq_cX6_shunt_1 (i := 35) rfl
noncomputable def vl_cX6_isNoWalker_0 : List (Nat × Instr × Nat) := [(0, .iload_n 0, 1), (1, .iconst 0, 1), (2, .iconst 1, 1), (3, .invokestatic 44, 3), (6, .ifCond .ne 7, 3), (9, .iconst 1, 1), (10, .goto 4, 3), (13, .iconst 0, 1), (14, .ireturn, 1)]
theorem vq_cX6_isNoWalker_0 : vl_ok cX6_isNoWalker vl_cX6_isNoWalker_0 = true := by decide +kernel
theorem dX6_isNoWalker_0 : decode cX6_isNoWalker 0 = .ok (.iload_n 0, 1) := vl_at vq_cX6_isNoWalker_0 (i := 0) rfl
theorem dX6_isNoWalker_1 : decode cX6_isNoWalker 1 = .ok (.iconst 0, 1) := vl_at vq_cX6_isNoWalker_0 (i := 1) rfl
theorem dX6_isNoWalker_2 : decode cX6_isNoWalker 2 = .ok (.iconst 1, 1) := vl_at vq_cX6_isNoWalker_0 (i := 2) rfl
theorem dX6_isNoWalker_3 : decode cX6_isNoWalker 3 = .ok (.invokestatic 44, 3) := vl_at vq_cX6_isNoWalker_0 (i := 3) rfl
theorem dX6_isNoWalker_6 : decode cX6_isNoWalker 6 = .ok (.ifCond .ne 7, 3) := vl_at vq_cX6_isNoWalker_0 (i := 4) rfl
theorem dX6_isNoWalker_9 : decode cX6_isNoWalker 9 = .ok (.iconst 1, 1) := vl_at vq_cX6_isNoWalker_0 (i := 5) rfl
theorem dX6_isNoWalker_10 : decode cX6_isNoWalker 10 = .ok (.goto 4, 3) := vl_at vq_cX6_isNoWalker_0 (i := 6) rfl
theorem dX6_isNoWalker_13 : decode cX6_isNoWalker 13 = .ok (.iconst 0, 1) := vl_at vq_cX6_isNoWalker_0 (i := 7) rfl
theorem dX6_isNoWalker_14 : decode cX6_isNoWalker 14 = .ok (.ireturn, 1) := vl_at vq_cX6_isNoWalker_0 (i := 8) rfl
noncomputable def vl_cX6_isNowhere_0 : List (Nat × Instr × Nat) := [(0, .aload_n 0, 1), (1, .iload_n 1, 1), (2, .invokestatic 187, 3), (5, .iconst 1, 1), (6, .invokevirtual 110, 3), (9, .ifCond .ne 28, 3), (12, .aload_n 0, 1), (13, .aload_n 0, 1), (14, .getfield 25, 3), (17, .iload_n 1, 1), (18, .aaload, 1), (19, .getfield 67, 3), (22, .ifCond .ne 7, 3), (25, .iconst 1, 1), (26, .goto 4, 3), (29, .iconst 0, 1), (30, .iconst 2, 1), (31, .invokevirtual 40, 3), (34, .ifCond .eq 7, 3), (37, .iconst 1, 1), (38, .goto 4, 3), (41, .iconst 0, 1), (42, .ireturn, 1)]
theorem vq_cX6_isNowhere_0 : vl_ok cX6_isNowhere vl_cX6_isNowhere_0 = true := by decide +kernel
theorem dX6_isNowhere_0 : decode cX6_isNowhere 0 = .ok (.aload_n 0, 1) := vl_at vq_cX6_isNowhere_0 (i := 0) rfl
theorem dX6_isNowhere_1 : decode cX6_isNowhere 1 = .ok (.iload_n 1, 1) := vl_at vq_cX6_isNowhere_0 (i := 1) rfl
theorem dX6_isNowhere_2 : decode cX6_isNowhere 2 = .ok (.invokestatic 187, 3) := vl_at vq_cX6_isNowhere_0 (i := 2) rfl
theorem dX6_isNowhere_5 : decode cX6_isNowhere 5 = .ok (.iconst 1, 1) := vl_at vq_cX6_isNowhere_0 (i := 3) rfl
theorem dX6_isNowhere_6 : decode cX6_isNowhere 6 = .ok (.invokevirtual 110, 3) := vl_at vq_cX6_isNowhere_0 (i := 4) rfl
theorem dX6_isNowhere_9 : decode cX6_isNowhere 9 = .ok (.ifCond .ne 28, 3) := vl_at vq_cX6_isNowhere_0 (i := 5) rfl
theorem dX6_isNowhere_12 : decode cX6_isNowhere 12 = .ok (.aload_n 0, 1) := vl_at vq_cX6_isNowhere_0 (i := 6) rfl
theorem dX6_isNowhere_13 : decode cX6_isNowhere 13 = .ok (.aload_n 0, 1) := vl_at vq_cX6_isNowhere_0 (i := 7) rfl
theorem dX6_isNowhere_14 : decode cX6_isNowhere 14 = .ok (.getfield 25, 3) := vl_at vq_cX6_isNowhere_0 (i := 8) rfl
theorem dX6_isNowhere_17 : decode cX6_isNowhere 17 = .ok (.iload_n 1, 1) := vl_at vq_cX6_isNowhere_0 (i := 9) rfl
theorem dX6_isNowhere_18 : decode cX6_isNowhere 18 = .ok (.aaload, 1) := vl_at vq_cX6_isNowhere_0 (i := 10) rfl
theorem dX6_isNowhere_19 : decode cX6_isNowhere 19 = .ok (.getfield 67, 3) := vl_at vq_cX6_isNowhere_0 (i := 11) rfl
theorem dX6_isNowhere_22 : decode cX6_isNowhere 22 = .ok (.ifCond .ne 7, 3) := vl_at vq_cX6_isNowhere_0 (i := 12) rfl
theorem dX6_isNowhere_25 : decode cX6_isNowhere 25 = .ok (.iconst 1, 1) := vl_at vq_cX6_isNowhere_0 (i := 13) rfl
theorem dX6_isNowhere_26 : decode cX6_isNowhere 26 = .ok (.goto 4, 3) := vl_at vq_cX6_isNowhere_0 (i := 14) rfl
theorem dX6_isNowhere_29 : decode cX6_isNowhere 29 = .ok (.iconst 0, 1) := vl_at vq_cX6_isNowhere_0 (i := 15) rfl
theorem dX6_isNowhere_30 : decode cX6_isNowhere 30 = .ok (.iconst 2, 1) := vl_at vq_cX6_isNowhere_0 (i := 16) rfl
theorem dX6_isNowhere_31 : decode cX6_isNowhere 31 = .ok (.invokevirtual 40, 3) := vl_at vq_cX6_isNowhere_0 (i := 17) rfl
theorem dX6_isNowhere_34 : decode cX6_isNowhere 34 = .ok (.ifCond .eq 7, 3) := vl_at vq_cX6_isNowhere_0 (i := 18) rfl
theorem dX6_isNowhere_37 : decode cX6_isNowhere 37 = .ok (.iconst 1, 1) := vl_at vq_cX6_isNowhere_0 (i := 19) rfl
theorem dX6_isNowhere_38 : decode cX6_isNowhere 38 = .ok (.goto 4, 3) := vl_at vq_cX6_isNowhere_0 (i := 20) rfl
theorem dX6_isNowhere_41 : decode cX6_isNowhere 41 = .ok (.iconst 0, 1) := vl_at vq_cX6_isNowhere_0 (i := 21) rfl
theorem dX6_isNowhere_42 : decode cX6_isNowhere 42 = .ok (.ireturn, 1) := vl_at vq_cX6_isNowhere_0 (i := 22) rfl
noncomputable def vl_cX6_stand_0 : List (Nat × Instr × Nat) := [(0, .aload_n 0, 1), (1, .iload_n 1, 1), (2, .invokestatic 187, 3), (5, .ifCond .ne 13, 3), (8, .iload_n 2, 1), (9, .iconst 0, 1), (10, .bipush 20, 2), (12, .invokestatic 44, 3), (15, .ifCond .ne 7, 3), (18, .iconst 1, 1), (19, .goto 4, 3), (22, .iconst 0, 1), (23, .iconst 1, 1), (24, .invokevirtual 110, 3), (27, .ifCond .eq 5, 3), (30, .iconst 0, 1), (31, .ireturn, 1), (32, .iload_n 2, 1), (33, .aload_n 0, 1), (34, .iconst 1, 1), (35, .invokevirtual 91, 3), (38, .if_icmp .le 6, 3), (41, .bipush (-9), 2), (43, .ireturn, 1), (44, .aload_n 0, 1), (45, .getfield 25, 3), (48, .iload_n 1, 1), (49, .aaload, 1), (50, .iconst 1, 1), (51, .putfield 67, 3), (54, .aload_n 0, 1), (55, .getfield 25, 3), (58, .iload_n 1, 1), (59, .aaload, 1), (60, .iload_n 2, 1), (61, .putfield 190, 3), (64, .aload_n 0, 1), (65, .getfield 25, 3), (68, .iload_n 1, 1), (69, .aaload, 1)]
theorem vq_cX6_stand_0 : vl_ok cX6_stand vl_cX6_stand_0 = true := by decide +kernel
theorem dX6_stand_0 : decode cX6_stand 0 = .ok (.aload_n 0, 1) := vl_at vq_cX6_stand_0 (i := 0) rfl
theorem dX6_stand_1 : decode cX6_stand 1 = .ok (.iload_n 1, 1) := vl_at vq_cX6_stand_0 (i := 1) rfl
theorem dX6_stand_2 : decode cX6_stand 2 = .ok (.invokestatic 187, 3) := vl_at vq_cX6_stand_0 (i := 2) rfl
theorem dX6_stand_5 : decode cX6_stand 5 = .ok (.ifCond .ne 13, 3) := vl_at vq_cX6_stand_0 (i := 3) rfl
theorem dX6_stand_8 : decode cX6_stand 8 = .ok (.iload_n 2, 1) := vl_at vq_cX6_stand_0 (i := 4) rfl
theorem dX6_stand_9 : decode cX6_stand 9 = .ok (.iconst 0, 1) := vl_at vq_cX6_stand_0 (i := 5) rfl
theorem dX6_stand_10 : decode cX6_stand 10 = .ok (.bipush 20, 2) := vl_at vq_cX6_stand_0 (i := 6) rfl
theorem dX6_stand_12 : decode cX6_stand 12 = .ok (.invokestatic 44, 3) := vl_at vq_cX6_stand_0 (i := 7) rfl
theorem dX6_stand_15 : decode cX6_stand 15 = .ok (.ifCond .ne 7, 3) := vl_at vq_cX6_stand_0 (i := 8) rfl
theorem dX6_stand_18 : decode cX6_stand 18 = .ok (.iconst 1, 1) := vl_at vq_cX6_stand_0 (i := 9) rfl
theorem dX6_stand_19 : decode cX6_stand 19 = .ok (.goto 4, 3) := vl_at vq_cX6_stand_0 (i := 10) rfl
theorem dX6_stand_22 : decode cX6_stand 22 = .ok (.iconst 0, 1) := vl_at vq_cX6_stand_0 (i := 11) rfl
theorem dX6_stand_23 : decode cX6_stand 23 = .ok (.iconst 1, 1) := vl_at vq_cX6_stand_0 (i := 12) rfl
theorem dX6_stand_24 : decode cX6_stand 24 = .ok (.invokevirtual 110, 3) := vl_at vq_cX6_stand_0 (i := 13) rfl
theorem dX6_stand_27 : decode cX6_stand 27 = .ok (.ifCond .eq 5, 3) := vl_at vq_cX6_stand_0 (i := 14) rfl
theorem dX6_stand_30 : decode cX6_stand 30 = .ok (.iconst 0, 1) := vl_at vq_cX6_stand_0 (i := 15) rfl
theorem dX6_stand_31 : decode cX6_stand 31 = .ok (.ireturn, 1) := vl_at vq_cX6_stand_0 (i := 16) rfl
theorem dX6_stand_32 : decode cX6_stand 32 = .ok (.iload_n 2, 1) := vl_at vq_cX6_stand_0 (i := 17) rfl
theorem dX6_stand_33 : decode cX6_stand 33 = .ok (.aload_n 0, 1) := vl_at vq_cX6_stand_0 (i := 18) rfl
theorem dX6_stand_34 : decode cX6_stand 34 = .ok (.iconst 1, 1) := vl_at vq_cX6_stand_0 (i := 19) rfl
theorem dX6_stand_35 : decode cX6_stand 35 = .ok (.invokevirtual 91, 3) := vl_at vq_cX6_stand_0 (i := 20) rfl
theorem dX6_stand_38 : decode cX6_stand 38 = .ok (.if_icmp .le 6, 3) := vl_at vq_cX6_stand_0 (i := 21) rfl
theorem dX6_stand_41 : decode cX6_stand 41 = .ok (.bipush (-9), 2) := vl_at vq_cX6_stand_0 (i := 22) rfl
theorem dX6_stand_43 : decode cX6_stand 43 = .ok (.ireturn, 1) := vl_at vq_cX6_stand_0 (i := 23) rfl
theorem dX6_stand_44 : decode cX6_stand 44 = .ok (.aload_n 0, 1) := vl_at vq_cX6_stand_0 (i := 24) rfl
theorem dX6_stand_45 : decode cX6_stand 45 = .ok (.getfield 25, 3) := vl_at vq_cX6_stand_0 (i := 25) rfl
theorem dX6_stand_48 : decode cX6_stand 48 = .ok (.iload_n 1, 1) := vl_at vq_cX6_stand_0 (i := 26) rfl
theorem dX6_stand_49 : decode cX6_stand 49 = .ok (.aaload, 1) := vl_at vq_cX6_stand_0 (i := 27) rfl
theorem dX6_stand_50 : decode cX6_stand 50 = .ok (.iconst 1, 1) := vl_at vq_cX6_stand_0 (i := 28) rfl
theorem dX6_stand_51 : decode cX6_stand 51 = .ok (.putfield 67, 3) := vl_at vq_cX6_stand_0 (i := 29) rfl
theorem dX6_stand_54 : decode cX6_stand 54 = .ok (.aload_n 0, 1) := vl_at vq_cX6_stand_0 (i := 30) rfl
theorem dX6_stand_55 : decode cX6_stand 55 = .ok (.getfield 25, 3) := vl_at vq_cX6_stand_0 (i := 31) rfl
theorem dX6_stand_58 : decode cX6_stand 58 = .ok (.iload_n 1, 1) := vl_at vq_cX6_stand_0 (i := 32) rfl
theorem dX6_stand_59 : decode cX6_stand 59 = .ok (.aaload, 1) := vl_at vq_cX6_stand_0 (i := 33) rfl
theorem dX6_stand_60 : decode cX6_stand 60 = .ok (.iload_n 2, 1) := vl_at vq_cX6_stand_0 (i := 34) rfl
theorem dX6_stand_61 : decode cX6_stand 61 = .ok (.putfield 190, 3) := vl_at vq_cX6_stand_0 (i := 35) rfl
theorem dX6_stand_64 : decode cX6_stand 64 = .ok (.aload_n 0, 1) := vl_at vq_cX6_stand_0 (i := 36) rfl
theorem dX6_stand_65 : decode cX6_stand 65 = .ok (.getfield 25, 3) := vl_at vq_cX6_stand_0 (i := 37) rfl
theorem dX6_stand_68 : decode cX6_stand 68 = .ok (.iload_n 1, 1) := vl_at vq_cX6_stand_0 (i := 38) rfl
theorem dX6_stand_69 : decode cX6_stand 69 = .ok (.aaload, 1) := vl_at vq_cX6_stand_0 (i := 39) rfl
noncomputable def vl_cX6_stand_1 : List (Nat × Instr × Nat) := [(70, .iconst (-1), 1), (71, .putfield 193, 3), (74, .iload_n 2, 1), (75, .ireturn, 1)]
theorem vq_cX6_stand_1 : vl_ok cX6_stand vl_cX6_stand_1 = true := by decide +kernel
theorem dX6_stand_70 : decode cX6_stand 70 = .ok (.iconst (-1), 1) := vl_at vq_cX6_stand_1 (i := 0) rfl
theorem dX6_stand_71 : decode cX6_stand 71 = .ok (.putfield 193, 3) := vl_at vq_cX6_stand_1 (i := 1) rfl
theorem dX6_stand_74 : decode cX6_stand 74 = .ok (.iload_n 2, 1) := vl_at vq_cX6_stand_1 (i := 2) rfl
theorem dX6_stand_75 : decode cX6_stand 75 = .ok (.ireturn, 1) := vl_at vq_cX6_stand_1 (i := 3) rfl
noncomputable def vl_cX6_forth_0 : List (Nat × Instr × Nat) := [(0, .aload_n 0, 1), (1, .iload_n 1, 1), (2, .invokevirtual 194, 3), (5, .ifCond .eq 5, 3), (8, .iconst 0, 1), (9, .ireturn, 1), (10, .aload_n 0, 1), (11, .getfield 25, 3), (14, .iload_n 1, 1), (15, .aaload, 1), (16, .astore_n 2, 1), (17, .aload_n 2, 1), (18, .getfield 67, 3), (21, .iconst 2, 1), (22, .if_icmp .eq 15, 3), (25, .aload_n 2, 1), (26, .getfield 190, 3), (29, .aload_n 0, 1), (30, .iconst 1, 1), (31, .invokevirtual 91, 3), (34, .if_icmp .ne 6, 3), (37, .bipush (-9), 2), (39, .ireturn, 1), (40, .aload_n 2, 1), (41, .aload_n 2, 1), (42, .getfield 190, 3), (45, .putfield 193, 3), (48, .aload_n 2, 1), (49, .dup, 1), (50, .getfield 190, 3), (53, .iconst 1, 1), (54, .iadd, 1), (55, .putfield 190, 3), (58, .aload_n 0, 1), (59, .iconst 1, 1), (60, .aload_n 2, 1), (61, .getfield 193, 3), (64, .invokevirtual 131, 3), (67, .ireturn, 1)]
theorem vq_cX6_forth_0 : vl_ok cX6_forth vl_cX6_forth_0 = true := by decide +kernel
theorem dX6_forth_0 : decode cX6_forth 0 = .ok (.aload_n 0, 1) := vl_at vq_cX6_forth_0 (i := 0) rfl
theorem dX6_forth_1 : decode cX6_forth 1 = .ok (.iload_n 1, 1) := vl_at vq_cX6_forth_0 (i := 1) rfl
theorem dX6_forth_2 : decode cX6_forth 2 = .ok (.invokevirtual 194, 3) := vl_at vq_cX6_forth_0 (i := 2) rfl
theorem dX6_forth_5 : decode cX6_forth 5 = .ok (.ifCond .eq 5, 3) := vl_at vq_cX6_forth_0 (i := 3) rfl
theorem dX6_forth_8 : decode cX6_forth 8 = .ok (.iconst 0, 1) := vl_at vq_cX6_forth_0 (i := 4) rfl
theorem dX6_forth_9 : decode cX6_forth 9 = .ok (.ireturn, 1) := vl_at vq_cX6_forth_0 (i := 5) rfl
theorem dX6_forth_10 : decode cX6_forth 10 = .ok (.aload_n 0, 1) := vl_at vq_cX6_forth_0 (i := 6) rfl
theorem dX6_forth_11 : decode cX6_forth 11 = .ok (.getfield 25, 3) := vl_at vq_cX6_forth_0 (i := 7) rfl
theorem dX6_forth_14 : decode cX6_forth 14 = .ok (.iload_n 1, 1) := vl_at vq_cX6_forth_0 (i := 8) rfl
theorem dX6_forth_15 : decode cX6_forth 15 = .ok (.aaload, 1) := vl_at vq_cX6_forth_0 (i := 9) rfl
theorem dX6_forth_16 : decode cX6_forth 16 = .ok (.astore_n 2, 1) := vl_at vq_cX6_forth_0 (i := 10) rfl
theorem dX6_forth_17 : decode cX6_forth 17 = .ok (.aload_n 2, 1) := vl_at vq_cX6_forth_0 (i := 11) rfl
theorem dX6_forth_18 : decode cX6_forth 18 = .ok (.getfield 67, 3) := vl_at vq_cX6_forth_0 (i := 12) rfl
theorem dX6_forth_21 : decode cX6_forth 21 = .ok (.iconst 2, 1) := vl_at vq_cX6_forth_0 (i := 13) rfl
theorem dX6_forth_22 : decode cX6_forth 22 = .ok (.if_icmp .eq 15, 3) := vl_at vq_cX6_forth_0 (i := 14) rfl
theorem dX6_forth_25 : decode cX6_forth 25 = .ok (.aload_n 2, 1) := vl_at vq_cX6_forth_0 (i := 15) rfl
theorem dX6_forth_26 : decode cX6_forth 26 = .ok (.getfield 190, 3) := vl_at vq_cX6_forth_0 (i := 16) rfl
theorem dX6_forth_29 : decode cX6_forth 29 = .ok (.aload_n 0, 1) := vl_at vq_cX6_forth_0 (i := 17) rfl
theorem dX6_forth_30 : decode cX6_forth 30 = .ok (.iconst 1, 1) := vl_at vq_cX6_forth_0 (i := 18) rfl
theorem dX6_forth_31 : decode cX6_forth 31 = .ok (.invokevirtual 91, 3) := vl_at vq_cX6_forth_0 (i := 19) rfl
theorem dX6_forth_34 : decode cX6_forth 34 = .ok (.if_icmp .ne 6, 3) := vl_at vq_cX6_forth_0 (i := 20) rfl
theorem dX6_forth_37 : decode cX6_forth 37 = .ok (.bipush (-9), 2) := vl_at vq_cX6_forth_0 (i := 21) rfl
theorem dX6_forth_39 : decode cX6_forth 39 = .ok (.ireturn, 1) := vl_at vq_cX6_forth_0 (i := 22) rfl
theorem dX6_forth_40 : decode cX6_forth 40 = .ok (.aload_n 2, 1) := vl_at vq_cX6_forth_0 (i := 23) rfl
theorem dX6_forth_41 : decode cX6_forth 41 = .ok (.aload_n 2, 1) := vl_at vq_cX6_forth_0 (i := 24) rfl
theorem dX6_forth_42 : decode cX6_forth 42 = .ok (.getfield 190, 3) := vl_at vq_cX6_forth_0 (i := 25) rfl
theorem dX6_forth_45 : decode cX6_forth 45 = .ok (.putfield 193, 3) := vl_at vq_cX6_forth_0 (i := 26) rfl
theorem dX6_forth_48 : decode cX6_forth 48 = .ok (.aload_n 2, 1) := vl_at vq_cX6_forth_0 (i := 27) rfl
theorem dX6_forth_49 : decode cX6_forth 49 = .ok (.dup, 1) := vl_at vq_cX6_forth_0 (i := 28) rfl
theorem dX6_forth_50 : decode cX6_forth 50 = .ok (.getfield 190, 3) := vl_at vq_cX6_forth_0 (i := 29) rfl
theorem dX6_forth_53 : decode cX6_forth 53 = .ok (.iconst 1, 1) := vl_at vq_cX6_forth_0 (i := 30) rfl
theorem dX6_forth_54 : decode cX6_forth 54 = .ok (.iadd, 1) := vl_at vq_cX6_forth_0 (i := 31) rfl
theorem dX6_forth_55 : decode cX6_forth 55 = .ok (.putfield 190, 3) := vl_at vq_cX6_forth_0 (i := 32) rfl
theorem dX6_forth_58 : decode cX6_forth 58 = .ok (.aload_n 0, 1) := vl_at vq_cX6_forth_0 (i := 33) rfl
theorem dX6_forth_59 : decode cX6_forth 59 = .ok (.iconst 1, 1) := vl_at vq_cX6_forth_0 (i := 34) rfl
theorem dX6_forth_60 : decode cX6_forth 60 = .ok (.aload_n 2, 1) := vl_at vq_cX6_forth_0 (i := 35) rfl
theorem dX6_forth_61 : decode cX6_forth 61 = .ok (.getfield 193, 3) := vl_at vq_cX6_forth_0 (i := 36) rfl
theorem dX6_forth_64 : decode cX6_forth 64 = .ok (.invokevirtual 131, 3) := vl_at vq_cX6_forth_0 (i := 37) rfl
theorem dX6_forth_67 : decode cX6_forth 67 = .ok (.ireturn, 1) := vl_at vq_cX6_forth_0 (i := 38) rfl
noncomputable def vl_cX6_back_0 : List (Nat × Instr × Nat) := [(0, .aload_n 0, 1), (1, .iload_n 1, 1), (2, .invokevirtual 194, 3), (5, .ifCond .eq 5, 3), (8, .iconst 0, 1), (9, .ireturn, 1), (10, .aload_n 0, 1), (11, .getfield 25, 3), (14, .iload_n 1, 1), (15, .aaload, 1), (16, .astore_n 2, 1), (17, .aload_n 2, 1), (18, .getfield 67, 3), (21, .iconst 2, 1), (22, .if_icmp .eq 10, 3), (25, .aload_n 2, 1), (26, .getfield 190, 3), (29, .ifCond .ne 6, 3), (32, .bipush (-9), 2), (34, .ireturn, 1), (35, .aload_n 2, 1), (36, .dup, 1), (37, .getfield 190, 3), (40, .iconst 1, 1), (41, .isub, 1), (42, .putfield 190, 3), (45, .aload_n 2, 1), (46, .aload_n 2, 1), (47, .getfield 190, 3), (50, .putfield 193, 3), (53, .aload_n 0, 1), (54, .iconst 1, 1), (55, .aload_n 2, 1), (56, .getfield 193, 3), (59, .invokevirtual 131, 3), (62, .ireturn, 1)]
theorem vq_cX6_back_0 : vl_ok cX6_back vl_cX6_back_0 = true := by decide +kernel
theorem dX6_back_0 : decode cX6_back 0 = .ok (.aload_n 0, 1) := vl_at vq_cX6_back_0 (i := 0) rfl
theorem dX6_back_1 : decode cX6_back 1 = .ok (.iload_n 1, 1) := vl_at vq_cX6_back_0 (i := 1) rfl
theorem dX6_back_2 : decode cX6_back 2 = .ok (.invokevirtual 194, 3) := vl_at vq_cX6_back_0 (i := 2) rfl
theorem dX6_back_5 : decode cX6_back 5 = .ok (.ifCond .eq 5, 3) := vl_at vq_cX6_back_0 (i := 3) rfl
theorem dX6_back_8 : decode cX6_back 8 = .ok (.iconst 0, 1) := vl_at vq_cX6_back_0 (i := 4) rfl
theorem dX6_back_9 : decode cX6_back 9 = .ok (.ireturn, 1) := vl_at vq_cX6_back_0 (i := 5) rfl
theorem dX6_back_10 : decode cX6_back 10 = .ok (.aload_n 0, 1) := vl_at vq_cX6_back_0 (i := 6) rfl
theorem dX6_back_11 : decode cX6_back 11 = .ok (.getfield 25, 3) := vl_at vq_cX6_back_0 (i := 7) rfl
theorem dX6_back_14 : decode cX6_back 14 = .ok (.iload_n 1, 1) := vl_at vq_cX6_back_0 (i := 8) rfl
theorem dX6_back_15 : decode cX6_back 15 = .ok (.aaload, 1) := vl_at vq_cX6_back_0 (i := 9) rfl
theorem dX6_back_16 : decode cX6_back 16 = .ok (.astore_n 2, 1) := vl_at vq_cX6_back_0 (i := 10) rfl
theorem dX6_back_17 : decode cX6_back 17 = .ok (.aload_n 2, 1) := vl_at vq_cX6_back_0 (i := 11) rfl
theorem dX6_back_18 : decode cX6_back 18 = .ok (.getfield 67, 3) := vl_at vq_cX6_back_0 (i := 12) rfl
theorem dX6_back_21 : decode cX6_back 21 = .ok (.iconst 2, 1) := vl_at vq_cX6_back_0 (i := 13) rfl
theorem dX6_back_22 : decode cX6_back 22 = .ok (.if_icmp .eq 10, 3) := vl_at vq_cX6_back_0 (i := 14) rfl
theorem dX6_back_25 : decode cX6_back 25 = .ok (.aload_n 2, 1) := vl_at vq_cX6_back_0 (i := 15) rfl
theorem dX6_back_26 : decode cX6_back 26 = .ok (.getfield 190, 3) := vl_at vq_cX6_back_0 (i := 16) rfl
theorem dX6_back_29 : decode cX6_back 29 = .ok (.ifCond .ne 6, 3) := vl_at vq_cX6_back_0 (i := 17) rfl
theorem dX6_back_32 : decode cX6_back 32 = .ok (.bipush (-9), 2) := vl_at vq_cX6_back_0 (i := 18) rfl
theorem dX6_back_34 : decode cX6_back 34 = .ok (.ireturn, 1) := vl_at vq_cX6_back_0 (i := 19) rfl
theorem dX6_back_35 : decode cX6_back 35 = .ok (.aload_n 2, 1) := vl_at vq_cX6_back_0 (i := 20) rfl
theorem dX6_back_36 : decode cX6_back 36 = .ok (.dup, 1) := vl_at vq_cX6_back_0 (i := 21) rfl
theorem dX6_back_37 : decode cX6_back 37 = .ok (.getfield 190, 3) := vl_at vq_cX6_back_0 (i := 22) rfl
theorem dX6_back_40 : decode cX6_back 40 = .ok (.iconst 1, 1) := vl_at vq_cX6_back_0 (i := 23) rfl
theorem dX6_back_41 : decode cX6_back 41 = .ok (.isub, 1) := vl_at vq_cX6_back_0 (i := 24) rfl
theorem dX6_back_42 : decode cX6_back 42 = .ok (.putfield 190, 3) := vl_at vq_cX6_back_0 (i := 25) rfl
theorem dX6_back_45 : decode cX6_back 45 = .ok (.aload_n 2, 1) := vl_at vq_cX6_back_0 (i := 26) rfl
theorem dX6_back_46 : decode cX6_back 46 = .ok (.aload_n 2, 1) := vl_at vq_cX6_back_0 (i := 27) rfl
theorem dX6_back_47 : decode cX6_back 47 = .ok (.getfield 190, 3) := vl_at vq_cX6_back_0 (i := 28) rfl
theorem dX6_back_50 : decode cX6_back 50 = .ok (.putfield 193, 3) := vl_at vq_cX6_back_0 (i := 29) rfl
theorem dX6_back_53 : decode cX6_back 53 = .ok (.aload_n 0, 1) := vl_at vq_cX6_back_0 (i := 30) rfl
theorem dX6_back_54 : decode cX6_back 54 = .ok (.iconst 1, 1) := vl_at vq_cX6_back_0 (i := 31) rfl
theorem dX6_back_55 : decode cX6_back 55 = .ok (.aload_n 2, 1) := vl_at vq_cX6_back_0 (i := 32) rfl
theorem dX6_back_56 : decode cX6_back 56 = .ok (.getfield 193, 3) := vl_at vq_cX6_back_0 (i := 33) rfl
theorem dX6_back_59 : decode cX6_back 59 = .ok (.invokevirtual 131, 3) := vl_at vq_cX6_back_0 (i := 34) rfl
theorem dX6_back_62 : decode cX6_back 62 = .ok (.ireturn, 1) := vl_at vq_cX6_back_0 (i := 35) rfl
noncomputable def vl_cX6_takeHeld_0 : List (Nat × Instr × Nat) := [(0, .aload_n 0, 1), (1, .iload_n 1, 1), (2, .invokevirtual 194, 3), (5, .ifCond .eq 5, 3), (8, .iconst 0, 1), (9, .ireturn, 1), (10, .aload_n 0, 1), (11, .getfield 25, 3), (14, .iload_n 1, 1), (15, .aaload, 1), (16, .astore_n 2, 1), (17, .aload_n 2, 1), (18, .getfield 67, 3), (21, .iconst 2, 1), (22, .if_icmp .eq 11, 3), (25, .aload_n 2, 1), (26, .getfield 193, 3), (29, .iconst (-1), 1), (30, .if_icmp .ne 6, 3), (33, .bipush (-9), 2), (35, .ireturn, 1), (36, .aload_n 0, 1), (37, .getfield 10, 3), (40, .iconst 1, 1), (41, .invokevirtual 48, 3), (44, .checkcast 7, 3), (47, .aload_n 2, 1), (48, .getfield 193, 3), (51, .invokevirtual 81, 3), (54, .pop, 1), (55, .aload_n 2, 1), (56, .dup, 1), (57, .getfield 190, 3), (60, .aload_n 2, 1), (61, .getfield 193, 3), (64, .aload_n 2, 1), (65, .getfield 190, 3), (68, .if_icmp .ge 7, 3), (71, .iconst 1, 1), (72, .goto 4, 3)]
theorem vq_cX6_takeHeld_0 : vl_ok cX6_takeHeld vl_cX6_takeHeld_0 = true := by decide +kernel
theorem dX6_takeHeld_0 : decode cX6_takeHeld 0 = .ok (.aload_n 0, 1) := vl_at vq_cX6_takeHeld_0 (i := 0) rfl
theorem dX6_takeHeld_1 : decode cX6_takeHeld 1 = .ok (.iload_n 1, 1) := vl_at vq_cX6_takeHeld_0 (i := 1) rfl
theorem dX6_takeHeld_2 : decode cX6_takeHeld 2 = .ok (.invokevirtual 194, 3) := vl_at vq_cX6_takeHeld_0 (i := 2) rfl
theorem dX6_takeHeld_5 : decode cX6_takeHeld 5 = .ok (.ifCond .eq 5, 3) := vl_at vq_cX6_takeHeld_0 (i := 3) rfl
theorem dX6_takeHeld_8 : decode cX6_takeHeld 8 = .ok (.iconst 0, 1) := vl_at vq_cX6_takeHeld_0 (i := 4) rfl
theorem dX6_takeHeld_9 : decode cX6_takeHeld 9 = .ok (.ireturn, 1) := vl_at vq_cX6_takeHeld_0 (i := 5) rfl
theorem dX6_takeHeld_10 : decode cX6_takeHeld 10 = .ok (.aload_n 0, 1) := vl_at vq_cX6_takeHeld_0 (i := 6) rfl
theorem dX6_takeHeld_11 : decode cX6_takeHeld 11 = .ok (.getfield 25, 3) := vl_at vq_cX6_takeHeld_0 (i := 7) rfl
theorem dX6_takeHeld_14 : decode cX6_takeHeld 14 = .ok (.iload_n 1, 1) := vl_at vq_cX6_takeHeld_0 (i := 8) rfl
theorem dX6_takeHeld_15 : decode cX6_takeHeld 15 = .ok (.aaload, 1) := vl_at vq_cX6_takeHeld_0 (i := 9) rfl
theorem dX6_takeHeld_16 : decode cX6_takeHeld 16 = .ok (.astore_n 2, 1) := vl_at vq_cX6_takeHeld_0 (i := 10) rfl
theorem dX6_takeHeld_17 : decode cX6_takeHeld 17 = .ok (.aload_n 2, 1) := vl_at vq_cX6_takeHeld_0 (i := 11) rfl
theorem dX6_takeHeld_18 : decode cX6_takeHeld 18 = .ok (.getfield 67, 3) := vl_at vq_cX6_takeHeld_0 (i := 12) rfl
theorem dX6_takeHeld_21 : decode cX6_takeHeld 21 = .ok (.iconst 2, 1) := vl_at vq_cX6_takeHeld_0 (i := 13) rfl
theorem dX6_takeHeld_22 : decode cX6_takeHeld 22 = .ok (.if_icmp .eq 11, 3) := vl_at vq_cX6_takeHeld_0 (i := 14) rfl
theorem dX6_takeHeld_25 : decode cX6_takeHeld 25 = .ok (.aload_n 2, 1) := vl_at vq_cX6_takeHeld_0 (i := 15) rfl
theorem dX6_takeHeld_26 : decode cX6_takeHeld 26 = .ok (.getfield 193, 3) := vl_at vq_cX6_takeHeld_0 (i := 16) rfl
theorem dX6_takeHeld_29 : decode cX6_takeHeld 29 = .ok (.iconst (-1), 1) := vl_at vq_cX6_takeHeld_0 (i := 17) rfl
theorem dX6_takeHeld_30 : decode cX6_takeHeld 30 = .ok (.if_icmp .ne 6, 3) := vl_at vq_cX6_takeHeld_0 (i := 18) rfl
theorem dX6_takeHeld_33 : decode cX6_takeHeld 33 = .ok (.bipush (-9), 2) := vl_at vq_cX6_takeHeld_0 (i := 19) rfl
theorem dX6_takeHeld_35 : decode cX6_takeHeld 35 = .ok (.ireturn, 1) := vl_at vq_cX6_takeHeld_0 (i := 20) rfl
theorem dX6_takeHeld_36 : decode cX6_takeHeld 36 = .ok (.aload_n 0, 1) := vl_at vq_cX6_takeHeld_0 (i := 21) rfl
theorem dX6_takeHeld_37 : decode cX6_takeHeld 37 = .ok (.getfield 10, 3) := vl_at vq_cX6_takeHeld_0 (i := 22) rfl
theorem dX6_takeHeld_40 : decode cX6_takeHeld 40 = .ok (.iconst 1, 1) := vl_at vq_cX6_takeHeld_0 (i := 23) rfl
theorem dX6_takeHeld_41 : decode cX6_takeHeld 41 = .ok (.invokevirtual 48, 3) := vl_at vq_cX6_takeHeld_0 (i := 24) rfl
theorem dX6_takeHeld_44 : decode cX6_takeHeld 44 = .ok (.checkcast 7, 3) := vl_at vq_cX6_takeHeld_0 (i := 25) rfl
theorem dX6_takeHeld_47 : decode cX6_takeHeld 47 = .ok (.aload_n 2, 1) := vl_at vq_cX6_takeHeld_0 (i := 26) rfl
theorem dX6_takeHeld_48 : decode cX6_takeHeld 48 = .ok (.getfield 193, 3) := vl_at vq_cX6_takeHeld_0 (i := 27) rfl
theorem dX6_takeHeld_51 : decode cX6_takeHeld 51 = .ok (.invokevirtual 81, 3) := vl_at vq_cX6_takeHeld_0 (i := 28) rfl
theorem dX6_takeHeld_54 : decode cX6_takeHeld 54 = .ok (.pop, 1) := vl_at vq_cX6_takeHeld_0 (i := 29) rfl
theorem dX6_takeHeld_55 : decode cX6_takeHeld 55 = .ok (.aload_n 2, 1) := vl_at vq_cX6_takeHeld_0 (i := 30) rfl
theorem dX6_takeHeld_56 : decode cX6_takeHeld 56 = .ok (.dup, 1) := vl_at vq_cX6_takeHeld_0 (i := 31) rfl
theorem dX6_takeHeld_57 : decode cX6_takeHeld 57 = .ok (.getfield 190, 3) := vl_at vq_cX6_takeHeld_0 (i := 32) rfl
theorem dX6_takeHeld_60 : decode cX6_takeHeld 60 = .ok (.aload_n 2, 1) := vl_at vq_cX6_takeHeld_0 (i := 33) rfl
theorem dX6_takeHeld_61 : decode cX6_takeHeld 61 = .ok (.getfield 193, 3) := vl_at vq_cX6_takeHeld_0 (i := 34) rfl
theorem dX6_takeHeld_64 : decode cX6_takeHeld 64 = .ok (.aload_n 2, 1) := vl_at vq_cX6_takeHeld_0 (i := 35) rfl
theorem dX6_takeHeld_65 : decode cX6_takeHeld 65 = .ok (.getfield 190, 3) := vl_at vq_cX6_takeHeld_0 (i := 36) rfl
theorem dX6_takeHeld_68 : decode cX6_takeHeld 68 = .ok (.if_icmp .ge 7, 3) := vl_at vq_cX6_takeHeld_0 (i := 37) rfl
theorem dX6_takeHeld_71 : decode cX6_takeHeld 71 = .ok (.iconst 1, 1) := vl_at vq_cX6_takeHeld_0 (i := 38) rfl
theorem dX6_takeHeld_72 : decode cX6_takeHeld 72 = .ok (.goto 4, 3) := vl_at vq_cX6_takeHeld_0 (i := 39) rfl
noncomputable def vl_cX6_takeHeld_1 : List (Nat × Instr × Nat) := [(75, .iconst 0, 1), (76, .invokestatic 87, 3), (79, .isub, 1), (80, .putfield 190, 3), (83, .aload_n 2, 1), (84, .iconst (-1), 1), (85, .putfield 193, 3), (88, .aload_n 0, 1), (89, .iconst 1, 1), (90, .iload_n 1, 1), (91, .invokevirtual 77, 3), (94, .aload_n 0, 1), (95, .invokevirtual 164, 3), (98, .aload_n 2, 1), (99, .getfield 190, 3), (102, .ireturn, 1)]
theorem vq_cX6_takeHeld_1 : vl_ok cX6_takeHeld vl_cX6_takeHeld_1 = true := by decide +kernel
theorem dX6_takeHeld_75 : decode cX6_takeHeld 75 = .ok (.iconst 0, 1) := vl_at vq_cX6_takeHeld_1 (i := 0) rfl
theorem dX6_takeHeld_76 : decode cX6_takeHeld 76 = .ok (.invokestatic 87, 3) := vl_at vq_cX6_takeHeld_1 (i := 1) rfl
theorem dX6_takeHeld_79 : decode cX6_takeHeld 79 = .ok (.isub, 1) := vl_at vq_cX6_takeHeld_1 (i := 2) rfl
theorem dX6_takeHeld_80 : decode cX6_takeHeld 80 = .ok (.putfield 190, 3) := vl_at vq_cX6_takeHeld_1 (i := 3) rfl
theorem dX6_takeHeld_83 : decode cX6_takeHeld 83 = .ok (.aload_n 2, 1) := vl_at vq_cX6_takeHeld_1 (i := 4) rfl
theorem dX6_takeHeld_84 : decode cX6_takeHeld 84 = .ok (.iconst (-1), 1) := vl_at vq_cX6_takeHeld_1 (i := 5) rfl
theorem dX6_takeHeld_85 : decode cX6_takeHeld 85 = .ok (.putfield 193, 3) := vl_at vq_cX6_takeHeld_1 (i := 6) rfl
theorem dX6_takeHeld_88 : decode cX6_takeHeld 88 = .ok (.aload_n 0, 1) := vl_at vq_cX6_takeHeld_1 (i := 7) rfl
theorem dX6_takeHeld_89 : decode cX6_takeHeld 89 = .ok (.iconst 1, 1) := vl_at vq_cX6_takeHeld_1 (i := 8) rfl
theorem dX6_takeHeld_90 : decode cX6_takeHeld 90 = .ok (.iload_n 1, 1) := vl_at vq_cX6_takeHeld_1 (i := 9) rfl
theorem dX6_takeHeld_91 : decode cX6_takeHeld 91 = .ok (.invokevirtual 77, 3) := vl_at vq_cX6_takeHeld_1 (i := 10) rfl
theorem dX6_takeHeld_94 : decode cX6_takeHeld 94 = .ok (.aload_n 0, 1) := vl_at vq_cX6_takeHeld_1 (i := 11) rfl
theorem dX6_takeHeld_95 : decode cX6_takeHeld 95 = .ok (.invokevirtual 164, 3) := vl_at vq_cX6_takeHeld_1 (i := 12) rfl
theorem dX6_takeHeld_98 : decode cX6_takeHeld 98 = .ok (.aload_n 2, 1) := vl_at vq_cX6_takeHeld_1 (i := 13) rfl
theorem dX6_takeHeld_99 : decode cX6_takeHeld 99 = .ok (.getfield 190, 3) := vl_at vq_cX6_takeHeld_1 (i := 14) rfl
theorem dX6_takeHeld_102 : decode cX6_takeHeld 102 = .ok (.ireturn, 1) := vl_at vq_cX6_takeHeld_1 (i := 15) rfl
noncomputable def vl_cX6_setHeld_0 : List (Nat × Instr × Nat) := [(0, .aload_n 0, 1), (1, .iload_n 1, 1), (2, .invokestatic 187, 3), (5, .iconst 1, 1), (6, .invokevirtual 110, 3), (9, .ifCond .ne 41, 3), (12, .aload_n 0, 1), (13, .iload_n 2, 1), (14, .iload_n 3, 1), (15, .invokestatic 113, 3), (18, .iconst 2, 1), (19, .invokevirtual 40, 3), (22, .ifCond .ne 28, 3), (25, .aload_n 0, 1), (26, .aload_n 0, 1), (27, .getfield 25, 3), (30, .iload_n 1, 1), (31, .aaload, 1), (32, .getfield 67, 3), (35, .ifCond .ne 7, 3), (38, .iconst 1, 1), (39, .goto 4, 3), (42, .iconst 0, 1), (43, .iconst 3, 1), (44, .invokevirtual 40, 3), (47, .ifCond .eq 5, 3), (50, .iconst 0, 1), (51, .ireturn, 1), (52, .aload_n 0, 1), (53, .getfield 25, 3), (56, .iload_n 1, 1), (57, .aaload, 1), (58, .astore 4, 2), (60, .aload 4, 2), (62, .getfield 67, 3), (65, .iconst 2, 1), (66, .if_icmp .eq 12, 3), (69, .aload 4, 2), (71, .getfield 193, 3), (74, .iconst (-1), 1)]
theorem vq_cX6_setHeld_0 : vl_ok cX6_setHeld vl_cX6_setHeld_0 = true := by decide +kernel
theorem dX6_setHeld_0 : decode cX6_setHeld 0 = .ok (.aload_n 0, 1) := vl_at vq_cX6_setHeld_0 (i := 0) rfl
theorem dX6_setHeld_1 : decode cX6_setHeld 1 = .ok (.iload_n 1, 1) := vl_at vq_cX6_setHeld_0 (i := 1) rfl
theorem dX6_setHeld_2 : decode cX6_setHeld 2 = .ok (.invokestatic 187, 3) := vl_at vq_cX6_setHeld_0 (i := 2) rfl
theorem dX6_setHeld_5 : decode cX6_setHeld 5 = .ok (.iconst 1, 1) := vl_at vq_cX6_setHeld_0 (i := 3) rfl
theorem dX6_setHeld_6 : decode cX6_setHeld 6 = .ok (.invokevirtual 110, 3) := vl_at vq_cX6_setHeld_0 (i := 4) rfl
theorem dX6_setHeld_9 : decode cX6_setHeld 9 = .ok (.ifCond .ne 41, 3) := vl_at vq_cX6_setHeld_0 (i := 5) rfl
theorem dX6_setHeld_12 : decode cX6_setHeld 12 = .ok (.aload_n 0, 1) := vl_at vq_cX6_setHeld_0 (i := 6) rfl
theorem dX6_setHeld_13 : decode cX6_setHeld 13 = .ok (.iload_n 2, 1) := vl_at vq_cX6_setHeld_0 (i := 7) rfl
theorem dX6_setHeld_14 : decode cX6_setHeld 14 = .ok (.iload_n 3, 1) := vl_at vq_cX6_setHeld_0 (i := 8) rfl
theorem dX6_setHeld_15 : decode cX6_setHeld 15 = .ok (.invokestatic 113, 3) := vl_at vq_cX6_setHeld_0 (i := 9) rfl
theorem dX6_setHeld_18 : decode cX6_setHeld 18 = .ok (.iconst 2, 1) := vl_at vq_cX6_setHeld_0 (i := 10) rfl
theorem dX6_setHeld_19 : decode cX6_setHeld 19 = .ok (.invokevirtual 40, 3) := vl_at vq_cX6_setHeld_0 (i := 11) rfl
theorem dX6_setHeld_22 : decode cX6_setHeld 22 = .ok (.ifCond .ne 28, 3) := vl_at vq_cX6_setHeld_0 (i := 12) rfl
theorem dX6_setHeld_25 : decode cX6_setHeld 25 = .ok (.aload_n 0, 1) := vl_at vq_cX6_setHeld_0 (i := 13) rfl
theorem dX6_setHeld_26 : decode cX6_setHeld 26 = .ok (.aload_n 0, 1) := vl_at vq_cX6_setHeld_0 (i := 14) rfl
theorem dX6_setHeld_27 : decode cX6_setHeld 27 = .ok (.getfield 25, 3) := vl_at vq_cX6_setHeld_0 (i := 15) rfl
theorem dX6_setHeld_30 : decode cX6_setHeld 30 = .ok (.iload_n 1, 1) := vl_at vq_cX6_setHeld_0 (i := 16) rfl
theorem dX6_setHeld_31 : decode cX6_setHeld 31 = .ok (.aaload, 1) := vl_at vq_cX6_setHeld_0 (i := 17) rfl
theorem dX6_setHeld_32 : decode cX6_setHeld 32 = .ok (.getfield 67, 3) := vl_at vq_cX6_setHeld_0 (i := 18) rfl
theorem dX6_setHeld_35 : decode cX6_setHeld 35 = .ok (.ifCond .ne 7, 3) := vl_at vq_cX6_setHeld_0 (i := 19) rfl
theorem dX6_setHeld_38 : decode cX6_setHeld 38 = .ok (.iconst 1, 1) := vl_at vq_cX6_setHeld_0 (i := 20) rfl
theorem dX6_setHeld_39 : decode cX6_setHeld 39 = .ok (.goto 4, 3) := vl_at vq_cX6_setHeld_0 (i := 21) rfl
theorem dX6_setHeld_42 : decode cX6_setHeld 42 = .ok (.iconst 0, 1) := vl_at vq_cX6_setHeld_0 (i := 22) rfl
theorem dX6_setHeld_43 : decode cX6_setHeld 43 = .ok (.iconst 3, 1) := vl_at vq_cX6_setHeld_0 (i := 23) rfl
theorem dX6_setHeld_44 : decode cX6_setHeld 44 = .ok (.invokevirtual 40, 3) := vl_at vq_cX6_setHeld_0 (i := 24) rfl
theorem dX6_setHeld_47 : decode cX6_setHeld 47 = .ok (.ifCond .eq 5, 3) := vl_at vq_cX6_setHeld_0 (i := 25) rfl
theorem dX6_setHeld_50 : decode cX6_setHeld 50 = .ok (.iconst 0, 1) := vl_at vq_cX6_setHeld_0 (i := 26) rfl
theorem dX6_setHeld_51 : decode cX6_setHeld 51 = .ok (.ireturn, 1) := vl_at vq_cX6_setHeld_0 (i := 27) rfl
theorem dX6_setHeld_52 : decode cX6_setHeld 52 = .ok (.aload_n 0, 1) := vl_at vq_cX6_setHeld_0 (i := 28) rfl
theorem dX6_setHeld_53 : decode cX6_setHeld 53 = .ok (.getfield 25, 3) := vl_at vq_cX6_setHeld_0 (i := 29) rfl
theorem dX6_setHeld_56 : decode cX6_setHeld 56 = .ok (.iload_n 1, 1) := vl_at vq_cX6_setHeld_0 (i := 30) rfl
theorem dX6_setHeld_57 : decode cX6_setHeld 57 = .ok (.aaload, 1) := vl_at vq_cX6_setHeld_0 (i := 31) rfl
theorem dX6_setHeld_58 : decode cX6_setHeld 58 = .ok (.astore 4, 2) := vl_at vq_cX6_setHeld_0 (i := 32) rfl
theorem dX6_setHeld_60 : decode cX6_setHeld 60 = .ok (.aload 4, 2) := vl_at vq_cX6_setHeld_0 (i := 33) rfl
theorem dX6_setHeld_62 : decode cX6_setHeld 62 = .ok (.getfield 67, 3) := vl_at vq_cX6_setHeld_0 (i := 34) rfl
theorem dX6_setHeld_65 : decode cX6_setHeld 65 = .ok (.iconst 2, 1) := vl_at vq_cX6_setHeld_0 (i := 35) rfl
theorem dX6_setHeld_66 : decode cX6_setHeld 66 = .ok (.if_icmp .eq 12, 3) := vl_at vq_cX6_setHeld_0 (i := 36) rfl
theorem dX6_setHeld_69 : decode cX6_setHeld 69 = .ok (.aload 4, 2) := vl_at vq_cX6_setHeld_0 (i := 37) rfl
theorem dX6_setHeld_71 : decode cX6_setHeld 71 = .ok (.getfield 193, 3) := vl_at vq_cX6_setHeld_0 (i := 38) rfl
theorem dX6_setHeld_74 : decode cX6_setHeld 74 = .ok (.iconst (-1), 1) := vl_at vq_cX6_setHeld_0 (i := 39) rfl
noncomputable def vl_cX6_setHeld_1 : List (Nat × Instr × Nat) := [(75, .if_icmp .ne 6, 3), (78, .bipush (-9), 2), (80, .ireturn, 1), (81, .aload_n 0, 1), (82, .getfield 10, 3), (85, .iconst 1, 1), (86, .invokevirtual 48, 3), (89, .checkcast 7, 3), (92, .aload 4, 2), (94, .getfield 193, 3), (97, .iload_n 2, 1), (98, .iload_n 3, 1), (99, .invokestatic 121, 3), (102, .invokestatic 70, 3), (105, .invokevirtual 180, 3), (108, .pop, 1), (109, .aload_n 0, 1), (110, .invokevirtual 164, 3), (113, .aload 4, 2), (115, .getfield 190, 3), (118, .ireturn, 1)]
theorem vq_cX6_setHeld_1 : vl_ok cX6_setHeld vl_cX6_setHeld_1 = true := by decide +kernel
theorem dX6_setHeld_75 : decode cX6_setHeld 75 = .ok (.if_icmp .ne 6, 3) := vl_at vq_cX6_setHeld_1 (i := 0) rfl
theorem dX6_setHeld_78 : decode cX6_setHeld 78 = .ok (.bipush (-9), 2) := vl_at vq_cX6_setHeld_1 (i := 1) rfl
theorem dX6_setHeld_80 : decode cX6_setHeld 80 = .ok (.ireturn, 1) := vl_at vq_cX6_setHeld_1 (i := 2) rfl
theorem dX6_setHeld_81 : decode cX6_setHeld 81 = .ok (.aload_n 0, 1) := vl_at vq_cX6_setHeld_1 (i := 3) rfl
theorem dX6_setHeld_82 : decode cX6_setHeld 82 = .ok (.getfield 10, 3) := vl_at vq_cX6_setHeld_1 (i := 4) rfl
theorem dX6_setHeld_85 : decode cX6_setHeld 85 = .ok (.iconst 1, 1) := vl_at vq_cX6_setHeld_1 (i := 5) rfl
theorem dX6_setHeld_86 : decode cX6_setHeld 86 = .ok (.invokevirtual 48, 3) := vl_at vq_cX6_setHeld_1 (i := 6) rfl
theorem dX6_setHeld_89 : decode cX6_setHeld 89 = .ok (.checkcast 7, 3) := vl_at vq_cX6_setHeld_1 (i := 7) rfl
theorem dX6_setHeld_92 : decode cX6_setHeld 92 = .ok (.aload 4, 2) := vl_at vq_cX6_setHeld_1 (i := 8) rfl
theorem dX6_setHeld_94 : decode cX6_setHeld 94 = .ok (.getfield 193, 3) := vl_at vq_cX6_setHeld_1 (i := 9) rfl
theorem dX6_setHeld_97 : decode cX6_setHeld 97 = .ok (.iload_n 2, 1) := vl_at vq_cX6_setHeld_1 (i := 10) rfl
theorem dX6_setHeld_98 : decode cX6_setHeld 98 = .ok (.iload_n 3, 1) := vl_at vq_cX6_setHeld_1 (i := 11) rfl
theorem dX6_setHeld_99 : decode cX6_setHeld 99 = .ok (.invokestatic 121, 3) := vl_at vq_cX6_setHeld_1 (i := 12) rfl
theorem dX6_setHeld_102 : decode cX6_setHeld 102 = .ok (.invokestatic 70, 3) := vl_at vq_cX6_setHeld_1 (i := 13) rfl
theorem dX6_setHeld_105 : decode cX6_setHeld 105 = .ok (.invokevirtual 180, 3) := vl_at vq_cX6_setHeld_1 (i := 14) rfl
theorem dX6_setHeld_108 : decode cX6_setHeld 108 = .ok (.pop, 1) := vl_at vq_cX6_setHeld_1 (i := 15) rfl
theorem dX6_setHeld_109 : decode cX6_setHeld 109 = .ok (.aload_n 0, 1) := vl_at vq_cX6_setHeld_1 (i := 16) rfl
theorem dX6_setHeld_110 : decode cX6_setHeld 110 = .ok (.invokevirtual 164, 3) := vl_at vq_cX6_setHeld_1 (i := 17) rfl
theorem dX6_setHeld_113 : decode cX6_setHeld 113 = .ok (.aload 4, 2) := vl_at vq_cX6_setHeld_1 (i := 18) rfl
theorem dX6_setHeld_115 : decode cX6_setHeld 115 = .ok (.getfield 190, 3) := vl_at vq_cX6_setHeld_1 (i := 19) rfl
theorem dX6_setHeld_118 : decode cX6_setHeld 118 = .ok (.ireturn, 1) := vl_at vq_cX6_setHeld_1 (i := 20) rfl
noncomputable def vl_cX6_put_0 : List (Nat × Instr × Nat) := [(0, .aload_n 0, 1), (1, .iload_n 1, 1), (2, .invokestatic 187, 3), (5, .iconst 1, 1), (6, .invokevirtual 110, 3), (9, .ifCond .ne 51, 3), (12, .aload_n 0, 1), (13, .iload_n 2, 1), (14, .iload_n 3, 1), (15, .invokestatic 113, 3), (18, .iconst 2, 1), (19, .invokevirtual 40, 3), (22, .ifCond .ne 38, 3), (25, .aload_n 0, 1), (26, .aload_n 0, 1), (27, .getfield 25, 3), (30, .iload_n 1, 1), (31, .aaload, 1), (32, .getfield 67, 3), (35, .ifCond .eq 13, 3), (38, .aload_n 0, 1), (39, .iconst 1, 1), (40, .invokevirtual 91, 3), (43, .bipush 20, 2), (45, .if_icmp .ne 7, 3), (48, .iconst 1, 1), (49, .goto 4, 3), (52, .iconst 0, 1), (53, .iconst 3, 1), (54, .invokevirtual 40, 3), (57, .ifCond .eq 5, 3), (60, .iconst 0, 1), (61, .ireturn, 1), (62, .aload_n 0, 1), (63, .getfield 25, 3), (66, .iload_n 1, 1), (67, .aaload, 1), (68, .astore 4, 2), (70, .aload 4, 2), (72, .getfield 67, 3)]
theorem vq_cX6_put_0 : vl_ok cX6_put vl_cX6_put_0 = true := by decide +kernel
theorem dX6_put_0 : decode cX6_put 0 = .ok (.aload_n 0, 1) := vl_at vq_cX6_put_0 (i := 0) rfl
theorem dX6_put_1 : decode cX6_put 1 = .ok (.iload_n 1, 1) := vl_at vq_cX6_put_0 (i := 1) rfl
theorem dX6_put_2 : decode cX6_put 2 = .ok (.invokestatic 187, 3) := vl_at vq_cX6_put_0 (i := 2) rfl
theorem dX6_put_5 : decode cX6_put 5 = .ok (.iconst 1, 1) := vl_at vq_cX6_put_0 (i := 3) rfl
theorem dX6_put_6 : decode cX6_put 6 = .ok (.invokevirtual 110, 3) := vl_at vq_cX6_put_0 (i := 4) rfl
theorem dX6_put_9 : decode cX6_put 9 = .ok (.ifCond .ne 51, 3) := vl_at vq_cX6_put_0 (i := 5) rfl
theorem dX6_put_12 : decode cX6_put 12 = .ok (.aload_n 0, 1) := vl_at vq_cX6_put_0 (i := 6) rfl
theorem dX6_put_13 : decode cX6_put 13 = .ok (.iload_n 2, 1) := vl_at vq_cX6_put_0 (i := 7) rfl
theorem dX6_put_14 : decode cX6_put 14 = .ok (.iload_n 3, 1) := vl_at vq_cX6_put_0 (i := 8) rfl
theorem dX6_put_15 : decode cX6_put 15 = .ok (.invokestatic 113, 3) := vl_at vq_cX6_put_0 (i := 9) rfl
theorem dX6_put_18 : decode cX6_put 18 = .ok (.iconst 2, 1) := vl_at vq_cX6_put_0 (i := 10) rfl
theorem dX6_put_19 : decode cX6_put 19 = .ok (.invokevirtual 40, 3) := vl_at vq_cX6_put_0 (i := 11) rfl
theorem dX6_put_22 : decode cX6_put 22 = .ok (.ifCond .ne 38, 3) := vl_at vq_cX6_put_0 (i := 12) rfl
theorem dX6_put_25 : decode cX6_put 25 = .ok (.aload_n 0, 1) := vl_at vq_cX6_put_0 (i := 13) rfl
theorem dX6_put_26 : decode cX6_put 26 = .ok (.aload_n 0, 1) := vl_at vq_cX6_put_0 (i := 14) rfl
theorem dX6_put_27 : decode cX6_put 27 = .ok (.getfield 25, 3) := vl_at vq_cX6_put_0 (i := 15) rfl
theorem dX6_put_30 : decode cX6_put 30 = .ok (.iload_n 1, 1) := vl_at vq_cX6_put_0 (i := 16) rfl
theorem dX6_put_31 : decode cX6_put 31 = .ok (.aaload, 1) := vl_at vq_cX6_put_0 (i := 17) rfl
theorem dX6_put_32 : decode cX6_put 32 = .ok (.getfield 67, 3) := vl_at vq_cX6_put_0 (i := 18) rfl
theorem dX6_put_35 : decode cX6_put 35 = .ok (.ifCond .eq 13, 3) := vl_at vq_cX6_put_0 (i := 19) rfl
theorem dX6_put_38 : decode cX6_put 38 = .ok (.aload_n 0, 1) := vl_at vq_cX6_put_0 (i := 20) rfl
theorem dX6_put_39 : decode cX6_put 39 = .ok (.iconst 1, 1) := vl_at vq_cX6_put_0 (i := 21) rfl
theorem dX6_put_40 : decode cX6_put 40 = .ok (.invokevirtual 91, 3) := vl_at vq_cX6_put_0 (i := 22) rfl
theorem dX6_put_43 : decode cX6_put 43 = .ok (.bipush 20, 2) := vl_at vq_cX6_put_0 (i := 23) rfl
theorem dX6_put_45 : decode cX6_put 45 = .ok (.if_icmp .ne 7, 3) := vl_at vq_cX6_put_0 (i := 24) rfl
theorem dX6_put_48 : decode cX6_put 48 = .ok (.iconst 1, 1) := vl_at vq_cX6_put_0 (i := 25) rfl
theorem dX6_put_49 : decode cX6_put 49 = .ok (.goto 4, 3) := vl_at vq_cX6_put_0 (i := 26) rfl
theorem dX6_put_52 : decode cX6_put 52 = .ok (.iconst 0, 1) := vl_at vq_cX6_put_0 (i := 27) rfl
theorem dX6_put_53 : decode cX6_put 53 = .ok (.iconst 3, 1) := vl_at vq_cX6_put_0 (i := 28) rfl
theorem dX6_put_54 : decode cX6_put 54 = .ok (.invokevirtual 40, 3) := vl_at vq_cX6_put_0 (i := 29) rfl
theorem dX6_put_57 : decode cX6_put 57 = .ok (.ifCond .eq 5, 3) := vl_at vq_cX6_put_0 (i := 30) rfl
theorem dX6_put_60 : decode cX6_put 60 = .ok (.iconst 0, 1) := vl_at vq_cX6_put_0 (i := 31) rfl
theorem dX6_put_61 : decode cX6_put 61 = .ok (.ireturn, 1) := vl_at vq_cX6_put_0 (i := 32) rfl
theorem dX6_put_62 : decode cX6_put 62 = .ok (.aload_n 0, 1) := vl_at vq_cX6_put_0 (i := 33) rfl
theorem dX6_put_63 : decode cX6_put 63 = .ok (.getfield 25, 3) := vl_at vq_cX6_put_0 (i := 34) rfl
theorem dX6_put_66 : decode cX6_put 66 = .ok (.iload_n 1, 1) := vl_at vq_cX6_put_0 (i := 35) rfl
theorem dX6_put_67 : decode cX6_put 67 = .ok (.aaload, 1) := vl_at vq_cX6_put_0 (i := 36) rfl
theorem dX6_put_68 : decode cX6_put 68 = .ok (.astore 4, 2) := vl_at vq_cX6_put_0 (i := 37) rfl
theorem dX6_put_70 : decode cX6_put 70 = .ok (.aload 4, 2) := vl_at vq_cX6_put_0 (i := 38) rfl
theorem dX6_put_72 : decode cX6_put 72 = .ok (.getfield 67, 3) := vl_at vq_cX6_put_0 (i := 39) rfl
noncomputable def vl_cX6_put_1 : List (Nat × Instr × Nat) := [(75, .iconst 2, 1), (76, .if_icmp .ne 6, 3), (79, .bipush (-9), 2), (81, .ireturn, 1), (82, .aload_n 0, 1), (83, .getfield 10, 3), (86, .iconst 1, 1), (87, .invokevirtual 48, 3), (90, .checkcast 7, 3), (93, .aload 4, 2), (95, .getfield 190, 3), (98, .iload_n 2, 1), (99, .iload_n 3, 1), (100, .invokestatic 121, 3), (103, .invokestatic 70, 3), (106, .invokevirtual 74, 3), (109, .aload 4, 2), (111, .dup, 1), (112, .getfield 190, 3), (115, .iconst 1, 1), (116, .iadd, 1), (117, .putfield 190, 3), (120, .aload 4, 2), (122, .iconst (-1), 1), (123, .putfield 193, 3), (126, .aload_n 0, 1), (127, .iconst 1, 1), (128, .iload_n 1, 1), (129, .invokevirtual 77, 3), (132, .aload_n 0, 1), (133, .invokevirtual 164, 3), (136, .aload 4, 2), (138, .getfield 190, 3), (141, .ireturn, 1)]
theorem vq_cX6_put_1 : vl_ok cX6_put vl_cX6_put_1 = true := by decide +kernel
theorem dX6_put_75 : decode cX6_put 75 = .ok (.iconst 2, 1) := vl_at vq_cX6_put_1 (i := 0) rfl
theorem dX6_put_76 : decode cX6_put 76 = .ok (.if_icmp .ne 6, 3) := vl_at vq_cX6_put_1 (i := 1) rfl
theorem dX6_put_79 : decode cX6_put 79 = .ok (.bipush (-9), 2) := vl_at vq_cX6_put_1 (i := 2) rfl
theorem dX6_put_81 : decode cX6_put 81 = .ok (.ireturn, 1) := vl_at vq_cX6_put_1 (i := 3) rfl
theorem dX6_put_82 : decode cX6_put 82 = .ok (.aload_n 0, 1) := vl_at vq_cX6_put_1 (i := 4) rfl
theorem dX6_put_83 : decode cX6_put 83 = .ok (.getfield 10, 3) := vl_at vq_cX6_put_1 (i := 5) rfl
theorem dX6_put_86 : decode cX6_put 86 = .ok (.iconst 1, 1) := vl_at vq_cX6_put_1 (i := 6) rfl
theorem dX6_put_87 : decode cX6_put 87 = .ok (.invokevirtual 48, 3) := vl_at vq_cX6_put_1 (i := 7) rfl
theorem dX6_put_90 : decode cX6_put 90 = .ok (.checkcast 7, 3) := vl_at vq_cX6_put_1 (i := 8) rfl
theorem dX6_put_93 : decode cX6_put 93 = .ok (.aload 4, 2) := vl_at vq_cX6_put_1 (i := 9) rfl
theorem dX6_put_95 : decode cX6_put 95 = .ok (.getfield 190, 3) := vl_at vq_cX6_put_1 (i := 10) rfl
theorem dX6_put_98 : decode cX6_put 98 = .ok (.iload_n 2, 1) := vl_at vq_cX6_put_1 (i := 11) rfl
theorem dX6_put_99 : decode cX6_put 99 = .ok (.iload_n 3, 1) := vl_at vq_cX6_put_1 (i := 12) rfl
theorem dX6_put_100 : decode cX6_put 100 = .ok (.invokestatic 121, 3) := vl_at vq_cX6_put_1 (i := 13) rfl
theorem dX6_put_103 : decode cX6_put 103 = .ok (.invokestatic 70, 3) := vl_at vq_cX6_put_1 (i := 14) rfl
theorem dX6_put_106 : decode cX6_put 106 = .ok (.invokevirtual 74, 3) := vl_at vq_cX6_put_1 (i := 15) rfl
theorem dX6_put_109 : decode cX6_put 109 = .ok (.aload 4, 2) := vl_at vq_cX6_put_1 (i := 16) rfl
theorem dX6_put_111 : decode cX6_put 111 = .ok (.dup, 1) := vl_at vq_cX6_put_1 (i := 17) rfl
theorem dX6_put_112 : decode cX6_put 112 = .ok (.getfield 190, 3) := vl_at vq_cX6_put_1 (i := 18) rfl
theorem dX6_put_115 : decode cX6_put 115 = .ok (.iconst 1, 1) := vl_at vq_cX6_put_1 (i := 19) rfl
theorem dX6_put_116 : decode cX6_put 116 = .ok (.iadd, 1) := vl_at vq_cX6_put_1 (i := 20) rfl
theorem dX6_put_117 : decode cX6_put 117 = .ok (.putfield 190, 3) := vl_at vq_cX6_put_1 (i := 21) rfl
theorem dX6_put_120 : decode cX6_put 120 = .ok (.aload 4, 2) := vl_at vq_cX6_put_1 (i := 22) rfl
theorem dX6_put_122 : decode cX6_put 122 = .ok (.iconst (-1), 1) := vl_at vq_cX6_put_1 (i := 23) rfl
theorem dX6_put_123 : decode cX6_put 123 = .ok (.putfield 193, 3) := vl_at vq_cX6_put_1 (i := 24) rfl
theorem dX6_put_126 : decode cX6_put 126 = .ok (.aload_n 0, 1) := vl_at vq_cX6_put_1 (i := 25) rfl
theorem dX6_put_127 : decode cX6_put 127 = .ok (.iconst 1, 1) := vl_at vq_cX6_put_1 (i := 26) rfl
theorem dX6_put_128 : decode cX6_put 128 = .ok (.iload_n 1, 1) := vl_at vq_cX6_put_1 (i := 27) rfl
theorem dX6_put_129 : decode cX6_put 129 = .ok (.invokevirtual 77, 3) := vl_at vq_cX6_put_1 (i := 28) rfl
theorem dX6_put_132 : decode cX6_put 132 = .ok (.aload_n 0, 1) := vl_at vq_cX6_put_1 (i := 29) rfl
theorem dX6_put_133 : decode cX6_put 133 = .ok (.invokevirtual 164, 3) := vl_at vq_cX6_put_1 (i := 30) rfl
theorem dX6_put_136 : decode cX6_put 136 = .ok (.aload 4, 2) := vl_at vq_cX6_put_1 (i := 31) rfl
theorem dX6_put_138 : decode cX6_put 138 = .ok (.getfield 190, 3) := vl_at vq_cX6_put_1 (i := 32) rfl
theorem dX6_put_141 : decode cX6_put 141 = .ok (.ireturn, 1) := vl_at vq_cX6_put_1 (i := 33) rfl
noncomputable def vl_cX6_whereNow_0 : List (Nat × Instr × Nat) := [(0, .aload_n 0, 1), (1, .getfield 25, 3), (4, .iload_n 1, 1), (5, .aaload, 1), (6, .astore_n 3, 1), (7, .iconst 5, 1), (8, .newarray .int, 2), (10, .dup, 1), (11, .iconst 0, 1), (12, .aload_n 3, 1), (13, .getfield 67, 3), (16, .iastore, 1), (17, .dup, 1), (18, .iconst 1, 1), (19, .aload_n 3, 1), (20, .getfield 190, 3), (23, .iastore, 1), (24, .dup, 1), (25, .iconst 2, 1), (26, .aload_n 3, 1), (27, .getfield 190, 3), (30, .iconst 1, 1), (31, .isub, 1), (32, .iastore, 1), (33, .dup, 1), (34, .iconst 3, 1), (35, .aload_n 3, 1), (36, .getfield 190, 3), (39, .aload_n 0, 1), (40, .iconst 1, 1), (41, .invokevirtual 91, 3), (44, .if_icmp .ge 7, 3), (47, .iconst 1, 1), (48, .goto 4, 3), (51, .iconst 0, 1), (52, .invokestatic 87, 3), (55, .iastore, 1), (56, .dup, 1), (57, .iconst 4, 1), (58, .aload_n 3, 1)]
theorem vq_cX6_whereNow_0 : vl_ok cX6_whereNow vl_cX6_whereNow_0 = true := by decide +kernel
theorem dX6_whereNow_0 : decode cX6_whereNow 0 = .ok (.aload_n 0, 1) := vl_at vq_cX6_whereNow_0 (i := 0) rfl
theorem dX6_whereNow_1 : decode cX6_whereNow 1 = .ok (.getfield 25, 3) := vl_at vq_cX6_whereNow_0 (i := 1) rfl
theorem dX6_whereNow_4 : decode cX6_whereNow 4 = .ok (.iload_n 1, 1) := vl_at vq_cX6_whereNow_0 (i := 2) rfl
theorem dX6_whereNow_5 : decode cX6_whereNow 5 = .ok (.aaload, 1) := vl_at vq_cX6_whereNow_0 (i := 3) rfl
theorem dX6_whereNow_6 : decode cX6_whereNow 6 = .ok (.astore_n 3, 1) := vl_at vq_cX6_whereNow_0 (i := 4) rfl
theorem dX6_whereNow_7 : decode cX6_whereNow 7 = .ok (.iconst 5, 1) := vl_at vq_cX6_whereNow_0 (i := 5) rfl
theorem dX6_whereNow_8 : decode cX6_whereNow 8 = .ok (.newarray .int, 2) := vl_at vq_cX6_whereNow_0 (i := 6) rfl
theorem dX6_whereNow_10 : decode cX6_whereNow 10 = .ok (.dup, 1) := vl_at vq_cX6_whereNow_0 (i := 7) rfl
theorem dX6_whereNow_11 : decode cX6_whereNow 11 = .ok (.iconst 0, 1) := vl_at vq_cX6_whereNow_0 (i := 8) rfl
theorem dX6_whereNow_12 : decode cX6_whereNow 12 = .ok (.aload_n 3, 1) := vl_at vq_cX6_whereNow_0 (i := 9) rfl
theorem dX6_whereNow_13 : decode cX6_whereNow 13 = .ok (.getfield 67, 3) := vl_at vq_cX6_whereNow_0 (i := 10) rfl
theorem dX6_whereNow_16 : decode cX6_whereNow 16 = .ok (.iastore, 1) := vl_at vq_cX6_whereNow_0 (i := 11) rfl
theorem dX6_whereNow_17 : decode cX6_whereNow 17 = .ok (.dup, 1) := vl_at vq_cX6_whereNow_0 (i := 12) rfl
theorem dX6_whereNow_18 : decode cX6_whereNow 18 = .ok (.iconst 1, 1) := vl_at vq_cX6_whereNow_0 (i := 13) rfl
theorem dX6_whereNow_19 : decode cX6_whereNow 19 = .ok (.aload_n 3, 1) := vl_at vq_cX6_whereNow_0 (i := 14) rfl
theorem dX6_whereNow_20 : decode cX6_whereNow 20 = .ok (.getfield 190, 3) := vl_at vq_cX6_whereNow_0 (i := 15) rfl
theorem dX6_whereNow_23 : decode cX6_whereNow 23 = .ok (.iastore, 1) := vl_at vq_cX6_whereNow_0 (i := 16) rfl
theorem dX6_whereNow_24 : decode cX6_whereNow 24 = .ok (.dup, 1) := vl_at vq_cX6_whereNow_0 (i := 17) rfl
theorem dX6_whereNow_25 : decode cX6_whereNow 25 = .ok (.iconst 2, 1) := vl_at vq_cX6_whereNow_0 (i := 18) rfl
theorem dX6_whereNow_26 : decode cX6_whereNow 26 = .ok (.aload_n 3, 1) := vl_at vq_cX6_whereNow_0 (i := 19) rfl
theorem dX6_whereNow_27 : decode cX6_whereNow 27 = .ok (.getfield 190, 3) := vl_at vq_cX6_whereNow_0 (i := 20) rfl
theorem dX6_whereNow_30 : decode cX6_whereNow 30 = .ok (.iconst 1, 1) := vl_at vq_cX6_whereNow_0 (i := 21) rfl
theorem dX6_whereNow_31 : decode cX6_whereNow 31 = .ok (.isub, 1) := vl_at vq_cX6_whereNow_0 (i := 22) rfl
theorem dX6_whereNow_32 : decode cX6_whereNow 32 = .ok (.iastore, 1) := vl_at vq_cX6_whereNow_0 (i := 23) rfl
theorem dX6_whereNow_33 : decode cX6_whereNow 33 = .ok (.dup, 1) := vl_at vq_cX6_whereNow_0 (i := 24) rfl
theorem dX6_whereNow_34 : decode cX6_whereNow 34 = .ok (.iconst 3, 1) := vl_at vq_cX6_whereNow_0 (i := 25) rfl
theorem dX6_whereNow_35 : decode cX6_whereNow 35 = .ok (.aload_n 3, 1) := vl_at vq_cX6_whereNow_0 (i := 26) rfl
theorem dX6_whereNow_36 : decode cX6_whereNow 36 = .ok (.getfield 190, 3) := vl_at vq_cX6_whereNow_0 (i := 27) rfl
theorem dX6_whereNow_39 : decode cX6_whereNow 39 = .ok (.aload_n 0, 1) := vl_at vq_cX6_whereNow_0 (i := 28) rfl
theorem dX6_whereNow_40 : decode cX6_whereNow 40 = .ok (.iconst 1, 1) := vl_at vq_cX6_whereNow_0 (i := 29) rfl
theorem dX6_whereNow_41 : decode cX6_whereNow 41 = .ok (.invokevirtual 91, 3) := vl_at vq_cX6_whereNow_0 (i := 30) rfl
theorem dX6_whereNow_44 : decode cX6_whereNow 44 = .ok (.if_icmp .ge 7, 3) := vl_at vq_cX6_whereNow_0 (i := 31) rfl
theorem dX6_whereNow_47 : decode cX6_whereNow 47 = .ok (.iconst 1, 1) := vl_at vq_cX6_whereNow_0 (i := 32) rfl
theorem dX6_whereNow_48 : decode cX6_whereNow 48 = .ok (.goto 4, 3) := vl_at vq_cX6_whereNow_0 (i := 33) rfl
theorem dX6_whereNow_51 : decode cX6_whereNow 51 = .ok (.iconst 0, 1) := vl_at vq_cX6_whereNow_0 (i := 34) rfl
theorem dX6_whereNow_52 : decode cX6_whereNow 52 = .ok (.invokestatic 87, 3) := vl_at vq_cX6_whereNow_0 (i := 35) rfl
theorem dX6_whereNow_55 : decode cX6_whereNow 55 = .ok (.iastore, 1) := vl_at vq_cX6_whereNow_0 (i := 36) rfl
theorem dX6_whereNow_56 : decode cX6_whereNow 56 = .ok (.dup, 1) := vl_at vq_cX6_whereNow_0 (i := 37) rfl
theorem dX6_whereNow_57 : decode cX6_whereNow 57 = .ok (.iconst 4, 1) := vl_at vq_cX6_whereNow_0 (i := 38) rfl
theorem dX6_whereNow_58 : decode cX6_whereNow 58 = .ok (.aload_n 3, 1) := vl_at vq_cX6_whereNow_0 (i := 39) rfl
noncomputable def vl_cX6_whereNow_1 : List (Nat × Instr × Nat) := [(59, .getfield 190, 3), (62, .ifCond .le 7, 3), (65, .iconst 1, 1), (66, .goto 4, 3), (69, .iconst 0, 1), (70, .invokestatic 87, 3), (73, .iastore, 1), (74, .astore 4, 2), (76, .aload 4, 2), (78, .iload_n 2, 1), (79, .iaload, 1), (80, .ireturn, 1)]
theorem vq_cX6_whereNow_1 : vl_ok cX6_whereNow vl_cX6_whereNow_1 = true := by decide +kernel
theorem dX6_whereNow_59 : decode cX6_whereNow 59 = .ok (.getfield 190, 3) := vl_at vq_cX6_whereNow_1 (i := 0) rfl
theorem dX6_whereNow_62 : decode cX6_whereNow 62 = .ok (.ifCond .le 7, 3) := vl_at vq_cX6_whereNow_1 (i := 1) rfl
theorem dX6_whereNow_65 : decode cX6_whereNow 65 = .ok (.iconst 1, 1) := vl_at vq_cX6_whereNow_1 (i := 2) rfl
theorem dX6_whereNow_66 : decode cX6_whereNow 66 = .ok (.goto 4, 3) := vl_at vq_cX6_whereNow_1 (i := 3) rfl
theorem dX6_whereNow_69 : decode cX6_whereNow 69 = .ok (.iconst 0, 1) := vl_at vq_cX6_whereNow_1 (i := 4) rfl
theorem dX6_whereNow_70 : decode cX6_whereNow 70 = .ok (.invokestatic 87, 3) := vl_at vq_cX6_whereNow_1 (i := 5) rfl
theorem dX6_whereNow_73 : decode cX6_whereNow 73 = .ok (.iastore, 1) := vl_at vq_cX6_whereNow_1 (i := 6) rfl
theorem dX6_whereNow_74 : decode cX6_whereNow 74 = .ok (.astore 4, 2) := vl_at vq_cX6_whereNow_1 (i := 7) rfl
theorem dX6_whereNow_76 : decode cX6_whereNow 76 = .ok (.aload 4, 2) := vl_at vq_cX6_whereNow_1 (i := 8) rfl
theorem dX6_whereNow_78 : decode cX6_whereNow 78 = .ok (.iload_n 2, 1) := vl_at vq_cX6_whereNow_1 (i := 9) rfl
theorem dX6_whereNow_79 : decode cX6_whereNow 79 = .ok (.iaload, 1) := vl_at vq_cX6_whereNow_1 (i := 10) rfl
theorem dX6_whereNow_80 : decode cX6_whereNow 80 = .ok (.ireturn, 1) := vl_at vq_cX6_whereNow_1 (i := 11) rfl
noncomputable def vl_cX6_where_0 : List (Nat × Instr × Nat) := [(0, .aload_n 0, 1), (1, .iload_n 1, 1), (2, .invokestatic 187, 3), (5, .iconst 1, 1), (6, .invokevirtual 110, 3), (9, .ifCond .ne 55, 3), (12, .aload_n 0, 1), (13, .iload_n 2, 1), (14, .iconst 0, 1), (15, .iconst 4, 1), (16, .invokestatic 44, 3), (19, .ifCond .ne 7, 3), (22, .iconst 1, 1), (23, .goto 4, 3), (26, .iconst 0, 1), (27, .iconst 2, 1), (28, .invokevirtual 40, 3), (31, .ifCond .ne 33, 3), (34, .aload_n 0, 1), (35, .iload_n 2, 1), (36, .ifCond .le 20, 3), (39, .aload_n 0, 1), (40, .getfield 25, 3), (43, .iload_n 1, 1), (44, .aaload, 1), (45, .getfield 67, 3), (48, .iconst 1, 1), (49, .if_icmp .eq 7, 3), (52, .iconst 1, 1), (53, .goto 4, 3), (56, .iconst 0, 1), (57, .iconst 3, 1), (58, .invokevirtual 40, 3), (61, .ifCond .eq 7, 3), (64, .iconst 0, 1), (65, .goto 9, 3), (68, .aload_n 0, 1), (69, .iload_n 1, 1), (70, .iload_n 2, 1), (71, .invokevirtual 197, 3)]
theorem vq_cX6_where_0 : vl_ok cX6_where vl_cX6_where_0 = true := by decide +kernel
theorem dX6_where_0 : decode cX6_where 0 = .ok (.aload_n 0, 1) := vl_at vq_cX6_where_0 (i := 0) rfl
theorem dX6_where_1 : decode cX6_where 1 = .ok (.iload_n 1, 1) := vl_at vq_cX6_where_0 (i := 1) rfl
theorem dX6_where_2 : decode cX6_where 2 = .ok (.invokestatic 187, 3) := vl_at vq_cX6_where_0 (i := 2) rfl
theorem dX6_where_5 : decode cX6_where 5 = .ok (.iconst 1, 1) := vl_at vq_cX6_where_0 (i := 3) rfl
theorem dX6_where_6 : decode cX6_where 6 = .ok (.invokevirtual 110, 3) := vl_at vq_cX6_where_0 (i := 4) rfl
theorem dX6_where_9 : decode cX6_where 9 = .ok (.ifCond .ne 55, 3) := vl_at vq_cX6_where_0 (i := 5) rfl
theorem dX6_where_12 : decode cX6_where 12 = .ok (.aload_n 0, 1) := vl_at vq_cX6_where_0 (i := 6) rfl
theorem dX6_where_13 : decode cX6_where 13 = .ok (.iload_n 2, 1) := vl_at vq_cX6_where_0 (i := 7) rfl
theorem dX6_where_14 : decode cX6_where 14 = .ok (.iconst 0, 1) := vl_at vq_cX6_where_0 (i := 8) rfl
theorem dX6_where_15 : decode cX6_where 15 = .ok (.iconst 4, 1) := vl_at vq_cX6_where_0 (i := 9) rfl
theorem dX6_where_16 : decode cX6_where 16 = .ok (.invokestatic 44, 3) := vl_at vq_cX6_where_0 (i := 10) rfl
theorem dX6_where_19 : decode cX6_where 19 = .ok (.ifCond .ne 7, 3) := vl_at vq_cX6_where_0 (i := 11) rfl
theorem dX6_where_22 : decode cX6_where 22 = .ok (.iconst 1, 1) := vl_at vq_cX6_where_0 (i := 12) rfl
theorem dX6_where_23 : decode cX6_where 23 = .ok (.goto 4, 3) := vl_at vq_cX6_where_0 (i := 13) rfl
theorem dX6_where_26 : decode cX6_where 26 = .ok (.iconst 0, 1) := vl_at vq_cX6_where_0 (i := 14) rfl
theorem dX6_where_27 : decode cX6_where 27 = .ok (.iconst 2, 1) := vl_at vq_cX6_where_0 (i := 15) rfl
theorem dX6_where_28 : decode cX6_where 28 = .ok (.invokevirtual 40, 3) := vl_at vq_cX6_where_0 (i := 16) rfl
theorem dX6_where_31 : decode cX6_where 31 = .ok (.ifCond .ne 33, 3) := vl_at vq_cX6_where_0 (i := 17) rfl
theorem dX6_where_34 : decode cX6_where 34 = .ok (.aload_n 0, 1) := vl_at vq_cX6_where_0 (i := 18) rfl
theorem dX6_where_35 : decode cX6_where 35 = .ok (.iload_n 2, 1) := vl_at vq_cX6_where_0 (i := 19) rfl
theorem dX6_where_36 : decode cX6_where 36 = .ok (.ifCond .le 20, 3) := vl_at vq_cX6_where_0 (i := 20) rfl
theorem dX6_where_39 : decode cX6_where 39 = .ok (.aload_n 0, 1) := vl_at vq_cX6_where_0 (i := 21) rfl
theorem dX6_where_40 : decode cX6_where 40 = .ok (.getfield 25, 3) := vl_at vq_cX6_where_0 (i := 22) rfl
theorem dX6_where_43 : decode cX6_where 43 = .ok (.iload_n 1, 1) := vl_at vq_cX6_where_0 (i := 23) rfl
theorem dX6_where_44 : decode cX6_where 44 = .ok (.aaload, 1) := vl_at vq_cX6_where_0 (i := 24) rfl
theorem dX6_where_45 : decode cX6_where 45 = .ok (.getfield 67, 3) := vl_at vq_cX6_where_0 (i := 25) rfl
theorem dX6_where_48 : decode cX6_where 48 = .ok (.iconst 1, 1) := vl_at vq_cX6_where_0 (i := 26) rfl
theorem dX6_where_49 : decode cX6_where 49 = .ok (.if_icmp .eq 7, 3) := vl_at vq_cX6_where_0 (i := 27) rfl
theorem dX6_where_52 : decode cX6_where 52 = .ok (.iconst 1, 1) := vl_at vq_cX6_where_0 (i := 28) rfl
theorem dX6_where_53 : decode cX6_where 53 = .ok (.goto 4, 3) := vl_at vq_cX6_where_0 (i := 29) rfl
theorem dX6_where_56 : decode cX6_where 56 = .ok (.iconst 0, 1) := vl_at vq_cX6_where_0 (i := 30) rfl
theorem dX6_where_57 : decode cX6_where 57 = .ok (.iconst 3, 1) := vl_at vq_cX6_where_0 (i := 31) rfl
theorem dX6_where_58 : decode cX6_where 58 = .ok (.invokevirtual 40, 3) := vl_at vq_cX6_where_0 (i := 32) rfl
theorem dX6_where_61 : decode cX6_where 61 = .ok (.ifCond .eq 7, 3) := vl_at vq_cX6_where_0 (i := 33) rfl
theorem dX6_where_64 : decode cX6_where 64 = .ok (.iconst 0, 1) := vl_at vq_cX6_where_0 (i := 34) rfl
theorem dX6_where_65 : decode cX6_where 65 = .ok (.goto 9, 3) := vl_at vq_cX6_where_0 (i := 35) rfl
theorem dX6_where_68 : decode cX6_where 68 = .ok (.aload_n 0, 1) := vl_at vq_cX6_where_0 (i := 36) rfl
theorem dX6_where_69 : decode cX6_where 69 = .ok (.iload_n 1, 1) := vl_at vq_cX6_where_0 (i := 37) rfl
theorem dX6_where_70 : decode cX6_where 70 = .ok (.iload_n 2, 1) := vl_at vq_cX6_where_0 (i := 38) rfl
theorem dX6_where_71 : decode cX6_where 71 = .ok (.invokevirtual 197, 3) := vl_at vq_cX6_where_0 (i := 39) rfl
noncomputable def vl_cX6_where_1 : List (Nat × Instr × Nat) := [(74, .ireturn, 1)]
theorem vq_cX6_where_1 : vl_ok cX6_where vl_cX6_where_1 = true := by decide +kernel
theorem dX6_where_74 : decode cX6_where 74 = .ok (.ireturn, 1) := vl_at vq_cX6_where_1 (i := 0) rfl
noncomputable def vl_cX6_order_0 : List (Nat × Instr × Nat) := [(0, .aload_n 0, 1), (1, .iload_n 1, 1), (2, .iconst 0, 1), (3, .bipush 7, 2), (5, .invokestatic 44, 3), (8, .ifCond .ne 7, 3), (11, .iconst 1, 1), (12, .goto 4, 3), (15, .iconst 0, 1), (16, .iconst 1, 1), (17, .invokevirtual 110, 3), (20, .ifCond .ne 28, 3), (23, .aload_n 0, 1), (24, .aload_n 0, 1), (25, .getfield 19, 3), (28, .invokevirtual 52, 3), (31, .bipush 10, 2), (33, .if_icmp .ne 7, 3), (36, .iconst 1, 1), (37, .goto 4, 3), (40, .iconst 0, 1), (41, .iconst 2, 1), (42, .invokevirtual 40, 3), (45, .ifCond .eq 5, 3), (48, .iconst 0, 1), (49, .ireturn, 1), (50, .aload_n 0, 1), (51, .getfield 19, 3), (54, .iload_n 1, 1), (55, .invokestatic 70, 3), (58, .invokevirtual 33, 3), (61, .pop, 1), (62, .aload_n 0, 1), (63, .getfield 19, 3), (66, .invokevirtual 52, 3), (69, .ireturn, 1)]
theorem vq_cX6_order_0 : vl_ok cX6_order vl_cX6_order_0 = true := by decide +kernel
theorem dX6_order_0 : decode cX6_order 0 = .ok (.aload_n 0, 1) := vl_at vq_cX6_order_0 (i := 0) rfl
theorem dX6_order_1 : decode cX6_order 1 = .ok (.iload_n 1, 1) := vl_at vq_cX6_order_0 (i := 1) rfl
theorem dX6_order_2 : decode cX6_order 2 = .ok (.iconst 0, 1) := vl_at vq_cX6_order_0 (i := 2) rfl
theorem dX6_order_3 : decode cX6_order 3 = .ok (.bipush 7, 2) := vl_at vq_cX6_order_0 (i := 3) rfl
theorem dX6_order_5 : decode cX6_order 5 = .ok (.invokestatic 44, 3) := vl_at vq_cX6_order_0 (i := 4) rfl
theorem dX6_order_8 : decode cX6_order 8 = .ok (.ifCond .ne 7, 3) := vl_at vq_cX6_order_0 (i := 5) rfl
theorem dX6_order_11 : decode cX6_order 11 = .ok (.iconst 1, 1) := vl_at vq_cX6_order_0 (i := 6) rfl
theorem dX6_order_12 : decode cX6_order 12 = .ok (.goto 4, 3) := vl_at vq_cX6_order_0 (i := 7) rfl
theorem dX6_order_15 : decode cX6_order 15 = .ok (.iconst 0, 1) := vl_at vq_cX6_order_0 (i := 8) rfl
theorem dX6_order_16 : decode cX6_order 16 = .ok (.iconst 1, 1) := vl_at vq_cX6_order_0 (i := 9) rfl
theorem dX6_order_17 : decode cX6_order 17 = .ok (.invokevirtual 110, 3) := vl_at vq_cX6_order_0 (i := 10) rfl
theorem dX6_order_20 : decode cX6_order 20 = .ok (.ifCond .ne 28, 3) := vl_at vq_cX6_order_0 (i := 11) rfl
theorem dX6_order_23 : decode cX6_order 23 = .ok (.aload_n 0, 1) := vl_at vq_cX6_order_0 (i := 12) rfl
theorem dX6_order_24 : decode cX6_order 24 = .ok (.aload_n 0, 1) := vl_at vq_cX6_order_0 (i := 13) rfl
theorem dX6_order_25 : decode cX6_order 25 = .ok (.getfield 19, 3) := vl_at vq_cX6_order_0 (i := 14) rfl
theorem dX6_order_28 : decode cX6_order 28 = .ok (.invokevirtual 52, 3) := vl_at vq_cX6_order_0 (i := 15) rfl
theorem dX6_order_31 : decode cX6_order 31 = .ok (.bipush 10, 2) := vl_at vq_cX6_order_0 (i := 16) rfl
theorem dX6_order_33 : decode cX6_order 33 = .ok (.if_icmp .ne 7, 3) := vl_at vq_cX6_order_0 (i := 17) rfl
theorem dX6_order_36 : decode cX6_order 36 = .ok (.iconst 1, 1) := vl_at vq_cX6_order_0 (i := 18) rfl
theorem dX6_order_37 : decode cX6_order 37 = .ok (.goto 4, 3) := vl_at vq_cX6_order_0 (i := 19) rfl
theorem dX6_order_40 : decode cX6_order 40 = .ok (.iconst 0, 1) := vl_at vq_cX6_order_0 (i := 20) rfl
theorem dX6_order_41 : decode cX6_order 41 = .ok (.iconst 2, 1) := vl_at vq_cX6_order_0 (i := 21) rfl
theorem dX6_order_42 : decode cX6_order 42 = .ok (.invokevirtual 40, 3) := vl_at vq_cX6_order_0 (i := 22) rfl
theorem dX6_order_45 : decode cX6_order 45 = .ok (.ifCond .eq 5, 3) := vl_at vq_cX6_order_0 (i := 23) rfl
theorem dX6_order_48 : decode cX6_order 48 = .ok (.iconst 0, 1) := vl_at vq_cX6_order_0 (i := 24) rfl
theorem dX6_order_49 : decode cX6_order 49 = .ok (.ireturn, 1) := vl_at vq_cX6_order_0 (i := 25) rfl
theorem dX6_order_50 : decode cX6_order 50 = .ok (.aload_n 0, 1) := vl_at vq_cX6_order_0 (i := 26) rfl
theorem dX6_order_51 : decode cX6_order 51 = .ok (.getfield 19, 3) := vl_at vq_cX6_order_0 (i := 27) rfl
theorem dX6_order_54 : decode cX6_order 54 = .ok (.iload_n 1, 1) := vl_at vq_cX6_order_0 (i := 28) rfl
theorem dX6_order_55 : decode cX6_order 55 = .ok (.invokestatic 70, 3) := vl_at vq_cX6_order_0 (i := 29) rfl
theorem dX6_order_58 : decode cX6_order 58 = .ok (.invokevirtual 33, 3) := vl_at vq_cX6_order_0 (i := 30) rfl
theorem dX6_order_61 : decode cX6_order 61 = .ok (.pop, 1) := vl_at vq_cX6_order_0 (i := 31) rfl
theorem dX6_order_62 : decode cX6_order 62 = .ok (.aload_n 0, 1) := vl_at vq_cX6_order_0 (i := 32) rfl
theorem dX6_order_63 : decode cX6_order 63 = .ok (.getfield 19, 3) := vl_at vq_cX6_order_0 (i := 33) rfl
theorem dX6_order_66 : decode cX6_order 66 = .ok (.invokevirtual 52, 3) := vl_at vq_cX6_order_0 (i := 34) rfl
theorem dX6_order_69 : decode cX6_order 69 = .ok (.ireturn, 1) := vl_at vq_cX6_order_0 (i := 35) rfl
noncomputable def vl_cX6_move_0 : List (Nat × Instr × Nat) := [(0, .iload_n 1, 1), (1, .iconst 4, 1), (2, .idiv, 1), (3, .istore_n 2, 1), (4, .iload_n 1, 1), (5, .iconst 2, 1), (6, .idiv, 1), (7, .iconst 2, 1), (8, .irem, 1), (9, .iconst 1, 1), (10, .if_icmp .ne 7, 3), (13, .iconst 1, 1), (14, .goto 4, 3), (17, .iconst 0, 1), (18, .istore_n 3, 1), (19, .aload_n 0, 1), (20, .iload_n 2, 1), (21, .invokevirtual 91, 3), (24, .ifCond .eq 44, 3), (27, .aload_n 0, 1), (28, .iconst 1, 1), (29, .iload_n 2, 1), (30, .isub, 1), (31, .invokevirtual 91, 3), (34, .bipush 20, 2), (36, .if_icmp .eq 32, 3), (39, .iconst 1, 1), (40, .iload_n 2, 1), (41, .isub, 1), (42, .aload_n 0, 1), (43, .iload_n 2, 1), (44, .iload_n 3, 1), (45, .ifCond .eq 13, 3), (48, .aload_n 0, 1), (49, .iload_n 2, 1), (50, .invokevirtual 91, 3), (53, .iconst 1, 1), (54, .isub, 1), (55, .goto 4, 3), (58, .iconst 0, 1)]
theorem vq_cX6_move_0 : vl_ok cX6_move vl_cX6_move_0 = true := by decide +kernel
theorem dX6_move_0 : decode cX6_move 0 = .ok (.iload_n 1, 1) := vl_at vq_cX6_move_0 (i := 0) rfl
theorem dX6_move_1 : decode cX6_move 1 = .ok (.iconst 4, 1) := vl_at vq_cX6_move_0 (i := 1) rfl
theorem dX6_move_2 : decode cX6_move 2 = .ok (.idiv, 1) := vl_at vq_cX6_move_0 (i := 2) rfl
theorem dX6_move_3 : decode cX6_move 3 = .ok (.istore_n 2, 1) := vl_at vq_cX6_move_0 (i := 3) rfl
theorem dX6_move_4 : decode cX6_move 4 = .ok (.iload_n 1, 1) := vl_at vq_cX6_move_0 (i := 4) rfl
theorem dX6_move_5 : decode cX6_move 5 = .ok (.iconst 2, 1) := vl_at vq_cX6_move_0 (i := 5) rfl
theorem dX6_move_6 : decode cX6_move 6 = .ok (.idiv, 1) := vl_at vq_cX6_move_0 (i := 6) rfl
theorem dX6_move_7 : decode cX6_move 7 = .ok (.iconst 2, 1) := vl_at vq_cX6_move_0 (i := 7) rfl
theorem dX6_move_8 : decode cX6_move 8 = .ok (.irem, 1) := vl_at vq_cX6_move_0 (i := 8) rfl
theorem dX6_move_9 : decode cX6_move 9 = .ok (.iconst 1, 1) := vl_at vq_cX6_move_0 (i := 9) rfl
theorem dX6_move_10 : decode cX6_move 10 = .ok (.if_icmp .ne 7, 3) := vl_at vq_cX6_move_0 (i := 10) rfl
theorem dX6_move_13 : decode cX6_move 13 = .ok (.iconst 1, 1) := vl_at vq_cX6_move_0 (i := 11) rfl
theorem dX6_move_14 : decode cX6_move 14 = .ok (.goto 4, 3) := vl_at vq_cX6_move_0 (i := 12) rfl
theorem dX6_move_17 : decode cX6_move 17 = .ok (.iconst 0, 1) := vl_at vq_cX6_move_0 (i := 13) rfl
theorem dX6_move_18 : decode cX6_move 18 = .ok (.istore_n 3, 1) := vl_at vq_cX6_move_0 (i := 14) rfl
theorem dX6_move_19 : decode cX6_move 19 = .ok (.aload_n 0, 1) := vl_at vq_cX6_move_0 (i := 15) rfl
theorem dX6_move_20 : decode cX6_move 20 = .ok (.iload_n 2, 1) := vl_at vq_cX6_move_0 (i := 16) rfl
theorem dX6_move_21 : decode cX6_move 21 = .ok (.invokevirtual 91, 3) := vl_at vq_cX6_move_0 (i := 17) rfl
theorem dX6_move_24 : decode cX6_move 24 = .ok (.ifCond .eq 44, 3) := vl_at vq_cX6_move_0 (i := 18) rfl
theorem dX6_move_27 : decode cX6_move 27 = .ok (.aload_n 0, 1) := vl_at vq_cX6_move_0 (i := 19) rfl
theorem dX6_move_28 : decode cX6_move 28 = .ok (.iconst 1, 1) := vl_at vq_cX6_move_0 (i := 20) rfl
theorem dX6_move_29 : decode cX6_move 29 = .ok (.iload_n 2, 1) := vl_at vq_cX6_move_0 (i := 21) rfl
theorem dX6_move_30 : decode cX6_move 30 = .ok (.isub, 1) := vl_at vq_cX6_move_0 (i := 22) rfl
theorem dX6_move_31 : decode cX6_move 31 = .ok (.invokevirtual 91, 3) := vl_at vq_cX6_move_0 (i := 23) rfl
theorem dX6_move_34 : decode cX6_move 34 = .ok (.bipush 20, 2) := vl_at vq_cX6_move_0 (i := 24) rfl
theorem dX6_move_36 : decode cX6_move 36 = .ok (.if_icmp .eq 32, 3) := vl_at vq_cX6_move_0 (i := 25) rfl
theorem dX6_move_39 : decode cX6_move 39 = .ok (.iconst 1, 1) := vl_at vq_cX6_move_0 (i := 26) rfl
theorem dX6_move_40 : decode cX6_move 40 = .ok (.iload_n 2, 1) := vl_at vq_cX6_move_0 (i := 27) rfl
theorem dX6_move_41 : decode cX6_move 41 = .ok (.isub, 1) := vl_at vq_cX6_move_0 (i := 28) rfl
theorem dX6_move_42 : decode cX6_move 42 = .ok (.aload_n 0, 1) := vl_at vq_cX6_move_0 (i := 29) rfl
theorem dX6_move_43 : decode cX6_move 43 = .ok (.iload_n 2, 1) := vl_at vq_cX6_move_0 (i := 30) rfl
theorem dX6_move_44 : decode cX6_move 44 = .ok (.iload_n 3, 1) := vl_at vq_cX6_move_0 (i := 31) rfl
theorem dX6_move_45 : decode cX6_move 45 = .ok (.ifCond .eq 13, 3) := vl_at vq_cX6_move_0 (i := 32) rfl
theorem dX6_move_48 : decode cX6_move 48 = .ok (.aload_n 0, 1) := vl_at vq_cX6_move_0 (i := 33) rfl
theorem dX6_move_49 : decode cX6_move 49 = .ok (.iload_n 2, 1) := vl_at vq_cX6_move_0 (i := 34) rfl
theorem dX6_move_50 : decode cX6_move 50 = .ok (.invokevirtual 91, 3) := vl_at vq_cX6_move_0 (i := 35) rfl
theorem dX6_move_53 : decode cX6_move 53 = .ok (.iconst 1, 1) := vl_at vq_cX6_move_0 (i := 36) rfl
theorem dX6_move_54 : decode cX6_move 54 = .ok (.isub, 1) := vl_at vq_cX6_move_0 (i := 37) rfl
theorem dX6_move_55 : decode cX6_move 55 = .ok (.goto 4, 3) := vl_at vq_cX6_move_0 (i := 38) rfl
theorem dX6_move_58 : decode cX6_move 58 = .ok (.iconst 0, 1) := vl_at vq_cX6_move_0 (i := 39) rfl
noncomputable def vl_cX6_move_1 : List (Nat × Instr × Nat) := [(59, .invokevirtual 131, 3), (62, .invokestatic 124, 3), (65, .ifCond .eq 5, 3), (68, .iconst 0, 1), (69, .ireturn, 1), (70, .aload_n 0, 1), (71, .iconst 1, 1), (72, .iload_n 2, 1), (73, .isub, 1), (74, .iload_n 1, 1), (75, .iconst 2, 1), (76, .irem, 1), (77, .iconst 1, 1), (78, .if_icmp .ne 7, 3), (81, .iconst 1, 1), (82, .goto 4, 3), (85, .iconst 0, 1), (86, .aload_n 0, 1), (87, .iload_n 2, 1), (88, .iload_n 3, 1), (89, .invokevirtual 137, 3), (92, .invokevirtual 127, 3), (95, .iconst 1, 1), (96, .ireturn, 1)]
theorem vq_cX6_move_1 : vl_ok cX6_move vl_cX6_move_1 = true := by decide +kernel
theorem dX6_move_59 : decode cX6_move 59 = .ok (.invokevirtual 131, 3) := vl_at vq_cX6_move_1 (i := 0) rfl
theorem dX6_move_62 : decode cX6_move 62 = .ok (.invokestatic 124, 3) := vl_at vq_cX6_move_1 (i := 1) rfl
theorem dX6_move_65 : decode cX6_move 65 = .ok (.ifCond .eq 5, 3) := vl_at vq_cX6_move_1 (i := 2) rfl
theorem dX6_move_68 : decode cX6_move 68 = .ok (.iconst 0, 1) := vl_at vq_cX6_move_1 (i := 3) rfl
theorem dX6_move_69 : decode cX6_move 69 = .ok (.ireturn, 1) := vl_at vq_cX6_move_1 (i := 4) rfl
theorem dX6_move_70 : decode cX6_move 70 = .ok (.aload_n 0, 1) := vl_at vq_cX6_move_1 (i := 5) rfl
theorem dX6_move_71 : decode cX6_move 71 = .ok (.iconst 1, 1) := vl_at vq_cX6_move_1 (i := 6) rfl
theorem dX6_move_72 : decode cX6_move 72 = .ok (.iload_n 2, 1) := vl_at vq_cX6_move_1 (i := 7) rfl
theorem dX6_move_73 : decode cX6_move 73 = .ok (.isub, 1) := vl_at vq_cX6_move_1 (i := 8) rfl
theorem dX6_move_74 : decode cX6_move 74 = .ok (.iload_n 1, 1) := vl_at vq_cX6_move_1 (i := 9) rfl
theorem dX6_move_75 : decode cX6_move 75 = .ok (.iconst 2, 1) := vl_at vq_cX6_move_1 (i := 10) rfl
theorem dX6_move_76 : decode cX6_move 76 = .ok (.irem, 1) := vl_at vq_cX6_move_1 (i := 11) rfl
theorem dX6_move_77 : decode cX6_move 77 = .ok (.iconst 1, 1) := vl_at vq_cX6_move_1 (i := 12) rfl
theorem dX6_move_78 : decode cX6_move 78 = .ok (.if_icmp .ne 7, 3) := vl_at vq_cX6_move_1 (i := 13) rfl
theorem dX6_move_81 : decode cX6_move 81 = .ok (.iconst 1, 1) := vl_at vq_cX6_move_1 (i := 14) rfl
theorem dX6_move_82 : decode cX6_move 82 = .ok (.goto 4, 3) := vl_at vq_cX6_move_1 (i := 15) rfl
theorem dX6_move_85 : decode cX6_move 85 = .ok (.iconst 0, 1) := vl_at vq_cX6_move_1 (i := 16) rfl
theorem dX6_move_86 : decode cX6_move 86 = .ok (.aload_n 0, 1) := vl_at vq_cX6_move_1 (i := 17) rfl
theorem dX6_move_87 : decode cX6_move 87 = .ok (.iload_n 2, 1) := vl_at vq_cX6_move_1 (i := 18) rfl
theorem dX6_move_88 : decode cX6_move 88 = .ok (.iload_n 3, 1) := vl_at vq_cX6_move_1 (i := 19) rfl
theorem dX6_move_89 : decode cX6_move 89 = .ok (.invokevirtual 137, 3) := vl_at vq_cX6_move_1 (i := 20) rfl
theorem dX6_move_92 : decode cX6_move 92 = .ok (.invokevirtual 127, 3) := vl_at vq_cX6_move_1 (i := 21) rfl
theorem dX6_move_95 : decode cX6_move 95 = .ok (.iconst 1, 1) := vl_at vq_cX6_move_1 (i := 22) rfl
theorem dX6_move_96 : decode cX6_move 96 = .ok (.ireturn, 1) := vl_at vq_cX6_move_1 (i := 23) rfl
noncomputable def vl_cX6_work_0 : List (Nat × Instr × Nat) := [(0, .aload_n 0, 1), (1, .iload_n 1, 1), (2, .iconst 1, 1), (3, .bipush 10, 2), (5, .invokestatic 44, 3), (8, .ifCond .ne 7, 3), (11, .iconst 1, 1), (12, .goto 4, 3), (15, .iconst 0, 1), (16, .iconst 1, 1), (17, .invokevirtual 110, 3), (20, .ifCond .eq 5, 3), (23, .iconst 0, 1), (24, .ireturn, 1), (25, .iconst 0, 1), (26, .istore_n 2, 1), (27, .iconst 0, 1), (28, .istore_n 3, 1), (29, .iload_n 3, 1), (30, .iload_n 1, 1), (31, .if_icmp .ge 63, 3), (34, .aload_n 0, 1), (35, .getfield 19, 3), (38, .invokevirtual 150, 3), (41, .ifCond .ne 53, 3), (44, .aload_n 0, 1), (45, .getfield 19, 3), (48, .iconst 0, 1), (49, .invokevirtual 81, 3), (52, .checkcast 56, 3), (55, .invokevirtual 58, 3), (58, .istore 4, 2), (60, .aload_n 0, 1), (61, .iload 4, 2), (63, .invokevirtual 200, 3), (66, .ifCond .eq 9, 3), (69, .iinc 2 1, 3), (72, .goto 16, 3), (75, .aload_n 0, 1), (76, .getfield 19, 3)]
theorem vq_cX6_work_0 : vl_ok cX6_work vl_cX6_work_0 = true := by decide +kernel
theorem dX6_work_0 : decode cX6_work 0 = .ok (.aload_n 0, 1) := vl_at vq_cX6_work_0 (i := 0) rfl
theorem dX6_work_1 : decode cX6_work 1 = .ok (.iload_n 1, 1) := vl_at vq_cX6_work_0 (i := 1) rfl
theorem dX6_work_2 : decode cX6_work 2 = .ok (.iconst 1, 1) := vl_at vq_cX6_work_0 (i := 2) rfl
theorem dX6_work_3 : decode cX6_work 3 = .ok (.bipush 10, 2) := vl_at vq_cX6_work_0 (i := 3) rfl
theorem dX6_work_5 : decode cX6_work 5 = .ok (.invokestatic 44, 3) := vl_at vq_cX6_work_0 (i := 4) rfl
theorem dX6_work_8 : decode cX6_work 8 = .ok (.ifCond .ne 7, 3) := vl_at vq_cX6_work_0 (i := 5) rfl
theorem dX6_work_11 : decode cX6_work 11 = .ok (.iconst 1, 1) := vl_at vq_cX6_work_0 (i := 6) rfl
theorem dX6_work_12 : decode cX6_work 12 = .ok (.goto 4, 3) := vl_at vq_cX6_work_0 (i := 7) rfl
theorem dX6_work_15 : decode cX6_work 15 = .ok (.iconst 0, 1) := vl_at vq_cX6_work_0 (i := 8) rfl
theorem dX6_work_16 : decode cX6_work 16 = .ok (.iconst 1, 1) := vl_at vq_cX6_work_0 (i := 9) rfl
theorem dX6_work_17 : decode cX6_work 17 = .ok (.invokevirtual 110, 3) := vl_at vq_cX6_work_0 (i := 10) rfl
theorem dX6_work_20 : decode cX6_work 20 = .ok (.ifCond .eq 5, 3) := vl_at vq_cX6_work_0 (i := 11) rfl
theorem dX6_work_23 : decode cX6_work 23 = .ok (.iconst 0, 1) := vl_at vq_cX6_work_0 (i := 12) rfl
theorem dX6_work_24 : decode cX6_work 24 = .ok (.ireturn, 1) := vl_at vq_cX6_work_0 (i := 13) rfl
theorem dX6_work_25 : decode cX6_work 25 = .ok (.iconst 0, 1) := vl_at vq_cX6_work_0 (i := 14) rfl
theorem dX6_work_26 : decode cX6_work 26 = .ok (.istore_n 2, 1) := vl_at vq_cX6_work_0 (i := 15) rfl
theorem dX6_work_27 : decode cX6_work 27 = .ok (.iconst 0, 1) := vl_at vq_cX6_work_0 (i := 16) rfl
theorem dX6_work_28 : decode cX6_work 28 = .ok (.istore_n 3, 1) := vl_at vq_cX6_work_0 (i := 17) rfl
theorem dX6_work_29 : decode cX6_work 29 = .ok (.iload_n 3, 1) := vl_at vq_cX6_work_0 (i := 18) rfl
theorem dX6_work_30 : decode cX6_work 30 = .ok (.iload_n 1, 1) := vl_at vq_cX6_work_0 (i := 19) rfl
theorem dX6_work_31 : decode cX6_work 31 = .ok (.if_icmp .ge 63, 3) := vl_at vq_cX6_work_0 (i := 20) rfl
theorem dX6_work_34 : decode cX6_work 34 = .ok (.aload_n 0, 1) := vl_at vq_cX6_work_0 (i := 21) rfl
theorem dX6_work_35 : decode cX6_work 35 = .ok (.getfield 19, 3) := vl_at vq_cX6_work_0 (i := 22) rfl
theorem dX6_work_38 : decode cX6_work 38 = .ok (.invokevirtual 150, 3) := vl_at vq_cX6_work_0 (i := 23) rfl
theorem dX6_work_41 : decode cX6_work 41 = .ok (.ifCond .ne 53, 3) := vl_at vq_cX6_work_0 (i := 24) rfl
theorem dX6_work_44 : decode cX6_work 44 = .ok (.aload_n 0, 1) := vl_at vq_cX6_work_0 (i := 25) rfl
theorem dX6_work_45 : decode cX6_work 45 = .ok (.getfield 19, 3) := vl_at vq_cX6_work_0 (i := 26) rfl
theorem dX6_work_48 : decode cX6_work 48 = .ok (.iconst 0, 1) := vl_at vq_cX6_work_0 (i := 27) rfl
theorem dX6_work_49 : decode cX6_work 49 = .ok (.invokevirtual 81, 3) := vl_at vq_cX6_work_0 (i := 28) rfl
theorem dX6_work_52 : decode cX6_work 52 = .ok (.checkcast 56, 3) := vl_at vq_cX6_work_0 (i := 29) rfl
theorem dX6_work_55 : decode cX6_work 55 = .ok (.invokevirtual 58, 3) := vl_at vq_cX6_work_0 (i := 30) rfl
theorem dX6_work_58 : decode cX6_work 58 = .ok (.istore 4, 2) := vl_at vq_cX6_work_0 (i := 31) rfl
theorem dX6_work_60 : decode cX6_work 60 = .ok (.aload_n 0, 1) := vl_at vq_cX6_work_0 (i := 32) rfl
theorem dX6_work_61 : decode cX6_work 61 = .ok (.iload 4, 2) := vl_at vq_cX6_work_0 (i := 33) rfl
theorem dX6_work_63 : decode cX6_work 63 = .ok (.invokevirtual 200, 3) := vl_at vq_cX6_work_0 (i := 34) rfl
theorem dX6_work_66 : decode cX6_work 66 = .ok (.ifCond .eq 9, 3) := vl_at vq_cX6_work_0 (i := 35) rfl
theorem dX6_work_69 : decode cX6_work 69 = .ok (.iinc 2 1, 3) := vl_at vq_cX6_work_0 (i := 36) rfl
theorem dX6_work_72 : decode cX6_work 72 = .ok (.goto 16, 3) := vl_at vq_cX6_work_0 (i := 37) rfl
theorem dX6_work_75 : decode cX6_work 75 = .ok (.aload_n 0, 1) := vl_at vq_cX6_work_0 (i := 38) rfl
theorem dX6_work_76 : decode cX6_work 76 = .ok (.getfield 19, 3) := vl_at vq_cX6_work_0 (i := 39) rfl
noncomputable def vl_cX6_work_1 : List (Nat × Instr × Nat) := [(79, .iload 4, 2), (81, .invokestatic 70, 3), (84, .invokevirtual 33, 3), (87, .pop, 1), (88, .iinc 3 1, 3), (91, .goto (-62), 3), (94, .iload_n 2, 1), (95, .ireturn, 1)]
theorem vq_cX6_work_1 : vl_ok cX6_work vl_cX6_work_1 = true := by decide +kernel
theorem dX6_work_79 : decode cX6_work 79 = .ok (.iload 4, 2) := vl_at vq_cX6_work_1 (i := 0) rfl
theorem dX6_work_81 : decode cX6_work 81 = .ok (.invokestatic 70, 3) := vl_at vq_cX6_work_1 (i := 1) rfl
theorem dX6_work_84 : decode cX6_work 84 = .ok (.invokevirtual 33, 3) := vl_at vq_cX6_work_1 (i := 2) rfl
theorem dX6_work_87 : decode cX6_work 87 = .ok (.pop, 1) := vl_at vq_cX6_work_1 (i := 3) rfl
theorem dX6_work_88 : decode cX6_work 88 = .ok (.iinc 3 1, 3) := vl_at vq_cX6_work_1 (i := 4) rfl
theorem dX6_work_91 : decode cX6_work 91 = .ok (.goto (-62), 3) := vl_at vq_cX6_work_1 (i := 5) rfl
theorem dX6_work_94 : decode cX6_work 94 = .ok (.iload_n 2, 1) := vl_at vq_cX6_work_1 (i := 6) rfl
theorem dX6_work_95 : decode cX6_work 95 = .ok (.ireturn, 1) := vl_at vq_cX6_work_1 (i := 7) rfl
noncomputable def vl_cX6_cancel_0 : List (Nat × Instr × Nat) := [(0, .aload_n 0, 1), (1, .iload_n 1, 1), (2, .iconst 0, 1), (3, .bipush 7, 2), (5, .invokestatic 44, 3), (8, .ifCond .ne 7, 3), (11, .iconst 1, 1), (12, .goto 4, 3), (15, .iconst 0, 1), (16, .iconst 1, 1), (17, .invokevirtual 110, 3), (20, .ifCond .eq 5, 3), (23, .iconst 0, 1), (24, .ireturn, 1), (25, .iconst (-1), 1), (26, .istore_n 3, 1), (27, .iconst 0, 1), (28, .istore 4, 2), (30, .iload 4, 2), (32, .aload_n 0, 1), (33, .getfield 19, 3), (36, .invokevirtual 52, 3), (39, .if_icmp .ge 40, 3), (42, .aload_n 0, 1), (43, .getfield 19, 3), (46, .iload 4, 2), (48, .invokevirtual 48, 3), (51, .checkcast 56, 3), (54, .invokevirtual 58, 3), (57, .iload_n 1, 1), (58, .if_icmp .ne 15, 3), (61, .iload_n 2, 1), (62, .ifCond .ne 8, 3), (65, .iload_n 3, 1), (66, .iconst (-1), 1), (67, .if_icmp .ne 6, 3), (70, .iload 4, 2), (72, .istore_n 3, 1), (73, .iinc 4 1, 3), (76, .goto (-46), 3)]
theorem vq_cX6_cancel_0 : vl_ok cX6_cancel vl_cX6_cancel_0 = true := by decide +kernel
theorem dX6_cancel_0 : decode cX6_cancel 0 = .ok (.aload_n 0, 1) := vl_at vq_cX6_cancel_0 (i := 0) rfl
theorem dX6_cancel_1 : decode cX6_cancel 1 = .ok (.iload_n 1, 1) := vl_at vq_cX6_cancel_0 (i := 1) rfl
theorem dX6_cancel_2 : decode cX6_cancel 2 = .ok (.iconst 0, 1) := vl_at vq_cX6_cancel_0 (i := 2) rfl
theorem dX6_cancel_3 : decode cX6_cancel 3 = .ok (.bipush 7, 2) := vl_at vq_cX6_cancel_0 (i := 3) rfl
theorem dX6_cancel_5 : decode cX6_cancel 5 = .ok (.invokestatic 44, 3) := vl_at vq_cX6_cancel_0 (i := 4) rfl
theorem dX6_cancel_8 : decode cX6_cancel 8 = .ok (.ifCond .ne 7, 3) := vl_at vq_cX6_cancel_0 (i := 5) rfl
theorem dX6_cancel_11 : decode cX6_cancel 11 = .ok (.iconst 1, 1) := vl_at vq_cX6_cancel_0 (i := 6) rfl
theorem dX6_cancel_12 : decode cX6_cancel 12 = .ok (.goto 4, 3) := vl_at vq_cX6_cancel_0 (i := 7) rfl
theorem dX6_cancel_15 : decode cX6_cancel 15 = .ok (.iconst 0, 1) := vl_at vq_cX6_cancel_0 (i := 8) rfl
theorem dX6_cancel_16 : decode cX6_cancel 16 = .ok (.iconst 1, 1) := vl_at vq_cX6_cancel_0 (i := 9) rfl
theorem dX6_cancel_17 : decode cX6_cancel 17 = .ok (.invokevirtual 110, 3) := vl_at vq_cX6_cancel_0 (i := 10) rfl
theorem dX6_cancel_20 : decode cX6_cancel 20 = .ok (.ifCond .eq 5, 3) := vl_at vq_cX6_cancel_0 (i := 11) rfl
theorem dX6_cancel_23 : decode cX6_cancel 23 = .ok (.iconst 0, 1) := vl_at vq_cX6_cancel_0 (i := 12) rfl
theorem dX6_cancel_24 : decode cX6_cancel 24 = .ok (.ireturn, 1) := vl_at vq_cX6_cancel_0 (i := 13) rfl
theorem dX6_cancel_25 : decode cX6_cancel 25 = .ok (.iconst (-1), 1) := vl_at vq_cX6_cancel_0 (i := 14) rfl
theorem dX6_cancel_26 : decode cX6_cancel 26 = .ok (.istore_n 3, 1) := vl_at vq_cX6_cancel_0 (i := 15) rfl
theorem dX6_cancel_27 : decode cX6_cancel 27 = .ok (.iconst 0, 1) := vl_at vq_cX6_cancel_0 (i := 16) rfl
theorem dX6_cancel_28 : decode cX6_cancel 28 = .ok (.istore 4, 2) := vl_at vq_cX6_cancel_0 (i := 17) rfl
theorem dX6_cancel_30 : decode cX6_cancel 30 = .ok (.iload 4, 2) := vl_at vq_cX6_cancel_0 (i := 18) rfl
theorem dX6_cancel_32 : decode cX6_cancel 32 = .ok (.aload_n 0, 1) := vl_at vq_cX6_cancel_0 (i := 19) rfl
theorem dX6_cancel_33 : decode cX6_cancel 33 = .ok (.getfield 19, 3) := vl_at vq_cX6_cancel_0 (i := 20) rfl
theorem dX6_cancel_36 : decode cX6_cancel 36 = .ok (.invokevirtual 52, 3) := vl_at vq_cX6_cancel_0 (i := 21) rfl
theorem dX6_cancel_39 : decode cX6_cancel 39 = .ok (.if_icmp .ge 40, 3) := vl_at vq_cX6_cancel_0 (i := 22) rfl
theorem dX6_cancel_42 : decode cX6_cancel 42 = .ok (.aload_n 0, 1) := vl_at vq_cX6_cancel_0 (i := 23) rfl
theorem dX6_cancel_43 : decode cX6_cancel 43 = .ok (.getfield 19, 3) := vl_at vq_cX6_cancel_0 (i := 24) rfl
theorem dX6_cancel_46 : decode cX6_cancel 46 = .ok (.iload 4, 2) := vl_at vq_cX6_cancel_0 (i := 25) rfl
theorem dX6_cancel_48 : decode cX6_cancel 48 = .ok (.invokevirtual 48, 3) := vl_at vq_cX6_cancel_0 (i := 26) rfl
theorem dX6_cancel_51 : decode cX6_cancel 51 = .ok (.checkcast 56, 3) := vl_at vq_cX6_cancel_0 (i := 27) rfl
theorem dX6_cancel_54 : decode cX6_cancel 54 = .ok (.invokevirtual 58, 3) := vl_at vq_cX6_cancel_0 (i := 28) rfl
theorem dX6_cancel_57 : decode cX6_cancel 57 = .ok (.iload_n 1, 1) := vl_at vq_cX6_cancel_0 (i := 29) rfl
theorem dX6_cancel_58 : decode cX6_cancel 58 = .ok (.if_icmp .ne 15, 3) := vl_at vq_cX6_cancel_0 (i := 30) rfl
theorem dX6_cancel_61 : decode cX6_cancel 61 = .ok (.iload_n 2, 1) := vl_at vq_cX6_cancel_0 (i := 31) rfl
theorem dX6_cancel_62 : decode cX6_cancel 62 = .ok (.ifCond .ne 8, 3) := vl_at vq_cX6_cancel_0 (i := 32) rfl
theorem dX6_cancel_65 : decode cX6_cancel 65 = .ok (.iload_n 3, 1) := vl_at vq_cX6_cancel_0 (i := 33) rfl
theorem dX6_cancel_66 : decode cX6_cancel 66 = .ok (.iconst (-1), 1) := vl_at vq_cX6_cancel_0 (i := 34) rfl
theorem dX6_cancel_67 : decode cX6_cancel 67 = .ok (.if_icmp .ne 6, 3) := vl_at vq_cX6_cancel_0 (i := 35) rfl
theorem dX6_cancel_70 : decode cX6_cancel 70 = .ok (.iload 4, 2) := vl_at vq_cX6_cancel_0 (i := 36) rfl
theorem dX6_cancel_72 : decode cX6_cancel 72 = .ok (.istore_n 3, 1) := vl_at vq_cX6_cancel_0 (i := 37) rfl
theorem dX6_cancel_73 : decode cX6_cancel 73 = .ok (.iinc 4 1, 3) := vl_at vq_cX6_cancel_0 (i := 38) rfl
theorem dX6_cancel_76 : decode cX6_cancel 76 = .ok (.goto (-46), 3) := vl_at vq_cX6_cancel_0 (i := 39) rfl
noncomputable def vl_cX6_cancel_1 : List (Nat × Instr × Nat) := [(79, .iload_n 3, 1), (80, .iconst (-1), 1), (81, .if_icmp .ne 5, 3), (84, .iconst 0, 1), (85, .ireturn, 1), (86, .aload_n 0, 1), (87, .getfield 19, 3), (90, .iload_n 3, 1), (91, .invokevirtual 81, 3), (94, .pop, 1), (95, .iconst 1, 1), (96, .ireturn, 1)]
theorem vq_cX6_cancel_1 : vl_ok cX6_cancel vl_cX6_cancel_1 = true := by decide +kernel
theorem dX6_cancel_79 : decode cX6_cancel 79 = .ok (.iload_n 3, 1) := vl_at vq_cX6_cancel_1 (i := 0) rfl
theorem dX6_cancel_80 : decode cX6_cancel 80 = .ok (.iconst (-1), 1) := vl_at vq_cX6_cancel_1 (i := 1) rfl
theorem dX6_cancel_81 : decode cX6_cancel 81 = .ok (.if_icmp .ne 5, 3) := vl_at vq_cX6_cancel_1 (i := 2) rfl
theorem dX6_cancel_84 : decode cX6_cancel 84 = .ok (.iconst 0, 1) := vl_at vq_cX6_cancel_1 (i := 3) rfl
theorem dX6_cancel_85 : decode cX6_cancel 85 = .ok (.ireturn, 1) := vl_at vq_cX6_cancel_1 (i := 4) rfl
theorem dX6_cancel_86 : decode cX6_cancel 86 = .ok (.aload_n 0, 1) := vl_at vq_cX6_cancel_1 (i := 5) rfl
theorem dX6_cancel_87 : decode cX6_cancel 87 = .ok (.getfield 19, 3) := vl_at vq_cX6_cancel_1 (i := 6) rfl
theorem dX6_cancel_90 : decode cX6_cancel 90 = .ok (.iload_n 3, 1) := vl_at vq_cX6_cancel_1 (i := 7) rfl
theorem dX6_cancel_91 : decode cX6_cancel 91 = .ok (.invokevirtual 81, 3) := vl_at vq_cX6_cancel_1 (i := 8) rfl
theorem dX6_cancel_94 : decode cX6_cancel 94 = .ok (.pop, 1) := vl_at vq_cX6_cancel_1 (i := 9) rfl
theorem dX6_cancel_95 : decode cX6_cancel 95 = .ok (.iconst 1, 1) := vl_at vq_cX6_cancel_1 (i := 10) rfl
theorem dX6_cancel_96 : decode cX6_cancel 96 = .ok (.ireturn, 1) := vl_at vq_cX6_cancel_1 (i := 11) rfl
noncomputable def vl_cX6_asked_0 : List (Nat × Instr × Nat) := [(0, .iload_n 2, 1), (1, .iconst 1, 1), (2, .if_icmp .eq 8, 3), (5, .iload_n 2, 1), (6, .iconst 3, 1), (7, .if_icmp .ne 7, 3), (10, .iconst 1, 1), (11, .goto 4, 3), (14, .iconst 0, 1), (15, .istore_n 3, 1), (16, .aload_n 0, 1), (17, .iload_n 1, 1), (18, .invokevirtual 91, 3), (21, .ifCond .ne 20, 3), (24, .iload_n 2, 1), (25, .iconst 2, 1), (26, .if_icmp .lt 8, 3), (29, .iload_n 2, 1), (30, .iconst 4, 1), (31, .if_icmp .ne 8, 3), (34, .bipush (-9), 2), (36, .goto 4, 3), (39, .iconst 0, 1), (40, .ireturn, 1), (41, .aload_n 0, 1), (42, .iload_n 1, 1), (43, .iload_n 3, 1), (44, .ifCond .eq 13, 3), (47, .aload_n 0, 1), (48, .iload_n 1, 1), (49, .invokevirtual 91, 3), (52, .iconst 1, 1), (53, .isub, 1), (54, .goto 4, 3), (57, .iconst 0, 1), (58, .invokevirtual 131, 3), (61, .ireturn, 1)]
theorem vq_cX6_asked_0 : vl_ok cX6_asked vl_cX6_asked_0 = true := by decide +kernel
theorem dX6_asked_0 : decode cX6_asked 0 = .ok (.iload_n 2, 1) := vl_at vq_cX6_asked_0 (i := 0) rfl
theorem dX6_asked_1 : decode cX6_asked 1 = .ok (.iconst 1, 1) := vl_at vq_cX6_asked_0 (i := 1) rfl
theorem dX6_asked_2 : decode cX6_asked 2 = .ok (.if_icmp .eq 8, 3) := vl_at vq_cX6_asked_0 (i := 2) rfl
theorem dX6_asked_5 : decode cX6_asked 5 = .ok (.iload_n 2, 1) := vl_at vq_cX6_asked_0 (i := 3) rfl
theorem dX6_asked_6 : decode cX6_asked 6 = .ok (.iconst 3, 1) := vl_at vq_cX6_asked_0 (i := 4) rfl
theorem dX6_asked_7 : decode cX6_asked 7 = .ok (.if_icmp .ne 7, 3) := vl_at vq_cX6_asked_0 (i := 5) rfl
theorem dX6_asked_10 : decode cX6_asked 10 = .ok (.iconst 1, 1) := vl_at vq_cX6_asked_0 (i := 6) rfl
theorem dX6_asked_11 : decode cX6_asked 11 = .ok (.goto 4, 3) := vl_at vq_cX6_asked_0 (i := 7) rfl
theorem dX6_asked_14 : decode cX6_asked 14 = .ok (.iconst 0, 1) := vl_at vq_cX6_asked_0 (i := 8) rfl
theorem dX6_asked_15 : decode cX6_asked 15 = .ok (.istore_n 3, 1) := vl_at vq_cX6_asked_0 (i := 9) rfl
theorem dX6_asked_16 : decode cX6_asked 16 = .ok (.aload_n 0, 1) := vl_at vq_cX6_asked_0 (i := 10) rfl
theorem dX6_asked_17 : decode cX6_asked 17 = .ok (.iload_n 1, 1) := vl_at vq_cX6_asked_0 (i := 11) rfl
theorem dX6_asked_18 : decode cX6_asked 18 = .ok (.invokevirtual 91, 3) := vl_at vq_cX6_asked_0 (i := 12) rfl
theorem dX6_asked_21 : decode cX6_asked 21 = .ok (.ifCond .ne 20, 3) := vl_at vq_cX6_asked_0 (i := 13) rfl
theorem dX6_asked_24 : decode cX6_asked 24 = .ok (.iload_n 2, 1) := vl_at vq_cX6_asked_0 (i := 14) rfl
theorem dX6_asked_25 : decode cX6_asked 25 = .ok (.iconst 2, 1) := vl_at vq_cX6_asked_0 (i := 15) rfl
theorem dX6_asked_26 : decode cX6_asked 26 = .ok (.if_icmp .lt 8, 3) := vl_at vq_cX6_asked_0 (i := 16) rfl
theorem dX6_asked_29 : decode cX6_asked 29 = .ok (.iload_n 2, 1) := vl_at vq_cX6_asked_0 (i := 17) rfl
theorem dX6_asked_30 : decode cX6_asked 30 = .ok (.iconst 4, 1) := vl_at vq_cX6_asked_0 (i := 18) rfl
theorem dX6_asked_31 : decode cX6_asked 31 = .ok (.if_icmp .ne 8, 3) := vl_at vq_cX6_asked_0 (i := 19) rfl
theorem dX6_asked_34 : decode cX6_asked 34 = .ok (.bipush (-9), 2) := vl_at vq_cX6_asked_0 (i := 20) rfl
theorem dX6_asked_36 : decode cX6_asked 36 = .ok (.goto 4, 3) := vl_at vq_cX6_asked_0 (i := 21) rfl
theorem dX6_asked_39 : decode cX6_asked 39 = .ok (.iconst 0, 1) := vl_at vq_cX6_asked_0 (i := 22) rfl
theorem dX6_asked_40 : decode cX6_asked 40 = .ok (.ireturn, 1) := vl_at vq_cX6_asked_0 (i := 23) rfl
theorem dX6_asked_41 : decode cX6_asked 41 = .ok (.aload_n 0, 1) := vl_at vq_cX6_asked_0 (i := 24) rfl
theorem dX6_asked_42 : decode cX6_asked 42 = .ok (.iload_n 1, 1) := vl_at vq_cX6_asked_0 (i := 25) rfl
theorem dX6_asked_43 : decode cX6_asked 43 = .ok (.iload_n 3, 1) := vl_at vq_cX6_asked_0 (i := 26) rfl
theorem dX6_asked_44 : decode cX6_asked 44 = .ok (.ifCond .eq 13, 3) := vl_at vq_cX6_asked_0 (i := 27) rfl
theorem dX6_asked_47 : decode cX6_asked 47 = .ok (.aload_n 0, 1) := vl_at vq_cX6_asked_0 (i := 28) rfl
theorem dX6_asked_48 : decode cX6_asked 48 = .ok (.iload_n 1, 1) := vl_at vq_cX6_asked_0 (i := 29) rfl
theorem dX6_asked_49 : decode cX6_asked 49 = .ok (.invokevirtual 91, 3) := vl_at vq_cX6_asked_0 (i := 30) rfl
theorem dX6_asked_52 : decode cX6_asked 52 = .ok (.iconst 1, 1) := vl_at vq_cX6_asked_0 (i := 31) rfl
theorem dX6_asked_53 : decode cX6_asked 53 = .ok (.isub, 1) := vl_at vq_cX6_asked_0 (i := 32) rfl
theorem dX6_asked_54 : decode cX6_asked 54 = .ok (.goto 4, 3) := vl_at vq_cX6_asked_0 (i := 33) rfl
theorem dX6_asked_57 : decode cX6_asked 57 = .ok (.iconst 0, 1) := vl_at vq_cX6_asked_0 (i := 34) rfl
theorem dX6_asked_58 : decode cX6_asked 58 = .ok (.invokevirtual 131, 3) := vl_at vq_cX6_asked_0 (i := 35) rfl
theorem dX6_asked_61 : decode cX6_asked 61 = .ok (.ireturn, 1) := vl_at vq_cX6_asked_0 (i := 36) rfl
noncomputable def vl_cX6_ask_0 : List (Nat × Instr × Nat) := [(0, .aload_n 0, 1), (1, .iload_n 1, 1), (2, .invokestatic 106, 3), (5, .iconst 1, 1), (6, .invokevirtual 110, 3), (9, .ifCond .ne 25, 3), (12, .aload_n 0, 1), (13, .iload_n 2, 1), (14, .iconst 0, 1), (15, .iconst 5, 1), (16, .invokestatic 44, 3), (19, .ifCond .ne 7, 3), (22, .iconst 1, 1), (23, .goto 4, 3), (26, .iconst 0, 1), (27, .iconst 2, 1), (28, .invokevirtual 40, 3), (31, .ifCond .eq 7, 3), (34, .iconst 0, 1), (35, .goto 9, 3), (38, .aload_n 0, 1), (39, .iload_n 1, 1), (40, .iload_n 2, 1), (41, .invokevirtual 203, 3), (44, .ireturn, 1)]
theorem vq_cX6_ask_0 : vl_ok cX6_ask vl_cX6_ask_0 = true := by decide +kernel
theorem dX6_ask_0 : decode cX6_ask 0 = .ok (.aload_n 0, 1) := vl_at vq_cX6_ask_0 (i := 0) rfl
theorem dX6_ask_1 : decode cX6_ask 1 = .ok (.iload_n 1, 1) := vl_at vq_cX6_ask_0 (i := 1) rfl
theorem dX6_ask_2 : decode cX6_ask 2 = .ok (.invokestatic 106, 3) := vl_at vq_cX6_ask_0 (i := 2) rfl
theorem dX6_ask_5 : decode cX6_ask 5 = .ok (.iconst 1, 1) := vl_at vq_cX6_ask_0 (i := 3) rfl
theorem dX6_ask_6 : decode cX6_ask 6 = .ok (.invokevirtual 110, 3) := vl_at vq_cX6_ask_0 (i := 4) rfl
theorem dX6_ask_9 : decode cX6_ask 9 = .ok (.ifCond .ne 25, 3) := vl_at vq_cX6_ask_0 (i := 5) rfl
theorem dX6_ask_12 : decode cX6_ask 12 = .ok (.aload_n 0, 1) := vl_at vq_cX6_ask_0 (i := 6) rfl
theorem dX6_ask_13 : decode cX6_ask 13 = .ok (.iload_n 2, 1) := vl_at vq_cX6_ask_0 (i := 7) rfl
theorem dX6_ask_14 : decode cX6_ask 14 = .ok (.iconst 0, 1) := vl_at vq_cX6_ask_0 (i := 8) rfl
theorem dX6_ask_15 : decode cX6_ask 15 = .ok (.iconst 5, 1) := vl_at vq_cX6_ask_0 (i := 9) rfl
theorem dX6_ask_16 : decode cX6_ask 16 = .ok (.invokestatic 44, 3) := vl_at vq_cX6_ask_0 (i := 10) rfl
theorem dX6_ask_19 : decode cX6_ask 19 = .ok (.ifCond .ne 7, 3) := vl_at vq_cX6_ask_0 (i := 11) rfl
theorem dX6_ask_22 : decode cX6_ask 22 = .ok (.iconst 1, 1) := vl_at vq_cX6_ask_0 (i := 12) rfl
theorem dX6_ask_23 : decode cX6_ask 23 = .ok (.goto 4, 3) := vl_at vq_cX6_ask_0 (i := 13) rfl
theorem dX6_ask_26 : decode cX6_ask 26 = .ok (.iconst 0, 1) := vl_at vq_cX6_ask_0 (i := 14) rfl
theorem dX6_ask_27 : decode cX6_ask 27 = .ok (.iconst 2, 1) := vl_at vq_cX6_ask_0 (i := 15) rfl
theorem dX6_ask_28 : decode cX6_ask 28 = .ok (.invokevirtual 40, 3) := vl_at vq_cX6_ask_0 (i := 16) rfl
theorem dX6_ask_31 : decode cX6_ask 31 = .ok (.ifCond .eq 7, 3) := vl_at vq_cX6_ask_0 (i := 17) rfl
theorem dX6_ask_34 : decode cX6_ask 34 = .ok (.iconst 0, 1) := vl_at vq_cX6_ask_0 (i := 18) rfl
theorem dX6_ask_35 : decode cX6_ask 35 = .ok (.goto 9, 3) := vl_at vq_cX6_ask_0 (i := 19) rfl
theorem dX6_ask_38 : decode cX6_ask 38 = .ok (.aload_n 0, 1) := vl_at vq_cX6_ask_0 (i := 20) rfl
theorem dX6_ask_39 : decode cX6_ask 39 = .ok (.iload_n 1, 1) := vl_at vq_cX6_ask_0 (i := 21) rfl
theorem dX6_ask_40 : decode cX6_ask 40 = .ok (.iload_n 2, 1) := vl_at vq_cX6_ask_0 (i := 22) rfl
theorem dX6_ask_41 : decode cX6_ask 41 = .ok (.invokevirtual 203, 3) := vl_at vq_cX6_ask_0 (i := 23) rfl
theorem dX6_ask_44 : decode cX6_ask 44 = .ok (.ireturn, 1) := vl_at vq_cX6_ask_0 (i := 24) rfl
noncomputable def vl_cX6_trackTold_0 : List (Nat × Instr × Nat) := [(0, .iconst 0, 1), (1, .istore_n 3, 1), (2, .iconst 1, 1), (3, .istore 4, 2), (5, .iconst 0, 1), (6, .istore 5, 2), (8, .iload 5, 2), (10, .aload_n 0, 1), (11, .iload_n 1, 1), (12, .invokevirtual 91, 3), (15, .if_icmp .ge 40, 3), (18, .iload_n 3, 1), (19, .aload_n 0, 1), (20, .iload_n 1, 1), (21, .iload 5, 2), (23, .invokevirtual 131, 3), (26, .invokestatic 171, 3), (29, .iadd, 1), (30, .istore_n 3, 1), (31, .bipush 31, 2), (33, .iload 4, 2), (35, .imul, 1), (36, .aload_n 0, 1), (37, .iload_n 1, 1), (38, .iload 5, 2), (40, .invokevirtual 131, 3), (43, .invokestatic 154, 3), (46, .iadd, 1), (47, .istore 4, 2), (49, .iinc 5 1, 3), (52, .goto (-44), 3), (55, .iconst 4, 1), (56, .newarray .int, 2), (58, .dup, 1), (59, .iconst 0, 1), (60, .aload_n 0, 1), (61, .iload_n 1, 1), (62, .invokevirtual 91, 3), (65, .iastore, 1), (66, .dup, 1)]
theorem vq_cX6_trackTold_0 : vl_ok cX6_trackTold vl_cX6_trackTold_0 = true := by decide +kernel
theorem dX6_trackTold_0 : decode cX6_trackTold 0 = .ok (.iconst 0, 1) := vl_at vq_cX6_trackTold_0 (i := 0) rfl
theorem dX6_trackTold_1 : decode cX6_trackTold 1 = .ok (.istore_n 3, 1) := vl_at vq_cX6_trackTold_0 (i := 1) rfl
theorem dX6_trackTold_2 : decode cX6_trackTold 2 = .ok (.iconst 1, 1) := vl_at vq_cX6_trackTold_0 (i := 2) rfl
theorem dX6_trackTold_3 : decode cX6_trackTold 3 = .ok (.istore 4, 2) := vl_at vq_cX6_trackTold_0 (i := 3) rfl
theorem dX6_trackTold_5 : decode cX6_trackTold 5 = .ok (.iconst 0, 1) := vl_at vq_cX6_trackTold_0 (i := 4) rfl
theorem dX6_trackTold_6 : decode cX6_trackTold 6 = .ok (.istore 5, 2) := vl_at vq_cX6_trackTold_0 (i := 5) rfl
theorem dX6_trackTold_8 : decode cX6_trackTold 8 = .ok (.iload 5, 2) := vl_at vq_cX6_trackTold_0 (i := 6) rfl
theorem dX6_trackTold_10 : decode cX6_trackTold 10 = .ok (.aload_n 0, 1) := vl_at vq_cX6_trackTold_0 (i := 7) rfl
theorem dX6_trackTold_11 : decode cX6_trackTold 11 = .ok (.iload_n 1, 1) := vl_at vq_cX6_trackTold_0 (i := 8) rfl
theorem dX6_trackTold_12 : decode cX6_trackTold 12 = .ok (.invokevirtual 91, 3) := vl_at vq_cX6_trackTold_0 (i := 9) rfl
theorem dX6_trackTold_15 : decode cX6_trackTold 15 = .ok (.if_icmp .ge 40, 3) := vl_at vq_cX6_trackTold_0 (i := 10) rfl
theorem dX6_trackTold_18 : decode cX6_trackTold 18 = .ok (.iload_n 3, 1) := vl_at vq_cX6_trackTold_0 (i := 11) rfl
theorem dX6_trackTold_19 : decode cX6_trackTold 19 = .ok (.aload_n 0, 1) := vl_at vq_cX6_trackTold_0 (i := 12) rfl
theorem dX6_trackTold_20 : decode cX6_trackTold 20 = .ok (.iload_n 1, 1) := vl_at vq_cX6_trackTold_0 (i := 13) rfl
theorem dX6_trackTold_21 : decode cX6_trackTold 21 = .ok (.iload 5, 2) := vl_at vq_cX6_trackTold_0 (i := 14) rfl
theorem dX6_trackTold_23 : decode cX6_trackTold 23 = .ok (.invokevirtual 131, 3) := vl_at vq_cX6_trackTold_0 (i := 15) rfl
theorem dX6_trackTold_26 : decode cX6_trackTold 26 = .ok (.invokestatic 171, 3) := vl_at vq_cX6_trackTold_0 (i := 16) rfl
theorem dX6_trackTold_29 : decode cX6_trackTold 29 = .ok (.iadd, 1) := vl_at vq_cX6_trackTold_0 (i := 17) rfl
theorem dX6_trackTold_30 : decode cX6_trackTold 30 = .ok (.istore_n 3, 1) := vl_at vq_cX6_trackTold_0 (i := 18) rfl
theorem dX6_trackTold_31 : decode cX6_trackTold 31 = .ok (.bipush 31, 2) := vl_at vq_cX6_trackTold_0 (i := 19) rfl
theorem dX6_trackTold_33 : decode cX6_trackTold 33 = .ok (.iload 4, 2) := vl_at vq_cX6_trackTold_0 (i := 20) rfl
theorem dX6_trackTold_35 : decode cX6_trackTold 35 = .ok (.imul, 1) := vl_at vq_cX6_trackTold_0 (i := 21) rfl
theorem dX6_trackTold_36 : decode cX6_trackTold 36 = .ok (.aload_n 0, 1) := vl_at vq_cX6_trackTold_0 (i := 22) rfl
theorem dX6_trackTold_37 : decode cX6_trackTold 37 = .ok (.iload_n 1, 1) := vl_at vq_cX6_trackTold_0 (i := 23) rfl
theorem dX6_trackTold_38 : decode cX6_trackTold 38 = .ok (.iload 5, 2) := vl_at vq_cX6_trackTold_0 (i := 24) rfl
theorem dX6_trackTold_40 : decode cX6_trackTold 40 = .ok (.invokevirtual 131, 3) := vl_at vq_cX6_trackTold_0 (i := 25) rfl
theorem dX6_trackTold_43 : decode cX6_trackTold 43 = .ok (.invokestatic 154, 3) := vl_at vq_cX6_trackTold_0 (i := 26) rfl
theorem dX6_trackTold_46 : decode cX6_trackTold 46 = .ok (.iadd, 1) := vl_at vq_cX6_trackTold_0 (i := 27) rfl
theorem dX6_trackTold_47 : decode cX6_trackTold 47 = .ok (.istore 4, 2) := vl_at vq_cX6_trackTold_0 (i := 28) rfl
theorem dX6_trackTold_49 : decode cX6_trackTold 49 = .ok (.iinc 5 1, 3) := vl_at vq_cX6_trackTold_0 (i := 29) rfl
theorem dX6_trackTold_52 : decode cX6_trackTold 52 = .ok (.goto (-44), 3) := vl_at vq_cX6_trackTold_0 (i := 30) rfl
theorem dX6_trackTold_55 : decode cX6_trackTold 55 = .ok (.iconst 4, 1) := vl_at vq_cX6_trackTold_0 (i := 31) rfl
theorem dX6_trackTold_56 : decode cX6_trackTold 56 = .ok (.newarray .int, 2) := vl_at vq_cX6_trackTold_0 (i := 32) rfl
theorem dX6_trackTold_58 : decode cX6_trackTold 58 = .ok (.dup, 1) := vl_at vq_cX6_trackTold_0 (i := 33) rfl
theorem dX6_trackTold_59 : decode cX6_trackTold 59 = .ok (.iconst 0, 1) := vl_at vq_cX6_trackTold_0 (i := 34) rfl
theorem dX6_trackTold_60 : decode cX6_trackTold 60 = .ok (.aload_n 0, 1) := vl_at vq_cX6_trackTold_0 (i := 35) rfl
theorem dX6_trackTold_61 : decode cX6_trackTold 61 = .ok (.iload_n 1, 1) := vl_at vq_cX6_trackTold_0 (i := 36) rfl
theorem dX6_trackTold_62 : decode cX6_trackTold 62 = .ok (.invokevirtual 91, 3) := vl_at vq_cX6_trackTold_0 (i := 37) rfl
theorem dX6_trackTold_65 : decode cX6_trackTold 65 = .ok (.iastore, 1) := vl_at vq_cX6_trackTold_0 (i := 38) rfl
theorem dX6_trackTold_66 : decode cX6_trackTold 66 = .ok (.dup, 1) := vl_at vq_cX6_trackTold_0 (i := 39) rfl
noncomputable def vl_cX6_trackTold_1 : List (Nat × Instr × Nat) := [(67, .iconst 1, 1), (68, .aload_n 0, 1), (69, .iload_n 1, 1), (70, .invokevirtual 91, 3), (73, .ifCond .ne 7, 3), (76, .iconst 1, 1), (77, .goto 4, 3), (80, .iconst 0, 1), (81, .invokestatic 87, 3), (84, .iastore, 1), (85, .dup, 1), (86, .iconst 2, 1), (87, .iload_n 3, 1), (88, .iastore, 1), (89, .dup, 1), (90, .iconst 3, 1), (91, .iload 4, 2), (93, .iastore, 1), (94, .astore 5, 2), (96, .aload 5, 2), (98, .iload_n 2, 1), (99, .iaload, 1), (100, .ireturn, 1)]
theorem vq_cX6_trackTold_1 : vl_ok cX6_trackTold vl_cX6_trackTold_1 = true := by decide +kernel
theorem dX6_trackTold_67 : decode cX6_trackTold 67 = .ok (.iconst 1, 1) := vl_at vq_cX6_trackTold_1 (i := 0) rfl
theorem dX6_trackTold_68 : decode cX6_trackTold 68 = .ok (.aload_n 0, 1) := vl_at vq_cX6_trackTold_1 (i := 1) rfl
theorem dX6_trackTold_69 : decode cX6_trackTold 69 = .ok (.iload_n 1, 1) := vl_at vq_cX6_trackTold_1 (i := 2) rfl
theorem dX6_trackTold_70 : decode cX6_trackTold 70 = .ok (.invokevirtual 91, 3) := vl_at vq_cX6_trackTold_1 (i := 3) rfl
theorem dX6_trackTold_73 : decode cX6_trackTold 73 = .ok (.ifCond .ne 7, 3) := vl_at vq_cX6_trackTold_1 (i := 4) rfl
theorem dX6_trackTold_76 : decode cX6_trackTold 76 = .ok (.iconst 1, 1) := vl_at vq_cX6_trackTold_1 (i := 5) rfl
theorem dX6_trackTold_77 : decode cX6_trackTold 77 = .ok (.goto 4, 3) := vl_at vq_cX6_trackTold_1 (i := 6) rfl
theorem dX6_trackTold_80 : decode cX6_trackTold 80 = .ok (.iconst 0, 1) := vl_at vq_cX6_trackTold_1 (i := 7) rfl
theorem dX6_trackTold_81 : decode cX6_trackTold 81 = .ok (.invokestatic 87, 3) := vl_at vq_cX6_trackTold_1 (i := 8) rfl
theorem dX6_trackTold_84 : decode cX6_trackTold 84 = .ok (.iastore, 1) := vl_at vq_cX6_trackTold_1 (i := 9) rfl
theorem dX6_trackTold_85 : decode cX6_trackTold 85 = .ok (.dup, 1) := vl_at vq_cX6_trackTold_1 (i := 10) rfl
theorem dX6_trackTold_86 : decode cX6_trackTold 86 = .ok (.iconst 2, 1) := vl_at vq_cX6_trackTold_1 (i := 11) rfl
theorem dX6_trackTold_87 : decode cX6_trackTold 87 = .ok (.iload_n 3, 1) := vl_at vq_cX6_trackTold_1 (i := 12) rfl
theorem dX6_trackTold_88 : decode cX6_trackTold 88 = .ok (.iastore, 1) := vl_at vq_cX6_trackTold_1 (i := 13) rfl
theorem dX6_trackTold_89 : decode cX6_trackTold 89 = .ok (.dup, 1) := vl_at vq_cX6_trackTold_1 (i := 14) rfl
theorem dX6_trackTold_90 : decode cX6_trackTold 90 = .ok (.iconst 3, 1) := vl_at vq_cX6_trackTold_1 (i := 15) rfl
theorem dX6_trackTold_91 : decode cX6_trackTold 91 = .ok (.iload 4, 2) := vl_at vq_cX6_trackTold_1 (i := 16) rfl
theorem dX6_trackTold_93 : decode cX6_trackTold 93 = .ok (.iastore, 1) := vl_at vq_cX6_trackTold_1 (i := 17) rfl
theorem dX6_trackTold_94 : decode cX6_trackTold 94 = .ok (.astore 5, 2) := vl_at vq_cX6_trackTold_1 (i := 18) rfl
theorem dX6_trackTold_96 : decode cX6_trackTold 96 = .ok (.aload 5, 2) := vl_at vq_cX6_trackTold_1 (i := 19) rfl
theorem dX6_trackTold_98 : decode cX6_trackTold 98 = .ok (.iload_n 2, 1) := vl_at vq_cX6_trackTold_1 (i := 20) rfl
theorem dX6_trackTold_99 : decode cX6_trackTold 99 = .ok (.iaload, 1) := vl_at vq_cX6_trackTold_1 (i := 21) rfl
theorem dX6_trackTold_100 : decode cX6_trackTold 100 = .ok (.ireturn, 1) := vl_at vq_cX6_trackTold_1 (i := 22) rfl
noncomputable def vl_cX6_ofTrack_0 : List (Nat × Instr × Nat) := [(0, .aload_n 0, 1), (1, .iload_n 1, 1), (2, .invokestatic 106, 3), (5, .iconst 1, 1), (6, .invokevirtual 110, 3), (9, .ifCond .ne 25, 3), (12, .aload_n 0, 1), (13, .iload_n 2, 1), (14, .iconst 0, 1), (15, .iconst 3, 1), (16, .invokestatic 44, 3), (19, .ifCond .ne 7, 3), (22, .iconst 1, 1), (23, .goto 4, 3), (26, .iconst 0, 1), (27, .iconst 2, 1), (28, .invokevirtual 40, 3), (31, .ifCond .eq 7, 3), (34, .iconst 0, 1), (35, .goto 9, 3), (38, .aload_n 0, 1), (39, .iload_n 1, 1), (40, .iload_n 2, 1), (41, .invokevirtual 206, 3), (44, .ireturn, 1)]
theorem vq_cX6_ofTrack_0 : vl_ok cX6_ofTrack vl_cX6_ofTrack_0 = true := by decide +kernel
theorem dX6_ofTrack_0 : decode cX6_ofTrack 0 = .ok (.aload_n 0, 1) := vl_at vq_cX6_ofTrack_0 (i := 0) rfl
theorem dX6_ofTrack_1 : decode cX6_ofTrack 1 = .ok (.iload_n 1, 1) := vl_at vq_cX6_ofTrack_0 (i := 1) rfl
theorem dX6_ofTrack_2 : decode cX6_ofTrack 2 = .ok (.invokestatic 106, 3) := vl_at vq_cX6_ofTrack_0 (i := 2) rfl
theorem dX6_ofTrack_5 : decode cX6_ofTrack 5 = .ok (.iconst 1, 1) := vl_at vq_cX6_ofTrack_0 (i := 3) rfl
theorem dX6_ofTrack_6 : decode cX6_ofTrack 6 = .ok (.invokevirtual 110, 3) := vl_at vq_cX6_ofTrack_0 (i := 4) rfl
theorem dX6_ofTrack_9 : decode cX6_ofTrack 9 = .ok (.ifCond .ne 25, 3) := vl_at vq_cX6_ofTrack_0 (i := 5) rfl
theorem dX6_ofTrack_12 : decode cX6_ofTrack 12 = .ok (.aload_n 0, 1) := vl_at vq_cX6_ofTrack_0 (i := 6) rfl
theorem dX6_ofTrack_13 : decode cX6_ofTrack 13 = .ok (.iload_n 2, 1) := vl_at vq_cX6_ofTrack_0 (i := 7) rfl
theorem dX6_ofTrack_14 : decode cX6_ofTrack 14 = .ok (.iconst 0, 1) := vl_at vq_cX6_ofTrack_0 (i := 8) rfl
theorem dX6_ofTrack_15 : decode cX6_ofTrack 15 = .ok (.iconst 3, 1) := vl_at vq_cX6_ofTrack_0 (i := 9) rfl
theorem dX6_ofTrack_16 : decode cX6_ofTrack 16 = .ok (.invokestatic 44, 3) := vl_at vq_cX6_ofTrack_0 (i := 10) rfl
theorem dX6_ofTrack_19 : decode cX6_ofTrack 19 = .ok (.ifCond .ne 7, 3) := vl_at vq_cX6_ofTrack_0 (i := 11) rfl
theorem dX6_ofTrack_22 : decode cX6_ofTrack 22 = .ok (.iconst 1, 1) := vl_at vq_cX6_ofTrack_0 (i := 12) rfl
theorem dX6_ofTrack_23 : decode cX6_ofTrack 23 = .ok (.goto 4, 3) := vl_at vq_cX6_ofTrack_0 (i := 13) rfl
theorem dX6_ofTrack_26 : decode cX6_ofTrack 26 = .ok (.iconst 0, 1) := vl_at vq_cX6_ofTrack_0 (i := 14) rfl
theorem dX6_ofTrack_27 : decode cX6_ofTrack 27 = .ok (.iconst 2, 1) := vl_at vq_cX6_ofTrack_0 (i := 15) rfl
theorem dX6_ofTrack_28 : decode cX6_ofTrack 28 = .ok (.invokevirtual 40, 3) := vl_at vq_cX6_ofTrack_0 (i := 16) rfl
theorem dX6_ofTrack_31 : decode cX6_ofTrack 31 = .ok (.ifCond .eq 7, 3) := vl_at vq_cX6_ofTrack_0 (i := 17) rfl
theorem dX6_ofTrack_34 : decode cX6_ofTrack 34 = .ok (.iconst 0, 1) := vl_at vq_cX6_ofTrack_0 (i := 18) rfl
theorem dX6_ofTrack_35 : decode cX6_ofTrack 35 = .ok (.goto 9, 3) := vl_at vq_cX6_ofTrack_0 (i := 19) rfl
theorem dX6_ofTrack_38 : decode cX6_ofTrack 38 = .ok (.aload_n 0, 1) := vl_at vq_cX6_ofTrack_0 (i := 20) rfl
theorem dX6_ofTrack_39 : decode cX6_ofTrack 39 = .ok (.iload_n 1, 1) := vl_at vq_cX6_ofTrack_0 (i := 21) rfl
theorem dX6_ofTrack_40 : decode cX6_ofTrack 40 = .ok (.iload_n 2, 1) := vl_at vq_cX6_ofTrack_0 (i := 22) rfl
theorem dX6_ofTrack_41 : decode cX6_ofTrack 41 = .ok (.invokevirtual 206, 3) := vl_at vq_cX6_ofTrack_0 (i := 23) rfl
theorem dX6_ofTrack_44 : decode cX6_ofTrack 44 = .ok (.ireturn, 1) := vl_at vq_cX6_ofTrack_0 (i := 24) rfl
noncomputable def vl_cX6_has_0 : List (Nat × Instr × Nat) := [(0, .aload_n 0, 1), (1, .iload_n 1, 1), (2, .iload_n 2, 1), (3, .invokevirtual 157, 3), (6, .ifCond .ne 18, 3), (9, .aload_n 0, 1), (10, .iload_n 1, 1), (11, .iload_n 2, 1), (12, .iconst 0, 1), (13, .invokevirtual 160, 3), (16, .iconst (-1), 1), (17, .if_icmp .eq 7, 3), (20, .iconst 1, 1), (21, .goto 4, 3), (24, .iconst 0, 1), (25, .ireturn, 1)]
theorem vq_cX6_has_0 : vl_ok cX6_has vl_cX6_has_0 = true := by decide +kernel
theorem dX6_has_0 : decode cX6_has 0 = .ok (.aload_n 0, 1) := vl_at vq_cX6_has_0 (i := 0) rfl
theorem dX6_has_1 : decode cX6_has 1 = .ok (.iload_n 1, 1) := vl_at vq_cX6_has_0 (i := 1) rfl
theorem dX6_has_2 : decode cX6_has 2 = .ok (.iload_n 2, 1) := vl_at vq_cX6_has_0 (i := 2) rfl
theorem dX6_has_3 : decode cX6_has 3 = .ok (.invokevirtual 157, 3) := vl_at vq_cX6_has_0 (i := 3) rfl
theorem dX6_has_6 : decode cX6_has 6 = .ok (.ifCond .ne 18, 3) := vl_at vq_cX6_has_0 (i := 4) rfl
theorem dX6_has_9 : decode cX6_has 9 = .ok (.aload_n 0, 1) := vl_at vq_cX6_has_0 (i := 5) rfl
theorem dX6_has_10 : decode cX6_has 10 = .ok (.iload_n 1, 1) := vl_at vq_cX6_has_0 (i := 6) rfl
theorem dX6_has_11 : decode cX6_has 11 = .ok (.iload_n 2, 1) := vl_at vq_cX6_has_0 (i := 7) rfl
theorem dX6_has_12 : decode cX6_has 12 = .ok (.iconst 0, 1) := vl_at vq_cX6_has_0 (i := 8) rfl
theorem dX6_has_13 : decode cX6_has 13 = .ok (.invokevirtual 160, 3) := vl_at vq_cX6_has_0 (i := 9) rfl
theorem dX6_has_16 : decode cX6_has 16 = .ok (.iconst (-1), 1) := vl_at vq_cX6_has_0 (i := 10) rfl
theorem dX6_has_17 : decode cX6_has 17 = .ok (.if_icmp .eq 7, 3) := vl_at vq_cX6_has_0 (i := 11) rfl
theorem dX6_has_20 : decode cX6_has 20 = .ok (.iconst 1, 1) := vl_at vq_cX6_has_0 (i := 12) rfl
theorem dX6_has_21 : decode cX6_has 21 = .ok (.goto 4, 3) := vl_at vq_cX6_has_0 (i := 13) rfl
theorem dX6_has_24 : decode cX6_has 24 = .ok (.iconst 0, 1) := vl_at vq_cX6_has_0 (i := 14) rfl
theorem dX6_has_25 : decode cX6_has 25 = .ok (.ireturn, 1) := vl_at vq_cX6_has_0 (i := 15) rfl
noncomputable def vl_cX6_compared_0 : List (Nat × Instr × Nat) := [(0, .iload_n 1, 1), (1, .ifCond .eq 18, 3), (4, .aload_n 0, 1), (5, .iconst 0, 1), (6, .invokevirtual 91, 3), (9, .aload_n 0, 1), (10, .iconst 1, 1), (11, .invokevirtual 91, 3), (14, .if_icmp .eq 5, 3), (17, .iconst 0, 1), (18, .ireturn, 1), (19, .iconst 0, 1), (20, .istore_n 2, 1), (21, .iload_n 2, 1), (22, .aload_n 0, 1), (23, .iconst 0, 1), (24, .invokevirtual 91, 3), (27, .if_icmp .ge 52, 3), (30, .aload_n 0, 1), (31, .iconst 0, 1), (32, .iload_n 2, 1), (33, .invokevirtual 131, 3), (36, .invokestatic 154, 3), (39, .istore_n 3, 1), (40, .iload_n 1, 1), (41, .ifCond .eq 19, 3), (44, .aload_n 0, 1), (45, .iconst 1, 1), (46, .iload_n 2, 1), (47, .invokevirtual 131, 3), (50, .invokestatic 154, 3), (53, .iload_n 3, 1), (54, .if_icmp .eq 19, 3), (57, .goto 14, 3), (60, .aload_n 0, 1), (61, .iconst 1, 1), (62, .iload_n 3, 1), (63, .iconst 0, 1), (64, .invokevirtual 160, 3), (67, .iconst (-1), 1)]
theorem vq_cX6_compared_0 : vl_ok cX6_compared vl_cX6_compared_0 = true := by decide +kernel
theorem dX6_compared_0 : decode cX6_compared 0 = .ok (.iload_n 1, 1) := vl_at vq_cX6_compared_0 (i := 0) rfl
theorem dX6_compared_1 : decode cX6_compared 1 = .ok (.ifCond .eq 18, 3) := vl_at vq_cX6_compared_0 (i := 1) rfl
theorem dX6_compared_4 : decode cX6_compared 4 = .ok (.aload_n 0, 1) := vl_at vq_cX6_compared_0 (i := 2) rfl
theorem dX6_compared_5 : decode cX6_compared 5 = .ok (.iconst 0, 1) := vl_at vq_cX6_compared_0 (i := 3) rfl
theorem dX6_compared_6 : decode cX6_compared 6 = .ok (.invokevirtual 91, 3) := vl_at vq_cX6_compared_0 (i := 4) rfl
theorem dX6_compared_9 : decode cX6_compared 9 = .ok (.aload_n 0, 1) := vl_at vq_cX6_compared_0 (i := 5) rfl
theorem dX6_compared_10 : decode cX6_compared 10 = .ok (.iconst 1, 1) := vl_at vq_cX6_compared_0 (i := 6) rfl
theorem dX6_compared_11 : decode cX6_compared 11 = .ok (.invokevirtual 91, 3) := vl_at vq_cX6_compared_0 (i := 7) rfl
theorem dX6_compared_14 : decode cX6_compared 14 = .ok (.if_icmp .eq 5, 3) := vl_at vq_cX6_compared_0 (i := 8) rfl
theorem dX6_compared_17 : decode cX6_compared 17 = .ok (.iconst 0, 1) := vl_at vq_cX6_compared_0 (i := 9) rfl
theorem dX6_compared_18 : decode cX6_compared 18 = .ok (.ireturn, 1) := vl_at vq_cX6_compared_0 (i := 10) rfl
theorem dX6_compared_19 : decode cX6_compared 19 = .ok (.iconst 0, 1) := vl_at vq_cX6_compared_0 (i := 11) rfl
theorem dX6_compared_20 : decode cX6_compared 20 = .ok (.istore_n 2, 1) := vl_at vq_cX6_compared_0 (i := 12) rfl
theorem dX6_compared_21 : decode cX6_compared 21 = .ok (.iload_n 2, 1) := vl_at vq_cX6_compared_0 (i := 13) rfl
theorem dX6_compared_22 : decode cX6_compared 22 = .ok (.aload_n 0, 1) := vl_at vq_cX6_compared_0 (i := 14) rfl
theorem dX6_compared_23 : decode cX6_compared 23 = .ok (.iconst 0, 1) := vl_at vq_cX6_compared_0 (i := 15) rfl
theorem dX6_compared_24 : decode cX6_compared 24 = .ok (.invokevirtual 91, 3) := vl_at vq_cX6_compared_0 (i := 16) rfl
theorem dX6_compared_27 : decode cX6_compared 27 = .ok (.if_icmp .ge 52, 3) := vl_at vq_cX6_compared_0 (i := 17) rfl
theorem dX6_compared_30 : decode cX6_compared 30 = .ok (.aload_n 0, 1) := vl_at vq_cX6_compared_0 (i := 18) rfl
theorem dX6_compared_31 : decode cX6_compared 31 = .ok (.iconst 0, 1) := vl_at vq_cX6_compared_0 (i := 19) rfl
theorem dX6_compared_32 : decode cX6_compared 32 = .ok (.iload_n 2, 1) := vl_at vq_cX6_compared_0 (i := 20) rfl
theorem dX6_compared_33 : decode cX6_compared 33 = .ok (.invokevirtual 131, 3) := vl_at vq_cX6_compared_0 (i := 21) rfl
theorem dX6_compared_36 : decode cX6_compared 36 = .ok (.invokestatic 154, 3) := vl_at vq_cX6_compared_0 (i := 22) rfl
theorem dX6_compared_39 : decode cX6_compared 39 = .ok (.istore_n 3, 1) := vl_at vq_cX6_compared_0 (i := 23) rfl
theorem dX6_compared_40 : decode cX6_compared 40 = .ok (.iload_n 1, 1) := vl_at vq_cX6_compared_0 (i := 24) rfl
theorem dX6_compared_41 : decode cX6_compared 41 = .ok (.ifCond .eq 19, 3) := vl_at vq_cX6_compared_0 (i := 25) rfl
theorem dX6_compared_44 : decode cX6_compared 44 = .ok (.aload_n 0, 1) := vl_at vq_cX6_compared_0 (i := 26) rfl
theorem dX6_compared_45 : decode cX6_compared 45 = .ok (.iconst 1, 1) := vl_at vq_cX6_compared_0 (i := 27) rfl
theorem dX6_compared_46 : decode cX6_compared 46 = .ok (.iload_n 2, 1) := vl_at vq_cX6_compared_0 (i := 28) rfl
theorem dX6_compared_47 : decode cX6_compared 47 = .ok (.invokevirtual 131, 3) := vl_at vq_cX6_compared_0 (i := 29) rfl
theorem dX6_compared_50 : decode cX6_compared 50 = .ok (.invokestatic 154, 3) := vl_at vq_cX6_compared_0 (i := 30) rfl
theorem dX6_compared_53 : decode cX6_compared 53 = .ok (.iload_n 3, 1) := vl_at vq_cX6_compared_0 (i := 31) rfl
theorem dX6_compared_54 : decode cX6_compared 54 = .ok (.if_icmp .eq 19, 3) := vl_at vq_cX6_compared_0 (i := 32) rfl
theorem dX6_compared_57 : decode cX6_compared 57 = .ok (.goto 14, 3) := vl_at vq_cX6_compared_0 (i := 33) rfl
theorem dX6_compared_60 : decode cX6_compared 60 = .ok (.aload_n 0, 1) := vl_at vq_cX6_compared_0 (i := 34) rfl
theorem dX6_compared_61 : decode cX6_compared 61 = .ok (.iconst 1, 1) := vl_at vq_cX6_compared_0 (i := 35) rfl
theorem dX6_compared_62 : decode cX6_compared 62 = .ok (.iload_n 3, 1) := vl_at vq_cX6_compared_0 (i := 36) rfl
theorem dX6_compared_63 : decode cX6_compared 63 = .ok (.iconst 0, 1) := vl_at vq_cX6_compared_0 (i := 37) rfl
theorem dX6_compared_64 : decode cX6_compared 64 = .ok (.invokevirtual 160, 3) := vl_at vq_cX6_compared_0 (i := 38) rfl
theorem dX6_compared_67 : decode cX6_compared 67 = .ok (.iconst (-1), 1) := vl_at vq_cX6_compared_0 (i := 39) rfl
noncomputable def vl_cX6_compared_1 : List (Nat × Instr × Nat) := [(68, .if_icmp .ne 5, 3), (71, .iconst 0, 1), (72, .ireturn, 1), (73, .iinc 2 1, 3), (76, .goto (-55), 3), (79, .iconst 1, 1), (80, .ireturn, 1)]
theorem vq_cX6_compared_1 : vl_ok cX6_compared vl_cX6_compared_1 = true := by decide +kernel
theorem dX6_compared_68 : decode cX6_compared 68 = .ok (.if_icmp .ne 5, 3) := vl_at vq_cX6_compared_1 (i := 0) rfl
theorem dX6_compared_71 : decode cX6_compared 71 = .ok (.iconst 0, 1) := vl_at vq_cX6_compared_1 (i := 1) rfl
theorem dX6_compared_72 : decode cX6_compared 72 = .ok (.ireturn, 1) := vl_at vq_cX6_compared_1 (i := 2) rfl
theorem dX6_compared_73 : decode cX6_compared 73 = .ok (.iinc 2 1, 3) := vl_at vq_cX6_compared_1 (i := 3) rfl
theorem dX6_compared_76 : decode cX6_compared 76 = .ok (.goto (-55), 3) := vl_at vq_cX6_compared_1 (i := 4) rfl
theorem dX6_compared_79 : decode cX6_compared 79 = .ok (.iconst 1, 1) := vl_at vq_cX6_compared_1 (i := 5) rfl
theorem dX6_compared_80 : decode cX6_compared 80 = .ok (.ireturn, 1) := vl_at vq_cX6_compared_1 (i := 6) rfl
noncomputable def vl_cX6_compare_0 : List (Nat × Instr × Nat) := [(0, .aload_n 0, 1), (1, .iconst 0, 1), (2, .putfield 37, 3), (5, .aload_n 0, 1), (6, .iload_n 1, 1), (7, .invokevirtual 209, 3), (10, .ireturn, 1)]
theorem vq_cX6_compare_0 : vl_ok cX6_compare vl_cX6_compare_0 = true := by decide +kernel
theorem dX6_compare_0 : decode cX6_compare 0 = .ok (.aload_n 0, 1) := vl_at vq_cX6_compare_0 (i := 0) rfl
theorem dX6_compare_1 : decode cX6_compare 1 = .ok (.iconst 0, 1) := vl_at vq_cX6_compare_0 (i := 1) rfl
theorem dX6_compare_2 : decode cX6_compare 2 = .ok (.putfield 37, 3) := vl_at vq_cX6_compare_0 (i := 2) rfl
theorem dX6_compare_5 : decode cX6_compare 5 = .ok (.aload_n 0, 1) := vl_at vq_cX6_compare_0 (i := 3) rfl
theorem dX6_compare_6 : decode cX6_compare 6 = .ok (.iload_n 1, 1) := vl_at vq_cX6_compare_0 (i := 4) rfl
theorem dX6_compare_7 : decode cX6_compare 7 = .ok (.invokevirtual 209, 3) := vl_at vq_cX6_compare_0 (i := 5) rfl
theorem dX6_compare_10 : decode cX6_compare 10 = .ok (.ireturn, 1) := vl_at vq_cX6_compare_0 (i := 6) rfl
noncomputable def vl_cX6_textOf_0 : List (Nat × Instr × Nat) := [(0, .new 213, 3), (3, .dup, 1), (4, .invokespecial 215, 3), (7, .astore_n 3, 1), (8, .iconst 0, 1), (9, .istore 4, 2), (11, .iload 4, 2), (13, .aload_n 0, 1), (14, .iload_n 1, 1), (15, .invokevirtual 91, 3), (18, .if_icmp .ge 53, 3), (21, .aload_n 3, 1), (22, .iload 4, 2), (24, .ifCond .ne 8, 3), (27, .ldc 216, 2), (29, .goto 5, 3), (32, .ldc 218, 2), (34, .invokevirtual 220, 3), (37, .aload_n 0, 1), (38, .iload_n 1, 1), (39, .iload_n 2, 1), (40, .ifCond .eq 16, 3), (43, .aload_n 0, 1), (44, .iload_n 1, 1), (45, .invokevirtual 91, 3), (48, .iconst 1, 1), (49, .isub, 1), (50, .iload 4, 2), (52, .isub, 1), (53, .goto 5, 3), (56, .iload 4, 2), (58, .invokevirtual 131, 3), (61, .invokevirtual 224, 3), (64, .pop, 1), (65, .iinc 4 1, 3), (68, .goto (-57), 3), (71, .aload_n 3, 1), (72, .invokevirtual 227, 3), (75, .areturn, 1)]
theorem vq_cX6_textOf_0 : vl_ok cX6_textOf vl_cX6_textOf_0 = true := by decide +kernel
theorem dX6_textOf_0 : decode cX6_textOf 0 = .ok (.new 213, 3) := vl_at vq_cX6_textOf_0 (i := 0) rfl
theorem dX6_textOf_3 : decode cX6_textOf 3 = .ok (.dup, 1) := vl_at vq_cX6_textOf_0 (i := 1) rfl
theorem dX6_textOf_4 : decode cX6_textOf 4 = .ok (.invokespecial 215, 3) := vl_at vq_cX6_textOf_0 (i := 2) rfl
theorem dX6_textOf_7 : decode cX6_textOf 7 = .ok (.astore_n 3, 1) := vl_at vq_cX6_textOf_0 (i := 3) rfl
theorem dX6_textOf_8 : decode cX6_textOf 8 = .ok (.iconst 0, 1) := vl_at vq_cX6_textOf_0 (i := 4) rfl
theorem dX6_textOf_9 : decode cX6_textOf 9 = .ok (.istore 4, 2) := vl_at vq_cX6_textOf_0 (i := 5) rfl
theorem dX6_textOf_11 : decode cX6_textOf 11 = .ok (.iload 4, 2) := vl_at vq_cX6_textOf_0 (i := 6) rfl
theorem dX6_textOf_13 : decode cX6_textOf 13 = .ok (.aload_n 0, 1) := vl_at vq_cX6_textOf_0 (i := 7) rfl
theorem dX6_textOf_14 : decode cX6_textOf 14 = .ok (.iload_n 1, 1) := vl_at vq_cX6_textOf_0 (i := 8) rfl
theorem dX6_textOf_15 : decode cX6_textOf 15 = .ok (.invokevirtual 91, 3) := vl_at vq_cX6_textOf_0 (i := 9) rfl
theorem dX6_textOf_18 : decode cX6_textOf 18 = .ok (.if_icmp .ge 53, 3) := vl_at vq_cX6_textOf_0 (i := 10) rfl
theorem dX6_textOf_21 : decode cX6_textOf 21 = .ok (.aload_n 3, 1) := vl_at vq_cX6_textOf_0 (i := 11) rfl
theorem dX6_textOf_22 : decode cX6_textOf 22 = .ok (.iload 4, 2) := vl_at vq_cX6_textOf_0 (i := 12) rfl
theorem dX6_textOf_24 : decode cX6_textOf 24 = .ok (.ifCond .ne 8, 3) := vl_at vq_cX6_textOf_0 (i := 13) rfl
theorem dX6_textOf_27 : decode cX6_textOf 27 = .ok (.ldc 216, 2) := vl_at vq_cX6_textOf_0 (i := 14) rfl
theorem dX6_textOf_29 : decode cX6_textOf 29 = .ok (.goto 5, 3) := vl_at vq_cX6_textOf_0 (i := 15) rfl
theorem dX6_textOf_32 : decode cX6_textOf 32 = .ok (.ldc 218, 2) := vl_at vq_cX6_textOf_0 (i := 16) rfl
theorem dX6_textOf_34 : decode cX6_textOf 34 = .ok (.invokevirtual 220, 3) := vl_at vq_cX6_textOf_0 (i := 17) rfl
theorem dX6_textOf_37 : decode cX6_textOf 37 = .ok (.aload_n 0, 1) := vl_at vq_cX6_textOf_0 (i := 18) rfl
theorem dX6_textOf_38 : decode cX6_textOf 38 = .ok (.iload_n 1, 1) := vl_at vq_cX6_textOf_0 (i := 19) rfl
theorem dX6_textOf_39 : decode cX6_textOf 39 = .ok (.iload_n 2, 1) := vl_at vq_cX6_textOf_0 (i := 20) rfl
theorem dX6_textOf_40 : decode cX6_textOf 40 = .ok (.ifCond .eq 16, 3) := vl_at vq_cX6_textOf_0 (i := 21) rfl
theorem dX6_textOf_43 : decode cX6_textOf 43 = .ok (.aload_n 0, 1) := vl_at vq_cX6_textOf_0 (i := 22) rfl
theorem dX6_textOf_44 : decode cX6_textOf 44 = .ok (.iload_n 1, 1) := vl_at vq_cX6_textOf_0 (i := 23) rfl
theorem dX6_textOf_45 : decode cX6_textOf 45 = .ok (.invokevirtual 91, 3) := vl_at vq_cX6_textOf_0 (i := 24) rfl
theorem dX6_textOf_48 : decode cX6_textOf 48 = .ok (.iconst 1, 1) := vl_at vq_cX6_textOf_0 (i := 25) rfl
theorem dX6_textOf_49 : decode cX6_textOf 49 = .ok (.isub, 1) := vl_at vq_cX6_textOf_0 (i := 26) rfl
theorem dX6_textOf_50 : decode cX6_textOf 50 = .ok (.iload 4, 2) := vl_at vq_cX6_textOf_0 (i := 27) rfl
theorem dX6_textOf_52 : decode cX6_textOf 52 = .ok (.isub, 1) := vl_at vq_cX6_textOf_0 (i := 28) rfl
theorem dX6_textOf_53 : decode cX6_textOf 53 = .ok (.goto 5, 3) := vl_at vq_cX6_textOf_0 (i := 29) rfl
theorem dX6_textOf_56 : decode cX6_textOf 56 = .ok (.iload 4, 2) := vl_at vq_cX6_textOf_0 (i := 30) rfl
theorem dX6_textOf_58 : decode cX6_textOf 58 = .ok (.invokevirtual 131, 3) := vl_at vq_cX6_textOf_0 (i := 31) rfl
theorem dX6_textOf_61 : decode cX6_textOf 61 = .ok (.invokevirtual 224, 3) := vl_at vq_cX6_textOf_0 (i := 32) rfl
theorem dX6_textOf_64 : decode cX6_textOf 64 = .ok (.pop, 1) := vl_at vq_cX6_textOf_0 (i := 33) rfl
theorem dX6_textOf_65 : decode cX6_textOf 65 = .ok (.iinc 4 1, 3) := vl_at vq_cX6_textOf_0 (i := 34) rfl
theorem dX6_textOf_68 : decode cX6_textOf 68 = .ok (.goto (-57), 3) := vl_at vq_cX6_textOf_0 (i := 35) rfl
theorem dX6_textOf_71 : decode cX6_textOf 71 = .ok (.aload_n 3, 1) := vl_at vq_cX6_textOf_0 (i := 36) rfl
theorem dX6_textOf_72 : decode cX6_textOf 72 = .ok (.invokevirtual 227, 3) := vl_at vq_cX6_textOf_0 (i := 37) rfl
theorem dX6_textOf_75 : decode cX6_textOf 75 = .ok (.areturn, 1) := vl_at vq_cX6_textOf_0 (i := 38) rfl
noncomputable def vl_cX6_text_0 : List (Nat × Instr × Nat) := [(0, .aload_n 0, 1), (1, .iload_n 1, 1), (2, .invokestatic 106, 3), (5, .iconst 1, 1), (6, .invokevirtual 110, 3), (9, .ifCond .eq 8, 3), (12, .ldc 216, 2), (14, .goto 9, 3), (17, .aload_n 0, 1), (18, .iload_n 1, 1), (19, .iload_n 2, 1), (20, .invokevirtual 231, 3), (23, .areturn, 1)]
theorem vq_cX6_text_0 : vl_ok cX6_text vl_cX6_text_0 = true := by decide +kernel
theorem dX6_text_0 : decode cX6_text 0 = .ok (.aload_n 0, 1) := vl_at vq_cX6_text_0 (i := 0) rfl
theorem dX6_text_1 : decode cX6_text 1 = .ok (.iload_n 1, 1) := vl_at vq_cX6_text_0 (i := 1) rfl
theorem dX6_text_2 : decode cX6_text 2 = .ok (.invokestatic 106, 3) := vl_at vq_cX6_text_0 (i := 2) rfl
theorem dX6_text_5 : decode cX6_text 5 = .ok (.iconst 1, 1) := vl_at vq_cX6_text_0 (i := 3) rfl
theorem dX6_text_6 : decode cX6_text 6 = .ok (.invokevirtual 110, 3) := vl_at vq_cX6_text_0 (i := 4) rfl
theorem dX6_text_9 : decode cX6_text 9 = .ok (.ifCond .eq 8, 3) := vl_at vq_cX6_text_0 (i := 5) rfl
theorem dX6_text_12 : decode cX6_text 12 = .ok (.ldc 216, 2) := vl_at vq_cX6_text_0 (i := 6) rfl
theorem dX6_text_14 : decode cX6_text 14 = .ok (.goto 9, 3) := vl_at vq_cX6_text_0 (i := 7) rfl
theorem dX6_text_17 : decode cX6_text 17 = .ok (.aload_n 0, 1) := vl_at vq_cX6_text_0 (i := 8) rfl
theorem dX6_text_18 : decode cX6_text 18 = .ok (.iload_n 1, 1) := vl_at vq_cX6_text_0 (i := 9) rfl
theorem dX6_text_19 : decode cX6_text 19 = .ok (.iload_n 2, 1) := vl_at vq_cX6_text_0 (i := 10) rfl
theorem dX6_text_20 : decode cX6_text 20 = .ok (.invokevirtual 231, 3) := vl_at vq_cX6_text_0 (i := 11) rfl
theorem dX6_text_23 : decode cX6_text 23 = .ok (.areturn, 1) := vl_at vq_cX6_text_0 (i := 12) rfl
noncomputable def vl_cX6_nestedNow_0 : List (Nat × Instr × Nat) := [(0, .bipush 21, 2), (2, .newarray .int, 2), (4, .astore_n 2, 1), (5, .iconst 0, 1), (6, .istore_n 3, 1), (7, .iconst 0, 1), (8, .istore 4, 2), (10, .iconst 0, 1), (11, .istore 5, 2), (13, .iload 5, 2), (15, .aload_n 0, 1), (16, .iload_n 1, 1), (17, .invokevirtual 91, 3), (20, .if_icmp .ge 84, 3), (23, .aload_n 0, 1), (24, .iload_n 1, 1), (25, .iload 5, 2), (27, .invokevirtual 131, 3), (30, .invokestatic 154, 3), (33, .istore 6, 2), (35, .iload 6, 2), (37, .ifCond .eq 61, 3), (40, .iload 6, 2), (42, .bipush 9, 2), (44, .if_icmp .ne 6, 3), (47, .goto 51, 3), (50, .iload 6, 2), (52, .iconst 2, 1), (53, .irem, 1), (54, .iconst 1, 1), (55, .if_icmp .ne 22, 3), (58, .aload_n 2, 1), (59, .iload_n 3, 1), (60, .iload 6, 2), (62, .iastore, 1), (63, .iinc 3 1, 3), (66, .iload 4, 2), (68, .iload_n 3, 1), (69, .invokestatic 235, 3), (72, .istore 4, 2)]
theorem vq_cX6_nestedNow_0 : vl_ok cX6_nestedNow vl_cX6_nestedNow_0 = true := by decide +kernel
theorem dX6_nestedNow_0 : decode cX6_nestedNow 0 = .ok (.bipush 21, 2) := vl_at vq_cX6_nestedNow_0 (i := 0) rfl
theorem dX6_nestedNow_2 : decode cX6_nestedNow 2 = .ok (.newarray .int, 2) := vl_at vq_cX6_nestedNow_0 (i := 1) rfl
theorem dX6_nestedNow_4 : decode cX6_nestedNow 4 = .ok (.astore_n 2, 1) := vl_at vq_cX6_nestedNow_0 (i := 2) rfl
theorem dX6_nestedNow_5 : decode cX6_nestedNow 5 = .ok (.iconst 0, 1) := vl_at vq_cX6_nestedNow_0 (i := 3) rfl
theorem dX6_nestedNow_6 : decode cX6_nestedNow 6 = .ok (.istore_n 3, 1) := vl_at vq_cX6_nestedNow_0 (i := 4) rfl
theorem dX6_nestedNow_7 : decode cX6_nestedNow 7 = .ok (.iconst 0, 1) := vl_at vq_cX6_nestedNow_0 (i := 5) rfl
theorem dX6_nestedNow_8 : decode cX6_nestedNow 8 = .ok (.istore 4, 2) := vl_at vq_cX6_nestedNow_0 (i := 6) rfl
theorem dX6_nestedNow_10 : decode cX6_nestedNow 10 = .ok (.iconst 0, 1) := vl_at vq_cX6_nestedNow_0 (i := 7) rfl
theorem dX6_nestedNow_11 : decode cX6_nestedNow 11 = .ok (.istore 5, 2) := vl_at vq_cX6_nestedNow_0 (i := 8) rfl
theorem dX6_nestedNow_13 : decode cX6_nestedNow 13 = .ok (.iload 5, 2) := vl_at vq_cX6_nestedNow_0 (i := 9) rfl
theorem dX6_nestedNow_15 : decode cX6_nestedNow 15 = .ok (.aload_n 0, 1) := vl_at vq_cX6_nestedNow_0 (i := 10) rfl
theorem dX6_nestedNow_16 : decode cX6_nestedNow 16 = .ok (.iload_n 1, 1) := vl_at vq_cX6_nestedNow_0 (i := 11) rfl
theorem dX6_nestedNow_17 : decode cX6_nestedNow 17 = .ok (.invokevirtual 91, 3) := vl_at vq_cX6_nestedNow_0 (i := 12) rfl
theorem dX6_nestedNow_20 : decode cX6_nestedNow 20 = .ok (.if_icmp .ge 84, 3) := vl_at vq_cX6_nestedNow_0 (i := 13) rfl
theorem dX6_nestedNow_23 : decode cX6_nestedNow 23 = .ok (.aload_n 0, 1) := vl_at vq_cX6_nestedNow_0 (i := 14) rfl
theorem dX6_nestedNow_24 : decode cX6_nestedNow 24 = .ok (.iload_n 1, 1) := vl_at vq_cX6_nestedNow_0 (i := 15) rfl
theorem dX6_nestedNow_25 : decode cX6_nestedNow 25 = .ok (.iload 5, 2) := vl_at vq_cX6_nestedNow_0 (i := 16) rfl
theorem dX6_nestedNow_27 : decode cX6_nestedNow 27 = .ok (.invokevirtual 131, 3) := vl_at vq_cX6_nestedNow_0 (i := 17) rfl
theorem dX6_nestedNow_30 : decode cX6_nestedNow 30 = .ok (.invokestatic 154, 3) := vl_at vq_cX6_nestedNow_0 (i := 18) rfl
theorem dX6_nestedNow_33 : decode cX6_nestedNow 33 = .ok (.istore 6, 2) := vl_at vq_cX6_nestedNow_0 (i := 19) rfl
theorem dX6_nestedNow_35 : decode cX6_nestedNow 35 = .ok (.iload 6, 2) := vl_at vq_cX6_nestedNow_0 (i := 20) rfl
theorem dX6_nestedNow_37 : decode cX6_nestedNow 37 = .ok (.ifCond .eq 61, 3) := vl_at vq_cX6_nestedNow_0 (i := 21) rfl
theorem dX6_nestedNow_40 : decode cX6_nestedNow 40 = .ok (.iload 6, 2) := vl_at vq_cX6_nestedNow_0 (i := 22) rfl
theorem dX6_nestedNow_42 : decode cX6_nestedNow 42 = .ok (.bipush 9, 2) := vl_at vq_cX6_nestedNow_0 (i := 23) rfl
theorem dX6_nestedNow_44 : decode cX6_nestedNow 44 = .ok (.if_icmp .ne 6, 3) := vl_at vq_cX6_nestedNow_0 (i := 24) rfl
theorem dX6_nestedNow_47 : decode cX6_nestedNow 47 = .ok (.goto 51, 3) := vl_at vq_cX6_nestedNow_0 (i := 25) rfl
theorem dX6_nestedNow_50 : decode cX6_nestedNow 50 = .ok (.iload 6, 2) := vl_at vq_cX6_nestedNow_0 (i := 26) rfl
theorem dX6_nestedNow_52 : decode cX6_nestedNow 52 = .ok (.iconst 2, 1) := vl_at vq_cX6_nestedNow_0 (i := 27) rfl
theorem dX6_nestedNow_53 : decode cX6_nestedNow 53 = .ok (.irem, 1) := vl_at vq_cX6_nestedNow_0 (i := 28) rfl
theorem dX6_nestedNow_54 : decode cX6_nestedNow 54 = .ok (.iconst 1, 1) := vl_at vq_cX6_nestedNow_0 (i := 29) rfl
theorem dX6_nestedNow_55 : decode cX6_nestedNow 55 = .ok (.if_icmp .ne 22, 3) := vl_at vq_cX6_nestedNow_0 (i := 30) rfl
theorem dX6_nestedNow_58 : decode cX6_nestedNow 58 = .ok (.aload_n 2, 1) := vl_at vq_cX6_nestedNow_0 (i := 31) rfl
theorem dX6_nestedNow_59 : decode cX6_nestedNow 59 = .ok (.iload_n 3, 1) := vl_at vq_cX6_nestedNow_0 (i := 32) rfl
theorem dX6_nestedNow_60 : decode cX6_nestedNow 60 = .ok (.iload 6, 2) := vl_at vq_cX6_nestedNow_0 (i := 33) rfl
theorem dX6_nestedNow_62 : decode cX6_nestedNow 62 = .ok (.iastore, 1) := vl_at vq_cX6_nestedNow_0 (i := 34) rfl
theorem dX6_nestedNow_63 : decode cX6_nestedNow 63 = .ok (.iinc 3 1, 3) := vl_at vq_cX6_nestedNow_0 (i := 35) rfl
theorem dX6_nestedNow_66 : decode cX6_nestedNow 66 = .ok (.iload 4, 2) := vl_at vq_cX6_nestedNow_0 (i := 36) rfl
theorem dX6_nestedNow_68 : decode cX6_nestedNow 68 = .ok (.iload_n 3, 1) := vl_at vq_cX6_nestedNow_0 (i := 37) rfl
theorem dX6_nestedNow_69 : decode cX6_nestedNow 69 = .ok (.invokestatic 235, 3) := vl_at vq_cX6_nestedNow_0 (i := 38) rfl
theorem dX6_nestedNow_72 : decode cX6_nestedNow 72 = .ok (.istore 4, 2) := vl_at vq_cX6_nestedNow_0 (i := 39) rfl
noncomputable def vl_cX6_nestedNow_1 : List (Nat × Instr × Nat) := [(74, .goto 24, 3), (77, .iload_n 3, 1), (78, .ifCond .eq 15, 3), (81, .aload_n 2, 1), (82, .iload_n 3, 1), (83, .iconst 1, 1), (84, .isub, 1), (85, .iaload, 1), (86, .iload 6, 2), (88, .iconst 1, 1), (89, .isub, 1), (90, .if_icmp .eq 5, 3), (93, .iconst (-1), 1), (94, .ireturn, 1), (95, .iinc 3 (-1), 3), (98, .iinc 5 1, 3), (101, .goto (-88), 3), (104, .iload_n 3, 1), (105, .ifCond .ne 8, 3), (108, .iload 4, 2), (110, .goto 4, 3), (113, .iconst (-1), 1), (114, .ireturn, 1)]
theorem vq_cX6_nestedNow_1 : vl_ok cX6_nestedNow vl_cX6_nestedNow_1 = true := by decide +kernel
theorem dX6_nestedNow_74 : decode cX6_nestedNow 74 = .ok (.goto 24, 3) := vl_at vq_cX6_nestedNow_1 (i := 0) rfl
theorem dX6_nestedNow_77 : decode cX6_nestedNow 77 = .ok (.iload_n 3, 1) := vl_at vq_cX6_nestedNow_1 (i := 1) rfl
theorem dX6_nestedNow_78 : decode cX6_nestedNow 78 = .ok (.ifCond .eq 15, 3) := vl_at vq_cX6_nestedNow_1 (i := 2) rfl
theorem dX6_nestedNow_81 : decode cX6_nestedNow 81 = .ok (.aload_n 2, 1) := vl_at vq_cX6_nestedNow_1 (i := 3) rfl
theorem dX6_nestedNow_82 : decode cX6_nestedNow 82 = .ok (.iload_n 3, 1) := vl_at vq_cX6_nestedNow_1 (i := 4) rfl
theorem dX6_nestedNow_83 : decode cX6_nestedNow 83 = .ok (.iconst 1, 1) := vl_at vq_cX6_nestedNow_1 (i := 5) rfl
theorem dX6_nestedNow_84 : decode cX6_nestedNow 84 = .ok (.isub, 1) := vl_at vq_cX6_nestedNow_1 (i := 6) rfl
theorem dX6_nestedNow_85 : decode cX6_nestedNow 85 = .ok (.iaload, 1) := vl_at vq_cX6_nestedNow_1 (i := 7) rfl
theorem dX6_nestedNow_86 : decode cX6_nestedNow 86 = .ok (.iload 6, 2) := vl_at vq_cX6_nestedNow_1 (i := 8) rfl
theorem dX6_nestedNow_88 : decode cX6_nestedNow 88 = .ok (.iconst 1, 1) := vl_at vq_cX6_nestedNow_1 (i := 9) rfl
theorem dX6_nestedNow_89 : decode cX6_nestedNow 89 = .ok (.isub, 1) := vl_at vq_cX6_nestedNow_1 (i := 10) rfl
theorem dX6_nestedNow_90 : decode cX6_nestedNow 90 = .ok (.if_icmp .eq 5, 3) := vl_at vq_cX6_nestedNow_1 (i := 11) rfl
theorem dX6_nestedNow_93 : decode cX6_nestedNow 93 = .ok (.iconst (-1), 1) := vl_at vq_cX6_nestedNow_1 (i := 12) rfl
theorem dX6_nestedNow_94 : decode cX6_nestedNow 94 = .ok (.ireturn, 1) := vl_at vq_cX6_nestedNow_1 (i := 13) rfl
theorem dX6_nestedNow_95 : decode cX6_nestedNow 95 = .ok (.iinc 3 (-1), 3) := vl_at vq_cX6_nestedNow_1 (i := 14) rfl
theorem dX6_nestedNow_98 : decode cX6_nestedNow 98 = .ok (.iinc 5 1, 3) := vl_at vq_cX6_nestedNow_1 (i := 15) rfl
theorem dX6_nestedNow_101 : decode cX6_nestedNow 101 = .ok (.goto (-88), 3) := vl_at vq_cX6_nestedNow_1 (i := 16) rfl
theorem dX6_nestedNow_104 : decode cX6_nestedNow 104 = .ok (.iload_n 3, 1) := vl_at vq_cX6_nestedNow_1 (i := 17) rfl
theorem dX6_nestedNow_105 : decode cX6_nestedNow 105 = .ok (.ifCond .ne 8, 3) := vl_at vq_cX6_nestedNow_1 (i := 18) rfl
theorem dX6_nestedNow_108 : decode cX6_nestedNow 108 = .ok (.iload 4, 2) := vl_at vq_cX6_nestedNow_1 (i := 19) rfl
theorem dX6_nestedNow_110 : decode cX6_nestedNow 110 = .ok (.goto 4, 3) := vl_at vq_cX6_nestedNow_1 (i := 20) rfl
theorem dX6_nestedNow_113 : decode cX6_nestedNow 113 = .ok (.iconst (-1), 1) := vl_at vq_cX6_nestedNow_1 (i := 21) rfl
theorem dX6_nestedNow_114 : decode cX6_nestedNow 114 = .ok (.ireturn, 1) := vl_at vq_cX6_nestedNow_1 (i := 22) rfl
noncomputable def vl_cX6_nested_0 : List (Nat × Instr × Nat) := [(0, .aload_n 0, 1), (1, .iload_n 1, 1), (2, .invokestatic 106, 3), (5, .iconst 1, 1), (6, .invokevirtual 110, 3), (9, .ifCond .eq 7, 3), (12, .iconst 0, 1), (13, .goto 8, 3), (16, .aload_n 0, 1), (17, .iload_n 1, 1), (18, .invokevirtual 238, 3), (21, .ireturn, 1)]
theorem vq_cX6_nested_0 : vl_ok cX6_nested vl_cX6_nested_0 = true := by decide +kernel
theorem dX6_nested_0 : decode cX6_nested 0 = .ok (.aload_n 0, 1) := vl_at vq_cX6_nested_0 (i := 0) rfl
theorem dX6_nested_1 : decode cX6_nested 1 = .ok (.iload_n 1, 1) := vl_at vq_cX6_nested_0 (i := 1) rfl
theorem dX6_nested_2 : decode cX6_nested 2 = .ok (.invokestatic 106, 3) := vl_at vq_cX6_nested_0 (i := 2) rfl
theorem dX6_nested_5 : decode cX6_nested 5 = .ok (.iconst 1, 1) := vl_at vq_cX6_nested_0 (i := 3) rfl
theorem dX6_nested_6 : decode cX6_nested 6 = .ok (.invokevirtual 110, 3) := vl_at vq_cX6_nested_0 (i := 4) rfl
theorem dX6_nested_9 : decode cX6_nested 9 = .ok (.ifCond .eq 7, 3) := vl_at vq_cX6_nested_0 (i := 5) rfl
theorem dX6_nested_12 : decode cX6_nested 12 = .ok (.iconst 0, 1) := vl_at vq_cX6_nested_0 (i := 6) rfl
theorem dX6_nested_13 : decode cX6_nested 13 = .ok (.goto 8, 3) := vl_at vq_cX6_nested_0 (i := 7) rfl
theorem dX6_nested_16 : decode cX6_nested 16 = .ok (.aload_n 0, 1) := vl_at vq_cX6_nested_0 (i := 8) rfl
theorem dX6_nested_17 : decode cX6_nested 17 = .ok (.iload_n 1, 1) := vl_at vq_cX6_nested_0 (i := 9) rfl
theorem dX6_nested_18 : decode cX6_nested 18 = .ok (.invokevirtual 238, 3) := vl_at vq_cX6_nested_0 (i := 10) rfl
theorem dX6_nested_21 : decode cX6_nested 21 = .ok (.ireturn, 1) := vl_at vq_cX6_nested_0 (i := 11) rfl
noncomputable def vl_cX6_heaviest_0 : List (Nat × Instr × Nat) := [(0, .aload_n 0, 1), (1, .iload_n 1, 1), (2, .invokestatic 106, 3), (5, .ifCond .ne 11, 3), (8, .aload_n 0, 1), (9, .iload_n 3, 1), (10, .invokevirtual 177, 3), (13, .ifCond .eq 7, 3), (16, .iconst 1, 1), (17, .goto 4, 3), (20, .iconst 0, 1), (21, .iconst 1, 1), (22, .invokevirtual 110, 3), (25, .ifCond .ne 26, 3), (28, .aload_n 0, 1), (29, .iload_n 2, 1), (30, .iconst 1, 1), (31, .bipush 20, 2), (33, .invokestatic 44, 3), (36, .ifCond .ne 7, 3), (39, .iconst 1, 1), (40, .goto 4, 3), (43, .iconst 0, 1), (44, .iconst 2, 1), (45, .invokevirtual 40, 3), (48, .ifCond .eq 5, 3), (51, .iconst 0, 1), (52, .ireturn, 1), (53, .iload_n 3, 1), (54, .iload_n 2, 1), (55, .iadd, 1), (56, .aload_n 0, 1), (57, .iload_n 1, 1), (58, .invokevirtual 91, 3), (61, .if_icmp .le 5, 3), (64, .iconst (-1), 1), (65, .ireturn, 1), (66, .iconst 0, 1), (67, .istore 4, 2), (69, .iconst 0, 1)]
theorem vq_cX6_heaviest_0 : vl_ok cX6_heaviest vl_cX6_heaviest_0 = true := by decide +kernel
theorem dX6_heaviest_0 : decode cX6_heaviest 0 = .ok (.aload_n 0, 1) := vl_at vq_cX6_heaviest_0 (i := 0) rfl
theorem dX6_heaviest_1 : decode cX6_heaviest 1 = .ok (.iload_n 1, 1) := vl_at vq_cX6_heaviest_0 (i := 1) rfl
theorem dX6_heaviest_2 : decode cX6_heaviest 2 = .ok (.invokestatic 106, 3) := vl_at vq_cX6_heaviest_0 (i := 2) rfl
theorem dX6_heaviest_5 : decode cX6_heaviest 5 = .ok (.ifCond .ne 11, 3) := vl_at vq_cX6_heaviest_0 (i := 3) rfl
theorem dX6_heaviest_8 : decode cX6_heaviest 8 = .ok (.aload_n 0, 1) := vl_at vq_cX6_heaviest_0 (i := 4) rfl
theorem dX6_heaviest_9 : decode cX6_heaviest 9 = .ok (.iload_n 3, 1) := vl_at vq_cX6_heaviest_0 (i := 5) rfl
theorem dX6_heaviest_10 : decode cX6_heaviest 10 = .ok (.invokevirtual 177, 3) := vl_at vq_cX6_heaviest_0 (i := 6) rfl
theorem dX6_heaviest_13 : decode cX6_heaviest 13 = .ok (.ifCond .eq 7, 3) := vl_at vq_cX6_heaviest_0 (i := 7) rfl
theorem dX6_heaviest_16 : decode cX6_heaviest 16 = .ok (.iconst 1, 1) := vl_at vq_cX6_heaviest_0 (i := 8) rfl
theorem dX6_heaviest_17 : decode cX6_heaviest 17 = .ok (.goto 4, 3) := vl_at vq_cX6_heaviest_0 (i := 9) rfl
theorem dX6_heaviest_20 : decode cX6_heaviest 20 = .ok (.iconst 0, 1) := vl_at vq_cX6_heaviest_0 (i := 10) rfl
theorem dX6_heaviest_21 : decode cX6_heaviest 21 = .ok (.iconst 1, 1) := vl_at vq_cX6_heaviest_0 (i := 11) rfl
theorem dX6_heaviest_22 : decode cX6_heaviest 22 = .ok (.invokevirtual 110, 3) := vl_at vq_cX6_heaviest_0 (i := 12) rfl
theorem dX6_heaviest_25 : decode cX6_heaviest 25 = .ok (.ifCond .ne 26, 3) := vl_at vq_cX6_heaviest_0 (i := 13) rfl
theorem dX6_heaviest_28 : decode cX6_heaviest 28 = .ok (.aload_n 0, 1) := vl_at vq_cX6_heaviest_0 (i := 14) rfl
theorem dX6_heaviest_29 : decode cX6_heaviest 29 = .ok (.iload_n 2, 1) := vl_at vq_cX6_heaviest_0 (i := 15) rfl
theorem dX6_heaviest_30 : decode cX6_heaviest 30 = .ok (.iconst 1, 1) := vl_at vq_cX6_heaviest_0 (i := 16) rfl
theorem dX6_heaviest_31 : decode cX6_heaviest 31 = .ok (.bipush 20, 2) := vl_at vq_cX6_heaviest_0 (i := 17) rfl
theorem dX6_heaviest_33 : decode cX6_heaviest 33 = .ok (.invokestatic 44, 3) := vl_at vq_cX6_heaviest_0 (i := 18) rfl
theorem dX6_heaviest_36 : decode cX6_heaviest 36 = .ok (.ifCond .ne 7, 3) := vl_at vq_cX6_heaviest_0 (i := 19) rfl
theorem dX6_heaviest_39 : decode cX6_heaviest 39 = .ok (.iconst 1, 1) := vl_at vq_cX6_heaviest_0 (i := 20) rfl
theorem dX6_heaviest_40 : decode cX6_heaviest 40 = .ok (.goto 4, 3) := vl_at vq_cX6_heaviest_0 (i := 21) rfl
theorem dX6_heaviest_43 : decode cX6_heaviest 43 = .ok (.iconst 0, 1) := vl_at vq_cX6_heaviest_0 (i := 22) rfl
theorem dX6_heaviest_44 : decode cX6_heaviest 44 = .ok (.iconst 2, 1) := vl_at vq_cX6_heaviest_0 (i := 23) rfl
theorem dX6_heaviest_45 : decode cX6_heaviest 45 = .ok (.invokevirtual 40, 3) := vl_at vq_cX6_heaviest_0 (i := 24) rfl
theorem dX6_heaviest_48 : decode cX6_heaviest 48 = .ok (.ifCond .eq 5, 3) := vl_at vq_cX6_heaviest_0 (i := 25) rfl
theorem dX6_heaviest_51 : decode cX6_heaviest 51 = .ok (.iconst 0, 1) := vl_at vq_cX6_heaviest_0 (i := 26) rfl
theorem dX6_heaviest_52 : decode cX6_heaviest 52 = .ok (.ireturn, 1) := vl_at vq_cX6_heaviest_0 (i := 27) rfl
theorem dX6_heaviest_53 : decode cX6_heaviest 53 = .ok (.iload_n 3, 1) := vl_at vq_cX6_heaviest_0 (i := 28) rfl
theorem dX6_heaviest_54 : decode cX6_heaviest 54 = .ok (.iload_n 2, 1) := vl_at vq_cX6_heaviest_0 (i := 29) rfl
theorem dX6_heaviest_55 : decode cX6_heaviest 55 = .ok (.iadd, 1) := vl_at vq_cX6_heaviest_0 (i := 30) rfl
theorem dX6_heaviest_56 : decode cX6_heaviest 56 = .ok (.aload_n 0, 1) := vl_at vq_cX6_heaviest_0 (i := 31) rfl
theorem dX6_heaviest_57 : decode cX6_heaviest 57 = .ok (.iload_n 1, 1) := vl_at vq_cX6_heaviest_0 (i := 32) rfl
theorem dX6_heaviest_58 : decode cX6_heaviest 58 = .ok (.invokevirtual 91, 3) := vl_at vq_cX6_heaviest_0 (i := 33) rfl
theorem dX6_heaviest_61 : decode cX6_heaviest 61 = .ok (.if_icmp .le 5, 3) := vl_at vq_cX6_heaviest_0 (i := 34) rfl
theorem dX6_heaviest_64 : decode cX6_heaviest 64 = .ok (.iconst (-1), 1) := vl_at vq_cX6_heaviest_0 (i := 35) rfl
theorem dX6_heaviest_65 : decode cX6_heaviest 65 = .ok (.ireturn, 1) := vl_at vq_cX6_heaviest_0 (i := 36) rfl
theorem dX6_heaviest_66 : decode cX6_heaviest 66 = .ok (.iconst 0, 1) := vl_at vq_cX6_heaviest_0 (i := 37) rfl
theorem dX6_heaviest_67 : decode cX6_heaviest 67 = .ok (.istore 4, 2) := vl_at vq_cX6_heaviest_0 (i := 38) rfl
theorem dX6_heaviest_69 : decode cX6_heaviest 69 = .ok (.iconst 0, 1) := vl_at vq_cX6_heaviest_0 (i := 39) rfl
noncomputable def vl_cX6_heaviest_1 : List (Nat × Instr × Nat) := [(70, .istore 5, 2), (72, .iload 5, 2), (74, .iload_n 2, 1), (75, .if_icmp .ge 28, 3), (78, .iload 4, 2), (80, .aload_n 0, 1), (81, .iload_n 1, 1), (82, .iload_n 3, 1), (83, .iload 5, 2), (85, .iadd, 1), (86, .invokevirtual 131, 3), (89, .invokestatic 171, 3), (92, .invokestatic 235, 3), (95, .istore 4, 2), (97, .iinc 5 1, 3), (100, .goto (-28), 3), (103, .iload 4, 2), (105, .ireturn, 1)]
theorem vq_cX6_heaviest_1 : vl_ok cX6_heaviest vl_cX6_heaviest_1 = true := by decide +kernel
theorem dX6_heaviest_70 : decode cX6_heaviest 70 = .ok (.istore 5, 2) := vl_at vq_cX6_heaviest_1 (i := 0) rfl
theorem dX6_heaviest_72 : decode cX6_heaviest 72 = .ok (.iload 5, 2) := vl_at vq_cX6_heaviest_1 (i := 1) rfl
theorem dX6_heaviest_74 : decode cX6_heaviest 74 = .ok (.iload_n 2, 1) := vl_at vq_cX6_heaviest_1 (i := 2) rfl
theorem dX6_heaviest_75 : decode cX6_heaviest 75 = .ok (.if_icmp .ge 28, 3) := vl_at vq_cX6_heaviest_1 (i := 3) rfl
theorem dX6_heaviest_78 : decode cX6_heaviest 78 = .ok (.iload 4, 2) := vl_at vq_cX6_heaviest_1 (i := 4) rfl
theorem dX6_heaviest_80 : decode cX6_heaviest 80 = .ok (.aload_n 0, 1) := vl_at vq_cX6_heaviest_1 (i := 5) rfl
theorem dX6_heaviest_81 : decode cX6_heaviest 81 = .ok (.iload_n 1, 1) := vl_at vq_cX6_heaviest_1 (i := 6) rfl
theorem dX6_heaviest_82 : decode cX6_heaviest 82 = .ok (.iload_n 3, 1) := vl_at vq_cX6_heaviest_1 (i := 7) rfl
theorem dX6_heaviest_83 : decode cX6_heaviest 83 = .ok (.iload 5, 2) := vl_at vq_cX6_heaviest_1 (i := 8) rfl
theorem dX6_heaviest_85 : decode cX6_heaviest 85 = .ok (.iadd, 1) := vl_at vq_cX6_heaviest_1 (i := 9) rfl
theorem dX6_heaviest_86 : decode cX6_heaviest 86 = .ok (.invokevirtual 131, 3) := vl_at vq_cX6_heaviest_1 (i := 10) rfl
theorem dX6_heaviest_89 : decode cX6_heaviest 89 = .ok (.invokestatic 171, 3) := vl_at vq_cX6_heaviest_1 (i := 11) rfl
theorem dX6_heaviest_92 : decode cX6_heaviest 92 = .ok (.invokestatic 235, 3) := vl_at vq_cX6_heaviest_1 (i := 12) rfl
theorem dX6_heaviest_95 : decode cX6_heaviest 95 = .ok (.istore 4, 2) := vl_at vq_cX6_heaviest_1 (i := 13) rfl
theorem dX6_heaviest_97 : decode cX6_heaviest 97 = .ok (.iinc 5 1, 3) := vl_at vq_cX6_heaviest_1 (i := 14) rfl
theorem dX6_heaviest_100 : decode cX6_heaviest 100 = .ok (.goto (-28), 3) := vl_at vq_cX6_heaviest_1 (i := 15) rfl
theorem dX6_heaviest_103 : decode cX6_heaviest 103 = .ok (.iload 4, 2) := vl_at vq_cX6_heaviest_1 (i := 16) rfl
theorem dX6_heaviest_105 : decode cX6_heaviest 105 = .ok (.ireturn, 1) := vl_at vq_cX6_heaviest_1 (i := 17) rfl
noncomputable def vl_cX6_ahead_0 : List (Nat × Instr × Nat) := [(0, .aload_n 0, 1), (1, .iload_n 1, 1), (2, .invokestatic 106, 3), (5, .ifCond .ne 11, 3), (8, .aload_n 0, 1), (9, .iload_n 2, 1), (10, .invokevirtual 177, 3), (13, .ifCond .eq 7, 3), (16, .iconst 1, 1), (17, .goto 4, 3), (20, .iconst 0, 1), (21, .iconst 1, 1), (22, .invokevirtual 110, 3), (25, .ifCond .eq 5, 3), (28, .iconst 0, 1), (29, .ireturn, 1), (30, .iload_n 2, 1), (31, .aload_n 0, 1), (32, .iload_n 1, 1), (33, .invokevirtual 91, 3), (36, .if_icmp .lt 6, 3), (39, .bipush (-9), 2), (41, .ireturn, 1), (42, .iconst (-1), 1), (43, .istore_n 3, 1), (44, .iconst 0, 1), (45, .istore 4, 2), (47, .iload 4, 2), (49, .iload_n 2, 1), (50, .if_icmp .ge 34, 3), (53, .aload_n 0, 1), (54, .iload_n 1, 1), (55, .iload 4, 2), (57, .invokevirtual 131, 3), (60, .invokestatic 171, 3), (63, .aload_n 0, 1), (64, .iload_n 1, 1), (65, .iload_n 2, 1), (66, .invokevirtual 131, 3), (69, .invokestatic 171, 3)]
theorem vq_cX6_ahead_0 : vl_ok cX6_ahead vl_cX6_ahead_0 = true := by decide +kernel
theorem dX6_ahead_0 : decode cX6_ahead 0 = .ok (.aload_n 0, 1) := vl_at vq_cX6_ahead_0 (i := 0) rfl
theorem dX6_ahead_1 : decode cX6_ahead 1 = .ok (.iload_n 1, 1) := vl_at vq_cX6_ahead_0 (i := 1) rfl
theorem dX6_ahead_2 : decode cX6_ahead 2 = .ok (.invokestatic 106, 3) := vl_at vq_cX6_ahead_0 (i := 2) rfl
theorem dX6_ahead_5 : decode cX6_ahead 5 = .ok (.ifCond .ne 11, 3) := vl_at vq_cX6_ahead_0 (i := 3) rfl
theorem dX6_ahead_8 : decode cX6_ahead 8 = .ok (.aload_n 0, 1) := vl_at vq_cX6_ahead_0 (i := 4) rfl
theorem dX6_ahead_9 : decode cX6_ahead 9 = .ok (.iload_n 2, 1) := vl_at vq_cX6_ahead_0 (i := 5) rfl
theorem dX6_ahead_10 : decode cX6_ahead 10 = .ok (.invokevirtual 177, 3) := vl_at vq_cX6_ahead_0 (i := 6) rfl
theorem dX6_ahead_13 : decode cX6_ahead 13 = .ok (.ifCond .eq 7, 3) := vl_at vq_cX6_ahead_0 (i := 7) rfl
theorem dX6_ahead_16 : decode cX6_ahead 16 = .ok (.iconst 1, 1) := vl_at vq_cX6_ahead_0 (i := 8) rfl
theorem dX6_ahead_17 : decode cX6_ahead 17 = .ok (.goto 4, 3) := vl_at vq_cX6_ahead_0 (i := 9) rfl
theorem dX6_ahead_20 : decode cX6_ahead 20 = .ok (.iconst 0, 1) := vl_at vq_cX6_ahead_0 (i := 10) rfl
theorem dX6_ahead_21 : decode cX6_ahead 21 = .ok (.iconst 1, 1) := vl_at vq_cX6_ahead_0 (i := 11) rfl
theorem dX6_ahead_22 : decode cX6_ahead 22 = .ok (.invokevirtual 110, 3) := vl_at vq_cX6_ahead_0 (i := 12) rfl
theorem dX6_ahead_25 : decode cX6_ahead 25 = .ok (.ifCond .eq 5, 3) := vl_at vq_cX6_ahead_0 (i := 13) rfl
theorem dX6_ahead_28 : decode cX6_ahead 28 = .ok (.iconst 0, 1) := vl_at vq_cX6_ahead_0 (i := 14) rfl
theorem dX6_ahead_29 : decode cX6_ahead 29 = .ok (.ireturn, 1) := vl_at vq_cX6_ahead_0 (i := 15) rfl
theorem dX6_ahead_30 : decode cX6_ahead 30 = .ok (.iload_n 2, 1) := vl_at vq_cX6_ahead_0 (i := 16) rfl
theorem dX6_ahead_31 : decode cX6_ahead 31 = .ok (.aload_n 0, 1) := vl_at vq_cX6_ahead_0 (i := 17) rfl
theorem dX6_ahead_32 : decode cX6_ahead 32 = .ok (.iload_n 1, 1) := vl_at vq_cX6_ahead_0 (i := 18) rfl
theorem dX6_ahead_33 : decode cX6_ahead 33 = .ok (.invokevirtual 91, 3) := vl_at vq_cX6_ahead_0 (i := 19) rfl
theorem dX6_ahead_36 : decode cX6_ahead 36 = .ok (.if_icmp .lt 6, 3) := vl_at vq_cX6_ahead_0 (i := 20) rfl
theorem dX6_ahead_39 : decode cX6_ahead 39 = .ok (.bipush (-9), 2) := vl_at vq_cX6_ahead_0 (i := 21) rfl
theorem dX6_ahead_41 : decode cX6_ahead 41 = .ok (.ireturn, 1) := vl_at vq_cX6_ahead_0 (i := 22) rfl
theorem dX6_ahead_42 : decode cX6_ahead 42 = .ok (.iconst (-1), 1) := vl_at vq_cX6_ahead_0 (i := 23) rfl
theorem dX6_ahead_43 : decode cX6_ahead 43 = .ok (.istore_n 3, 1) := vl_at vq_cX6_ahead_0 (i := 24) rfl
theorem dX6_ahead_44 : decode cX6_ahead 44 = .ok (.iconst 0, 1) := vl_at vq_cX6_ahead_0 (i := 25) rfl
theorem dX6_ahead_45 : decode cX6_ahead 45 = .ok (.istore 4, 2) := vl_at vq_cX6_ahead_0 (i := 26) rfl
theorem dX6_ahead_47 : decode cX6_ahead 47 = .ok (.iload 4, 2) := vl_at vq_cX6_ahead_0 (i := 27) rfl
theorem dX6_ahead_49 : decode cX6_ahead 49 = .ok (.iload_n 2, 1) := vl_at vq_cX6_ahead_0 (i := 28) rfl
theorem dX6_ahead_50 : decode cX6_ahead 50 = .ok (.if_icmp .ge 34, 3) := vl_at vq_cX6_ahead_0 (i := 29) rfl
theorem dX6_ahead_53 : decode cX6_ahead 53 = .ok (.aload_n 0, 1) := vl_at vq_cX6_ahead_0 (i := 30) rfl
theorem dX6_ahead_54 : decode cX6_ahead 54 = .ok (.iload_n 1, 1) := vl_at vq_cX6_ahead_0 (i := 31) rfl
theorem dX6_ahead_55 : decode cX6_ahead 55 = .ok (.iload 4, 2) := vl_at vq_cX6_ahead_0 (i := 32) rfl
theorem dX6_ahead_57 : decode cX6_ahead 57 = .ok (.invokevirtual 131, 3) := vl_at vq_cX6_ahead_0 (i := 33) rfl
theorem dX6_ahead_60 : decode cX6_ahead 60 = .ok (.invokestatic 171, 3) := vl_at vq_cX6_ahead_0 (i := 34) rfl
theorem dX6_ahead_63 : decode cX6_ahead 63 = .ok (.aload_n 0, 1) := vl_at vq_cX6_ahead_0 (i := 35) rfl
theorem dX6_ahead_64 : decode cX6_ahead 64 = .ok (.iload_n 1, 1) := vl_at vq_cX6_ahead_0 (i := 36) rfl
theorem dX6_ahead_65 : decode cX6_ahead 65 = .ok (.iload_n 2, 1) := vl_at vq_cX6_ahead_0 (i := 37) rfl
theorem dX6_ahead_66 : decode cX6_ahead 66 = .ok (.invokevirtual 131, 3) := vl_at vq_cX6_ahead_0 (i := 38) rfl
theorem dX6_ahead_69 : decode cX6_ahead 69 = .ok (.invokestatic 171, 3) := vl_at vq_cX6_ahead_0 (i := 39) rfl
noncomputable def vl_cX6_ahead_1 : List (Nat × Instr × Nat) := [(72, .if_icmp .le 6, 3), (75, .iload 4, 2), (77, .istore_n 3, 1), (78, .iinc 4 1, 3), (81, .goto (-34), 3), (84, .iload_n 3, 1), (85, .ireturn, 1)]
theorem vq_cX6_ahead_1 : vl_ok cX6_ahead vl_cX6_ahead_1 = true := by decide +kernel
theorem dX6_ahead_72 : decode cX6_ahead 72 = .ok (.if_icmp .le 6, 3) := vl_at vq_cX6_ahead_1 (i := 0) rfl
theorem dX6_ahead_75 : decode cX6_ahead 75 = .ok (.iload 4, 2) := vl_at vq_cX6_ahead_1 (i := 1) rfl
theorem dX6_ahead_77 : decode cX6_ahead 77 = .ok (.istore_n 3, 1) := vl_at vq_cX6_ahead_1 (i := 2) rfl
theorem dX6_ahead_78 : decode cX6_ahead 78 = .ok (.iinc 4 1, 3) := vl_at vq_cX6_ahead_1 (i := 3) rfl
theorem dX6_ahead_81 : decode cX6_ahead 81 = .ok (.goto (-34), 3) := vl_at vq_cX6_ahead_1 (i := 4) rfl
theorem dX6_ahead_84 : decode cX6_ahead 84 = .ok (.iload_n 3, 1) := vl_at vq_cX6_ahead_1 (i := 5) rfl
theorem dX6_ahead_85 : decode cX6_ahead 85 = .ok (.ireturn, 1) := vl_at vq_cX6_ahead_1 (i := 6) rfl
noncomputable def vl_cX6_yardTold_0 : List (Nat × Instr × Nat) := [(0, .iload_n 1, 1), (1, .tableswitch 175 0 6 #[43, 51, 80, 117, 125, 162, 167], 43), (44, .aload_n 0, 1), (45, .getfield 19, 3), (48, .invokevirtual 52, 3), (51, .ireturn, 1), (52, .aload_n 0, 1), (53, .getfield 19, 3), (56, .invokevirtual 150, 3), (59, .ifCond .eq 7, 3), (62, .iconst (-1), 1), (63, .goto 17, 3), (66, .aload_n 0, 1), (67, .getfield 19, 3), (70, .iconst 0, 1), (71, .invokevirtual 48, 3), (74, .checkcast 56, 3), (77, .invokevirtual 58, 3), (80, .ireturn, 1), (81, .aload_n 0, 1), (82, .getfield 19, 3), (85, .invokevirtual 150, 3), (88, .ifCond .eq 7, 3), (91, .iconst (-1), 1), (92, .goto 25, 3), (95, .aload_n 0, 1), (96, .getfield 19, 3), (99, .aload_n 0, 1), (100, .getfield 19, 3), (103, .invokevirtual 52, 3), (106, .iconst 1, 1), (107, .isub, 1), (108, .invokevirtual 48, 3), (111, .checkcast 56, 3), (114, .invokevirtual 58, 3), (117, .ireturn, 1), (118, .aload_n 0, 1), (119, .getfield 16, 3), (122, .invokevirtual 52, 3), (125, .ireturn, 1)]
theorem vq_cX6_yardTold_0 : vl_ok cX6_yardTold vl_cX6_yardTold_0 = true := by decide +kernel
theorem dX6_yardTold_0 : decode cX6_yardTold 0 = .ok (.iload_n 1, 1) := vl_at vq_cX6_yardTold_0 (i := 0) rfl
theorem dX6_yardTold_1 : decode cX6_yardTold 1 = .ok (.tableswitch 175 0 6 #[43, 51, 80, 117, 125, 162, 167], 43) := vl_at vq_cX6_yardTold_0 (i := 1) rfl
theorem dX6_yardTold_44 : decode cX6_yardTold 44 = .ok (.aload_n 0, 1) := vl_at vq_cX6_yardTold_0 (i := 2) rfl
theorem dX6_yardTold_45 : decode cX6_yardTold 45 = .ok (.getfield 19, 3) := vl_at vq_cX6_yardTold_0 (i := 3) rfl
theorem dX6_yardTold_48 : decode cX6_yardTold 48 = .ok (.invokevirtual 52, 3) := vl_at vq_cX6_yardTold_0 (i := 4) rfl
theorem dX6_yardTold_51 : decode cX6_yardTold 51 = .ok (.ireturn, 1) := vl_at vq_cX6_yardTold_0 (i := 5) rfl
theorem dX6_yardTold_52 : decode cX6_yardTold 52 = .ok (.aload_n 0, 1) := vl_at vq_cX6_yardTold_0 (i := 6) rfl
theorem dX6_yardTold_53 : decode cX6_yardTold 53 = .ok (.getfield 19, 3) := vl_at vq_cX6_yardTold_0 (i := 7) rfl
theorem dX6_yardTold_56 : decode cX6_yardTold 56 = .ok (.invokevirtual 150, 3) := vl_at vq_cX6_yardTold_0 (i := 8) rfl
theorem dX6_yardTold_59 : decode cX6_yardTold 59 = .ok (.ifCond .eq 7, 3) := vl_at vq_cX6_yardTold_0 (i := 9) rfl
theorem dX6_yardTold_62 : decode cX6_yardTold 62 = .ok (.iconst (-1), 1) := vl_at vq_cX6_yardTold_0 (i := 10) rfl
theorem dX6_yardTold_63 : decode cX6_yardTold 63 = .ok (.goto 17, 3) := vl_at vq_cX6_yardTold_0 (i := 11) rfl
theorem dX6_yardTold_66 : decode cX6_yardTold 66 = .ok (.aload_n 0, 1) := vl_at vq_cX6_yardTold_0 (i := 12) rfl
theorem dX6_yardTold_67 : decode cX6_yardTold 67 = .ok (.getfield 19, 3) := vl_at vq_cX6_yardTold_0 (i := 13) rfl
theorem dX6_yardTold_70 : decode cX6_yardTold 70 = .ok (.iconst 0, 1) := vl_at vq_cX6_yardTold_0 (i := 14) rfl
theorem dX6_yardTold_71 : decode cX6_yardTold 71 = .ok (.invokevirtual 48, 3) := vl_at vq_cX6_yardTold_0 (i := 15) rfl
theorem dX6_yardTold_74 : decode cX6_yardTold 74 = .ok (.checkcast 56, 3) := vl_at vq_cX6_yardTold_0 (i := 16) rfl
theorem dX6_yardTold_77 : decode cX6_yardTold 77 = .ok (.invokevirtual 58, 3) := vl_at vq_cX6_yardTold_0 (i := 17) rfl
theorem dX6_yardTold_80 : decode cX6_yardTold 80 = .ok (.ireturn, 1) := vl_at vq_cX6_yardTold_0 (i := 18) rfl
theorem dX6_yardTold_81 : decode cX6_yardTold 81 = .ok (.aload_n 0, 1) := vl_at vq_cX6_yardTold_0 (i := 19) rfl
theorem dX6_yardTold_82 : decode cX6_yardTold 82 = .ok (.getfield 19, 3) := vl_at vq_cX6_yardTold_0 (i := 20) rfl
theorem dX6_yardTold_85 : decode cX6_yardTold 85 = .ok (.invokevirtual 150, 3) := vl_at vq_cX6_yardTold_0 (i := 21) rfl
theorem dX6_yardTold_88 : decode cX6_yardTold 88 = .ok (.ifCond .eq 7, 3) := vl_at vq_cX6_yardTold_0 (i := 22) rfl
theorem dX6_yardTold_91 : decode cX6_yardTold 91 = .ok (.iconst (-1), 1) := vl_at vq_cX6_yardTold_0 (i := 23) rfl
theorem dX6_yardTold_92 : decode cX6_yardTold 92 = .ok (.goto 25, 3) := vl_at vq_cX6_yardTold_0 (i := 24) rfl
theorem dX6_yardTold_95 : decode cX6_yardTold 95 = .ok (.aload_n 0, 1) := vl_at vq_cX6_yardTold_0 (i := 25) rfl
theorem dX6_yardTold_96 : decode cX6_yardTold 96 = .ok (.getfield 19, 3) := vl_at vq_cX6_yardTold_0 (i := 26) rfl
theorem dX6_yardTold_99 : decode cX6_yardTold 99 = .ok (.aload_n 0, 1) := vl_at vq_cX6_yardTold_0 (i := 27) rfl
theorem dX6_yardTold_100 : decode cX6_yardTold 100 = .ok (.getfield 19, 3) := vl_at vq_cX6_yardTold_0 (i := 28) rfl
theorem dX6_yardTold_103 : decode cX6_yardTold 103 = .ok (.invokevirtual 52, 3) := vl_at vq_cX6_yardTold_0 (i := 29) rfl
theorem dX6_yardTold_106 : decode cX6_yardTold 106 = .ok (.iconst 1, 1) := vl_at vq_cX6_yardTold_0 (i := 30) rfl
theorem dX6_yardTold_107 : decode cX6_yardTold 107 = .ok (.isub, 1) := vl_at vq_cX6_yardTold_0 (i := 31) rfl
theorem dX6_yardTold_108 : decode cX6_yardTold 108 = .ok (.invokevirtual 48, 3) := vl_at vq_cX6_yardTold_0 (i := 32) rfl
theorem dX6_yardTold_111 : decode cX6_yardTold 111 = .ok (.checkcast 56, 3) := vl_at vq_cX6_yardTold_0 (i := 33) rfl
theorem dX6_yardTold_114 : decode cX6_yardTold 114 = .ok (.invokevirtual 58, 3) := vl_at vq_cX6_yardTold_0 (i := 34) rfl
theorem dX6_yardTold_117 : decode cX6_yardTold 117 = .ok (.ireturn, 1) := vl_at vq_cX6_yardTold_0 (i := 35) rfl
theorem dX6_yardTold_118 : decode cX6_yardTold 118 = .ok (.aload_n 0, 1) := vl_at vq_cX6_yardTold_0 (i := 36) rfl
theorem dX6_yardTold_119 : decode cX6_yardTold 119 = .ok (.getfield 16, 3) := vl_at vq_cX6_yardTold_0 (i := 37) rfl
theorem dX6_yardTold_122 : decode cX6_yardTold 122 = .ok (.invokevirtual 52, 3) := vl_at vq_cX6_yardTold_0 (i := 38) rfl
theorem dX6_yardTold_125 : decode cX6_yardTold 125 = .ok (.ireturn, 1) := vl_at vq_cX6_yardTold_0 (i := 39) rfl
noncomputable def vl_cX6_yardTold_1 : List (Nat × Instr × Nat) := [(126, .aload_n 0, 1), (127, .getfield 16, 3), (130, .invokevirtual 150, 3), (133, .ifCond .eq 7, 3), (136, .iconst (-1), 1), (137, .goto 25, 3), (140, .aload_n 0, 1), (141, .getfield 16, 3), (144, .aload_n 0, 1), (145, .getfield 16, 3), (148, .invokevirtual 52, 3), (151, .iconst 1, 1), (152, .isub, 1), (153, .invokevirtual 48, 3), (156, .checkcast 56, 3), (159, .invokevirtual 58, 3), (162, .ireturn, 1), (163, .aload_n 0, 1), (164, .getfield 61, 3), (167, .ireturn, 1), (168, .aload_n 0, 1), (169, .invokevirtual 174, 3), (172, .invokestatic 87, 3), (175, .ireturn, 1), (176, .aload_n 0, 1), (177, .getfield 241, 3), (180, .ireturn, 1)]
theorem vq_cX6_yardTold_1 : vl_ok cX6_yardTold vl_cX6_yardTold_1 = true := by decide +kernel
theorem dX6_yardTold_126 : decode cX6_yardTold 126 = .ok (.aload_n 0, 1) := vl_at vq_cX6_yardTold_1 (i := 0) rfl
theorem dX6_yardTold_127 : decode cX6_yardTold 127 = .ok (.getfield 16, 3) := vl_at vq_cX6_yardTold_1 (i := 1) rfl
theorem dX6_yardTold_130 : decode cX6_yardTold 130 = .ok (.invokevirtual 150, 3) := vl_at vq_cX6_yardTold_1 (i := 2) rfl
theorem dX6_yardTold_133 : decode cX6_yardTold 133 = .ok (.ifCond .eq 7, 3) := vl_at vq_cX6_yardTold_1 (i := 3) rfl
theorem dX6_yardTold_136 : decode cX6_yardTold 136 = .ok (.iconst (-1), 1) := vl_at vq_cX6_yardTold_1 (i := 4) rfl
theorem dX6_yardTold_137 : decode cX6_yardTold 137 = .ok (.goto 25, 3) := vl_at vq_cX6_yardTold_1 (i := 5) rfl
theorem dX6_yardTold_140 : decode cX6_yardTold 140 = .ok (.aload_n 0, 1) := vl_at vq_cX6_yardTold_1 (i := 6) rfl
theorem dX6_yardTold_141 : decode cX6_yardTold 141 = .ok (.getfield 16, 3) := vl_at vq_cX6_yardTold_1 (i := 7) rfl
theorem dX6_yardTold_144 : decode cX6_yardTold 144 = .ok (.aload_n 0, 1) := vl_at vq_cX6_yardTold_1 (i := 8) rfl
theorem dX6_yardTold_145 : decode cX6_yardTold 145 = .ok (.getfield 16, 3) := vl_at vq_cX6_yardTold_1 (i := 9) rfl
theorem dX6_yardTold_148 : decode cX6_yardTold 148 = .ok (.invokevirtual 52, 3) := vl_at vq_cX6_yardTold_1 (i := 10) rfl
theorem dX6_yardTold_151 : decode cX6_yardTold 151 = .ok (.iconst 1, 1) := vl_at vq_cX6_yardTold_1 (i := 11) rfl
theorem dX6_yardTold_152 : decode cX6_yardTold 152 = .ok (.isub, 1) := vl_at vq_cX6_yardTold_1 (i := 12) rfl
theorem dX6_yardTold_153 : decode cX6_yardTold 153 = .ok (.invokevirtual 48, 3) := vl_at vq_cX6_yardTold_1 (i := 13) rfl
theorem dX6_yardTold_156 : decode cX6_yardTold 156 = .ok (.checkcast 56, 3) := vl_at vq_cX6_yardTold_1 (i := 14) rfl
theorem dX6_yardTold_159 : decode cX6_yardTold 159 = .ok (.invokevirtual 58, 3) := vl_at vq_cX6_yardTold_1 (i := 15) rfl
theorem dX6_yardTold_162 : decode cX6_yardTold 162 = .ok (.ireturn, 1) := vl_at vq_cX6_yardTold_1 (i := 16) rfl
theorem dX6_yardTold_163 : decode cX6_yardTold 163 = .ok (.aload_n 0, 1) := vl_at vq_cX6_yardTold_1 (i := 17) rfl
theorem dX6_yardTold_164 : decode cX6_yardTold 164 = .ok (.getfield 61, 3) := vl_at vq_cX6_yardTold_1 (i := 18) rfl
theorem dX6_yardTold_167 : decode cX6_yardTold 167 = .ok (.ireturn, 1) := vl_at vq_cX6_yardTold_1 (i := 19) rfl
theorem dX6_yardTold_168 : decode cX6_yardTold 168 = .ok (.aload_n 0, 1) := vl_at vq_cX6_yardTold_1 (i := 20) rfl
theorem dX6_yardTold_169 : decode cX6_yardTold 169 = .ok (.invokevirtual 174, 3) := vl_at vq_cX6_yardTold_1 (i := 21) rfl
theorem dX6_yardTold_172 : decode cX6_yardTold 172 = .ok (.invokestatic 87, 3) := vl_at vq_cX6_yardTold_1 (i := 22) rfl
theorem dX6_yardTold_175 : decode cX6_yardTold 175 = .ok (.ireturn, 1) := vl_at vq_cX6_yardTold_1 (i := 23) rfl
theorem dX6_yardTold_176 : decode cX6_yardTold 176 = .ok (.aload_n 0, 1) := vl_at vq_cX6_yardTold_1 (i := 24) rfl
theorem dX6_yardTold_177 : decode cX6_yardTold 177 = .ok (.getfield 241, 3) := vl_at vq_cX6_yardTold_1 (i := 25) rfl
theorem dX6_yardTold_180 : decode cX6_yardTold 180 = .ok (.ireturn, 1) := vl_at vq_cX6_yardTold_1 (i := 26) rfl
noncomputable def vl_cX6_yard_0 : List (Nat × Instr × Nat) := [(0, .aload_n 0, 1), (1, .iload_n 1, 1), (2, .iconst 0, 1), (3, .bipush 7, 2), (5, .invokestatic 44, 3), (8, .ifCond .ne 7, 3), (11, .iconst 1, 1), (12, .goto 4, 3), (15, .iconst 0, 1), (16, .iconst 1, 1), (17, .invokevirtual 110, 3), (20, .ifCond .eq 7, 3), (23, .iconst 0, 1), (24, .goto 8, 3), (27, .aload_n 0, 1), (28, .iload_n 1, 1), (29, .invokevirtual 244, 3), (32, .ireturn, 1)]
theorem vq_cX6_yard_0 : vl_ok cX6_yard vl_cX6_yard_0 = true := by decide +kernel
theorem dX6_yard_0 : decode cX6_yard 0 = .ok (.aload_n 0, 1) := vl_at vq_cX6_yard_0 (i := 0) rfl
theorem dX6_yard_1 : decode cX6_yard 1 = .ok (.iload_n 1, 1) := vl_at vq_cX6_yard_0 (i := 1) rfl
theorem dX6_yard_2 : decode cX6_yard 2 = .ok (.iconst 0, 1) := vl_at vq_cX6_yard_0 (i := 2) rfl
theorem dX6_yard_3 : decode cX6_yard 3 = .ok (.bipush 7, 2) := vl_at vq_cX6_yard_0 (i := 3) rfl
theorem dX6_yard_5 : decode cX6_yard 5 = .ok (.invokestatic 44, 3) := vl_at vq_cX6_yard_0 (i := 4) rfl
theorem dX6_yard_8 : decode cX6_yard 8 = .ok (.ifCond .ne 7, 3) := vl_at vq_cX6_yard_0 (i := 5) rfl
theorem dX6_yard_11 : decode cX6_yard 11 = .ok (.iconst 1, 1) := vl_at vq_cX6_yard_0 (i := 6) rfl
theorem dX6_yard_12 : decode cX6_yard 12 = .ok (.goto 4, 3) := vl_at vq_cX6_yard_0 (i := 7) rfl
theorem dX6_yard_15 : decode cX6_yard 15 = .ok (.iconst 0, 1) := vl_at vq_cX6_yard_0 (i := 8) rfl
theorem dX6_yard_16 : decode cX6_yard 16 = .ok (.iconst 1, 1) := vl_at vq_cX6_yard_0 (i := 9) rfl
theorem dX6_yard_17 : decode cX6_yard 17 = .ok (.invokevirtual 110, 3) := vl_at vq_cX6_yard_0 (i := 10) rfl
theorem dX6_yard_20 : decode cX6_yard 20 = .ok (.ifCond .eq 7, 3) := vl_at vq_cX6_yard_0 (i := 11) rfl
theorem dX6_yard_23 : decode cX6_yard 23 = .ok (.iconst 0, 1) := vl_at vq_cX6_yard_0 (i := 12) rfl
theorem dX6_yard_24 : decode cX6_yard 24 = .ok (.goto 8, 3) := vl_at vq_cX6_yard_0 (i := 13) rfl
theorem dX6_yard_27 : decode cX6_yard 27 = .ok (.aload_n 0, 1) := vl_at vq_cX6_yard_0 (i := 14) rfl
theorem dX6_yard_28 : decode cX6_yard 28 = .ok (.iload_n 1, 1) := vl_at vq_cX6_yard_0 (i := 15) rfl
theorem dX6_yard_29 : decode cX6_yard 29 = .ok (.invokevirtual 244, 3) := vl_at vq_cX6_yard_0 (i := 16) rfl
theorem dX6_yard_32 : decode cX6_yard 32 = .ok (.ireturn, 1) := vl_at vq_cX6_yard_0 (i := 17) rfl
noncomputable def vl_cX6_knock_0 : List (Nat × Instr × Nat) := [(0, .aload_n 0, 1), (1, .iconst 0, 1), (2, .putfield 37, 3), (5, .aload_n 0, 1), (6, .dup, 1), (7, .getfield 241, 3), (10, .iconst 1, 1), (11, .iadd, 1), (12, .putfield 241, 3), (15, .aload_n 0, 1), (16, .getfield 241, 3), (19, .ireturn, 1)]
theorem vq_cX6_knock_0 : vl_ok cX6_knock vl_cX6_knock_0 = true := by decide +kernel
theorem dX6_knock_0 : decode cX6_knock 0 = .ok (.aload_n 0, 1) := vl_at vq_cX6_knock_0 (i := 0) rfl
theorem dX6_knock_1 : decode cX6_knock 1 = .ok (.iconst 0, 1) := vl_at vq_cX6_knock_0 (i := 1) rfl
theorem dX6_knock_2 : decode cX6_knock 2 = .ok (.putfield 37, 3) := vl_at vq_cX6_knock_0 (i := 2) rfl
theorem dX6_knock_5 : decode cX6_knock 5 = .ok (.aload_n 0, 1) := vl_at vq_cX6_knock_0 (i := 3) rfl
theorem dX6_knock_6 : decode cX6_knock 6 = .ok (.dup, 1) := vl_at vq_cX6_knock_0 (i := 4) rfl
theorem dX6_knock_7 : decode cX6_knock 7 = .ok (.getfield 241, 3) := vl_at vq_cX6_knock_0 (i := 5) rfl
theorem dX6_knock_10 : decode cX6_knock 10 = .ok (.iconst 1, 1) := vl_at vq_cX6_knock_0 (i := 6) rfl
theorem dX6_knock_11 : decode cX6_knock 11 = .ok (.iadd, 1) := vl_at vq_cX6_knock_0 (i := 7) rfl
theorem dX6_knock_12 : decode cX6_knock 12 = .ok (.putfield 241, 3) := vl_at vq_cX6_knock_0 (i := 8) rfl
theorem dX6_knock_15 : decode cX6_knock 15 = .ok (.aload_n 0, 1) := vl_at vq_cX6_knock_0 (i := 9) rfl
theorem dX6_knock_16 : decode cX6_knock 16 = .ok (.getfield 241, 3) := vl_at vq_cX6_knock_0 (i := 10) rfl
theorem dX6_knock_19 : decode cX6_knock 19 = .ok (.ireturn, 1) := vl_at vq_cX6_knock_0 (i := 11) rfl
noncomputable def vl_cX6_areSlips_0 : List (Nat × Instr × Nat) := [(0, .new 7, 3), (3, .dup, 1), (4, .invokespecial 9, 3), (7, .astore_n 1, 1), (8, .iconst 0, 1), (9, .istore_n 2, 1), (10, .iload_n 2, 1), (11, .iconst 2, 1), (12, .if_icmp .ge 79, 3), (15, .aload_n 1, 1), (16, .new 7, 3), (19, .dup, 1), (20, .invokespecial 9, 3), (23, .invokevirtual 33, 3), (26, .pop, 1), (27, .aload_n 0, 1), (28, .getfield 10, 3), (31, .iload_n 2, 1), (32, .invokevirtual 48, 3), (35, .checkcast 7, 3), (38, .invokevirtual 247, 3), (41, .astore_n 3, 1), (42, .aload_n 3, 1), (43, .invokeinterface 251 1, 5), (48, .ifCond .eq 37, 3), (51, .aload_n 3, 1), (52, .invokeinterface 254 1, 5), (57, .checkcast 56, 3), (60, .invokevirtual 58, 3), (63, .istore 4, 2), (65, .aload_n 1, 1), (66, .iload_n 2, 1), (67, .invokevirtual 48, 3), (70, .checkcast 7, 3), (73, .iload 4, 2), (75, .invokestatic 70, 3), (78, .invokevirtual 33, 3), (81, .pop, 1), (82, .goto (-40), 3), (85, .iinc 2 1, 3)]
theorem vq_cX6_areSlips_0 : vl_ok cX6_areSlips vl_cX6_areSlips_0 = true := by decide +kernel
theorem dX6_areSlips_0 : decode cX6_areSlips 0 = .ok (.new 7, 3) := vl_at vq_cX6_areSlips_0 (i := 0) rfl
theorem dX6_areSlips_3 : decode cX6_areSlips 3 = .ok (.dup, 1) := vl_at vq_cX6_areSlips_0 (i := 1) rfl
theorem dX6_areSlips_4 : decode cX6_areSlips 4 = .ok (.invokespecial 9, 3) := vl_at vq_cX6_areSlips_0 (i := 2) rfl
theorem dX6_areSlips_7 : decode cX6_areSlips 7 = .ok (.astore_n 1, 1) := vl_at vq_cX6_areSlips_0 (i := 3) rfl
theorem dX6_areSlips_8 : decode cX6_areSlips 8 = .ok (.iconst 0, 1) := vl_at vq_cX6_areSlips_0 (i := 4) rfl
theorem dX6_areSlips_9 : decode cX6_areSlips 9 = .ok (.istore_n 2, 1) := vl_at vq_cX6_areSlips_0 (i := 5) rfl
theorem dX6_areSlips_10 : decode cX6_areSlips 10 = .ok (.iload_n 2, 1) := vl_at vq_cX6_areSlips_0 (i := 6) rfl
theorem dX6_areSlips_11 : decode cX6_areSlips 11 = .ok (.iconst 2, 1) := vl_at vq_cX6_areSlips_0 (i := 7) rfl
theorem dX6_areSlips_12 : decode cX6_areSlips 12 = .ok (.if_icmp .ge 79, 3) := vl_at vq_cX6_areSlips_0 (i := 8) rfl
theorem dX6_areSlips_15 : decode cX6_areSlips 15 = .ok (.aload_n 1, 1) := vl_at vq_cX6_areSlips_0 (i := 9) rfl
theorem dX6_areSlips_16 : decode cX6_areSlips 16 = .ok (.new 7, 3) := vl_at vq_cX6_areSlips_0 (i := 10) rfl
theorem dX6_areSlips_19 : decode cX6_areSlips 19 = .ok (.dup, 1) := vl_at vq_cX6_areSlips_0 (i := 11) rfl
theorem dX6_areSlips_20 : decode cX6_areSlips 20 = .ok (.invokespecial 9, 3) := vl_at vq_cX6_areSlips_0 (i := 12) rfl
theorem dX6_areSlips_23 : decode cX6_areSlips 23 = .ok (.invokevirtual 33, 3) := vl_at vq_cX6_areSlips_0 (i := 13) rfl
theorem dX6_areSlips_26 : decode cX6_areSlips 26 = .ok (.pop, 1) := vl_at vq_cX6_areSlips_0 (i := 14) rfl
theorem dX6_areSlips_27 : decode cX6_areSlips 27 = .ok (.aload_n 0, 1) := vl_at vq_cX6_areSlips_0 (i := 15) rfl
theorem dX6_areSlips_28 : decode cX6_areSlips 28 = .ok (.getfield 10, 3) := vl_at vq_cX6_areSlips_0 (i := 16) rfl
theorem dX6_areSlips_31 : decode cX6_areSlips 31 = .ok (.iload_n 2, 1) := vl_at vq_cX6_areSlips_0 (i := 17) rfl
theorem dX6_areSlips_32 : decode cX6_areSlips 32 = .ok (.invokevirtual 48, 3) := vl_at vq_cX6_areSlips_0 (i := 18) rfl
theorem dX6_areSlips_35 : decode cX6_areSlips 35 = .ok (.checkcast 7, 3) := vl_at vq_cX6_areSlips_0 (i := 19) rfl
theorem dX6_areSlips_38 : decode cX6_areSlips 38 = .ok (.invokevirtual 247, 3) := vl_at vq_cX6_areSlips_0 (i := 20) rfl
theorem dX6_areSlips_41 : decode cX6_areSlips 41 = .ok (.astore_n 3, 1) := vl_at vq_cX6_areSlips_0 (i := 21) rfl
theorem dX6_areSlips_42 : decode cX6_areSlips 42 = .ok (.aload_n 3, 1) := vl_at vq_cX6_areSlips_0 (i := 22) rfl
theorem dX6_areSlips_43 : decode cX6_areSlips 43 = .ok (.invokeinterface 251 1, 5) := vl_at vq_cX6_areSlips_0 (i := 23) rfl
theorem dX6_areSlips_48 : decode cX6_areSlips 48 = .ok (.ifCond .eq 37, 3) := vl_at vq_cX6_areSlips_0 (i := 24) rfl
theorem dX6_areSlips_51 : decode cX6_areSlips 51 = .ok (.aload_n 3, 1) := vl_at vq_cX6_areSlips_0 (i := 25) rfl
theorem dX6_areSlips_52 : decode cX6_areSlips 52 = .ok (.invokeinterface 254 1, 5) := vl_at vq_cX6_areSlips_0 (i := 26) rfl
theorem dX6_areSlips_57 : decode cX6_areSlips 57 = .ok (.checkcast 56, 3) := vl_at vq_cX6_areSlips_0 (i := 27) rfl
theorem dX6_areSlips_60 : decode cX6_areSlips 60 = .ok (.invokevirtual 58, 3) := vl_at vq_cX6_areSlips_0 (i := 28) rfl
theorem dX6_areSlips_63 : decode cX6_areSlips 63 = .ok (.istore 4, 2) := vl_at vq_cX6_areSlips_0 (i := 29) rfl
theorem dX6_areSlips_65 : decode cX6_areSlips 65 = .ok (.aload_n 1, 1) := vl_at vq_cX6_areSlips_0 (i := 30) rfl
theorem dX6_areSlips_66 : decode cX6_areSlips 66 = .ok (.iload_n 2, 1) := vl_at vq_cX6_areSlips_0 (i := 31) rfl
theorem dX6_areSlips_67 : decode cX6_areSlips 67 = .ok (.invokevirtual 48, 3) := vl_at vq_cX6_areSlips_0 (i := 32) rfl
theorem dX6_areSlips_70 : decode cX6_areSlips 70 = .ok (.checkcast 7, 3) := vl_at vq_cX6_areSlips_0 (i := 33) rfl
theorem dX6_areSlips_73 : decode cX6_areSlips 73 = .ok (.iload 4, 2) := vl_at vq_cX6_areSlips_0 (i := 34) rfl
theorem dX6_areSlips_75 : decode cX6_areSlips 75 = .ok (.invokestatic 70, 3) := vl_at vq_cX6_areSlips_0 (i := 35) rfl
theorem dX6_areSlips_78 : decode cX6_areSlips 78 = .ok (.invokevirtual 33, 3) := vl_at vq_cX6_areSlips_0 (i := 36) rfl
theorem dX6_areSlips_81 : decode cX6_areSlips 81 = .ok (.pop, 1) := vl_at vq_cX6_areSlips_0 (i := 37) rfl
theorem dX6_areSlips_82 : decode cX6_areSlips 82 = .ok (.goto (-40), 3) := vl_at vq_cX6_areSlips_0 (i := 38) rfl
theorem dX6_areSlips_85 : decode cX6_areSlips 85 = .ok (.iinc 2 1, 3) := vl_at vq_cX6_areSlips_0 (i := 39) rfl
noncomputable def vl_cX6_areSlips_1 : List (Nat × Instr × Nat) := [(88, .goto (-78), 3), (91, .aload_n 0, 1), (92, .getfield 16, 3), (95, .invokevirtual 52, 3), (98, .iconst 1, 1), (99, .isub, 1), (100, .istore_n 2, 1), (101, .iload_n 2, 1), (102, .ifCond .lt 153, 3), (105, .aload_n 0, 1), (106, .getfield 16, 3), (109, .iload_n 2, 1), (110, .invokevirtual 48, 3), (113, .checkcast 56, 3), (116, .invokevirtual 58, 3), (119, .istore_n 3, 1), (120, .aload_n 1, 1), (121, .iload_n 3, 1), (122, .sipush 4000, 3), (125, .idiv, 1), (126, .invokevirtual 48, 3), (129, .checkcast 7, 3), (132, .astore 4, 2), (134, .iload_n 3, 1), (135, .sipush 2000, 3), (138, .idiv, 1), (139, .iconst 2, 1), (140, .irem, 1), (141, .iconst 1, 1), (142, .if_icmp .ne 7, 3), (145, .iconst 1, 1), (146, .goto 4, 3), (149, .iconst 0, 1), (150, .istore 5, 2), (152, .iload_n 3, 1), (153, .sipush 1000, 3), (156, .idiv, 1), (157, .iconst 2, 1), (158, .irem, 1), (159, .ifCond .ne 33, 3)]
theorem vq_cX6_areSlips_1 : vl_ok cX6_areSlips vl_cX6_areSlips_1 = true := by decide +kernel
theorem dX6_areSlips_88 : decode cX6_areSlips 88 = .ok (.goto (-78), 3) := vl_at vq_cX6_areSlips_1 (i := 0) rfl
theorem dX6_areSlips_91 : decode cX6_areSlips 91 = .ok (.aload_n 0, 1) := vl_at vq_cX6_areSlips_1 (i := 1) rfl
theorem dX6_areSlips_92 : decode cX6_areSlips 92 = .ok (.getfield 16, 3) := vl_at vq_cX6_areSlips_1 (i := 2) rfl
theorem dX6_areSlips_95 : decode cX6_areSlips 95 = .ok (.invokevirtual 52, 3) := vl_at vq_cX6_areSlips_1 (i := 3) rfl
theorem dX6_areSlips_98 : decode cX6_areSlips 98 = .ok (.iconst 1, 1) := vl_at vq_cX6_areSlips_1 (i := 4) rfl
theorem dX6_areSlips_99 : decode cX6_areSlips 99 = .ok (.isub, 1) := vl_at vq_cX6_areSlips_1 (i := 5) rfl
theorem dX6_areSlips_100 : decode cX6_areSlips 100 = .ok (.istore_n 2, 1) := vl_at vq_cX6_areSlips_1 (i := 6) rfl
theorem dX6_areSlips_101 : decode cX6_areSlips 101 = .ok (.iload_n 2, 1) := vl_at vq_cX6_areSlips_1 (i := 7) rfl
theorem dX6_areSlips_102 : decode cX6_areSlips 102 = .ok (.ifCond .lt 153, 3) := vl_at vq_cX6_areSlips_1 (i := 8) rfl
theorem dX6_areSlips_105 : decode cX6_areSlips 105 = .ok (.aload_n 0, 1) := vl_at vq_cX6_areSlips_1 (i := 9) rfl
theorem dX6_areSlips_106 : decode cX6_areSlips 106 = .ok (.getfield 16, 3) := vl_at vq_cX6_areSlips_1 (i := 10) rfl
theorem dX6_areSlips_109 : decode cX6_areSlips 109 = .ok (.iload_n 2, 1) := vl_at vq_cX6_areSlips_1 (i := 11) rfl
theorem dX6_areSlips_110 : decode cX6_areSlips 110 = .ok (.invokevirtual 48, 3) := vl_at vq_cX6_areSlips_1 (i := 12) rfl
theorem dX6_areSlips_113 : decode cX6_areSlips 113 = .ok (.checkcast 56, 3) := vl_at vq_cX6_areSlips_1 (i := 13) rfl
theorem dX6_areSlips_116 : decode cX6_areSlips 116 = .ok (.invokevirtual 58, 3) := vl_at vq_cX6_areSlips_1 (i := 14) rfl
theorem dX6_areSlips_119 : decode cX6_areSlips 119 = .ok (.istore_n 3, 1) := vl_at vq_cX6_areSlips_1 (i := 15) rfl
theorem dX6_areSlips_120 : decode cX6_areSlips 120 = .ok (.aload_n 1, 1) := vl_at vq_cX6_areSlips_1 (i := 16) rfl
theorem dX6_areSlips_121 : decode cX6_areSlips 121 = .ok (.iload_n 3, 1) := vl_at vq_cX6_areSlips_1 (i := 17) rfl
theorem dX6_areSlips_122 : decode cX6_areSlips 122 = .ok (.sipush 4000, 3) := vl_at vq_cX6_areSlips_1 (i := 18) rfl
theorem dX6_areSlips_125 : decode cX6_areSlips 125 = .ok (.idiv, 1) := vl_at vq_cX6_areSlips_1 (i := 19) rfl
theorem dX6_areSlips_126 : decode cX6_areSlips 126 = .ok (.invokevirtual 48, 3) := vl_at vq_cX6_areSlips_1 (i := 20) rfl
theorem dX6_areSlips_129 : decode cX6_areSlips 129 = .ok (.checkcast 7, 3) := vl_at vq_cX6_areSlips_1 (i := 21) rfl
theorem dX6_areSlips_132 : decode cX6_areSlips 132 = .ok (.astore 4, 2) := vl_at vq_cX6_areSlips_1 (i := 22) rfl
theorem dX6_areSlips_134 : decode cX6_areSlips 134 = .ok (.iload_n 3, 1) := vl_at vq_cX6_areSlips_1 (i := 23) rfl
theorem dX6_areSlips_135 : decode cX6_areSlips 135 = .ok (.sipush 2000, 3) := vl_at vq_cX6_areSlips_1 (i := 24) rfl
theorem dX6_areSlips_138 : decode cX6_areSlips 138 = .ok (.idiv, 1) := vl_at vq_cX6_areSlips_1 (i := 25) rfl
theorem dX6_areSlips_139 : decode cX6_areSlips 139 = .ok (.iconst 2, 1) := vl_at vq_cX6_areSlips_1 (i := 26) rfl
theorem dX6_areSlips_140 : decode cX6_areSlips 140 = .ok (.irem, 1) := vl_at vq_cX6_areSlips_1 (i := 27) rfl
theorem dX6_areSlips_141 : decode cX6_areSlips 141 = .ok (.iconst 1, 1) := vl_at vq_cX6_areSlips_1 (i := 28) rfl
theorem dX6_areSlips_142 : decode cX6_areSlips 142 = .ok (.if_icmp .ne 7, 3) := vl_at vq_cX6_areSlips_1 (i := 29) rfl
theorem dX6_areSlips_145 : decode cX6_areSlips 145 = .ok (.iconst 1, 1) := vl_at vq_cX6_areSlips_1 (i := 30) rfl
theorem dX6_areSlips_146 : decode cX6_areSlips 146 = .ok (.goto 4, 3) := vl_at vq_cX6_areSlips_1 (i := 31) rfl
theorem dX6_areSlips_149 : decode cX6_areSlips 149 = .ok (.iconst 0, 1) := vl_at vq_cX6_areSlips_1 (i := 32) rfl
theorem dX6_areSlips_150 : decode cX6_areSlips 150 = .ok (.istore 5, 2) := vl_at vq_cX6_areSlips_1 (i := 33) rfl
theorem dX6_areSlips_152 : decode cX6_areSlips 152 = .ok (.iload_n 3, 1) := vl_at vq_cX6_areSlips_1 (i := 34) rfl
theorem dX6_areSlips_153 : decode cX6_areSlips 153 = .ok (.sipush 1000, 3) := vl_at vq_cX6_areSlips_1 (i := 35) rfl
theorem dX6_areSlips_156 : decode cX6_areSlips 156 = .ok (.idiv, 1) := vl_at vq_cX6_areSlips_1 (i := 36) rfl
theorem dX6_areSlips_157 : decode cX6_areSlips 157 = .ok (.iconst 2, 1) := vl_at vq_cX6_areSlips_1 (i := 37) rfl
theorem dX6_areSlips_158 : decode cX6_areSlips 158 = .ok (.irem, 1) := vl_at vq_cX6_areSlips_1 (i := 38) rfl
theorem dX6_areSlips_159 : decode cX6_areSlips 159 = .ok (.ifCond .ne 33, 3) := vl_at vq_cX6_areSlips_1 (i := 39) rfl
noncomputable def vl_cX6_areSlips_2 : List (Nat × Instr × Nat) := [(162, .aload 4, 2), (164, .iload 5, 2), (166, .ifCond .eq 11, 3), (169, .aload 4, 2), (171, .invokevirtual 52, 3), (174, .goto 4, 3), (177, .iconst 0, 1), (178, .iload_n 3, 1), (179, .sipush 1000, 3), (182, .irem, 1), (183, .invokestatic 70, 3), (186, .invokevirtual 74, 3), (189, .goto 48, 3), (192, .aload 4, 2), (194, .invokevirtual 150, 3), (197, .ifCond .ne 38, 3), (200, .aload 4, 2), (202, .iload 5, 2), (204, .ifCond .eq 13, 3), (207, .aload 4, 2), (209, .invokevirtual 52, 3), (212, .iconst 1, 1), (213, .isub, 1), (214, .goto 4, 3), (217, .iconst 0, 1), (218, .invokevirtual 81, 3), (221, .checkcast 56, 3), (224, .invokevirtual 58, 3), (227, .iload_n 3, 1), (228, .sipush 1000, 3), (231, .irem, 1), (232, .if_icmp .eq 5, 3), (235, .iconst 0, 1), (236, .ireturn, 1), (237, .aload 4, 2), (239, .invokevirtual 52, 3), (242, .bipush 20, 2), (244, .if_icmp .le 5, 3), (247, .iconst 0, 1), (248, .ireturn, 1)]
theorem vq_cX6_areSlips_2 : vl_ok cX6_areSlips vl_cX6_areSlips_2 = true := by decide +kernel
theorem dX6_areSlips_162 : decode cX6_areSlips 162 = .ok (.aload 4, 2) := vl_at vq_cX6_areSlips_2 (i := 0) rfl
theorem dX6_areSlips_164 : decode cX6_areSlips 164 = .ok (.iload 5, 2) := vl_at vq_cX6_areSlips_2 (i := 1) rfl
theorem dX6_areSlips_166 : decode cX6_areSlips 166 = .ok (.ifCond .eq 11, 3) := vl_at vq_cX6_areSlips_2 (i := 2) rfl
theorem dX6_areSlips_169 : decode cX6_areSlips 169 = .ok (.aload 4, 2) := vl_at vq_cX6_areSlips_2 (i := 3) rfl
theorem dX6_areSlips_171 : decode cX6_areSlips 171 = .ok (.invokevirtual 52, 3) := vl_at vq_cX6_areSlips_2 (i := 4) rfl
theorem dX6_areSlips_174 : decode cX6_areSlips 174 = .ok (.goto 4, 3) := vl_at vq_cX6_areSlips_2 (i := 5) rfl
theorem dX6_areSlips_177 : decode cX6_areSlips 177 = .ok (.iconst 0, 1) := vl_at vq_cX6_areSlips_2 (i := 6) rfl
theorem dX6_areSlips_178 : decode cX6_areSlips 178 = .ok (.iload_n 3, 1) := vl_at vq_cX6_areSlips_2 (i := 7) rfl
theorem dX6_areSlips_179 : decode cX6_areSlips 179 = .ok (.sipush 1000, 3) := vl_at vq_cX6_areSlips_2 (i := 8) rfl
theorem dX6_areSlips_182 : decode cX6_areSlips 182 = .ok (.irem, 1) := vl_at vq_cX6_areSlips_2 (i := 9) rfl
theorem dX6_areSlips_183 : decode cX6_areSlips 183 = .ok (.invokestatic 70, 3) := vl_at vq_cX6_areSlips_2 (i := 10) rfl
theorem dX6_areSlips_186 : decode cX6_areSlips 186 = .ok (.invokevirtual 74, 3) := vl_at vq_cX6_areSlips_2 (i := 11) rfl
theorem dX6_areSlips_189 : decode cX6_areSlips 189 = .ok (.goto 48, 3) := vl_at vq_cX6_areSlips_2 (i := 12) rfl
theorem dX6_areSlips_192 : decode cX6_areSlips 192 = .ok (.aload 4, 2) := vl_at vq_cX6_areSlips_2 (i := 13) rfl
theorem dX6_areSlips_194 : decode cX6_areSlips 194 = .ok (.invokevirtual 150, 3) := vl_at vq_cX6_areSlips_2 (i := 14) rfl
theorem dX6_areSlips_197 : decode cX6_areSlips 197 = .ok (.ifCond .ne 38, 3) := vl_at vq_cX6_areSlips_2 (i := 15) rfl
theorem dX6_areSlips_200 : decode cX6_areSlips 200 = .ok (.aload 4, 2) := vl_at vq_cX6_areSlips_2 (i := 16) rfl
theorem dX6_areSlips_202 : decode cX6_areSlips 202 = .ok (.iload 5, 2) := vl_at vq_cX6_areSlips_2 (i := 17) rfl
theorem dX6_areSlips_204 : decode cX6_areSlips 204 = .ok (.ifCond .eq 13, 3) := vl_at vq_cX6_areSlips_2 (i := 18) rfl
theorem dX6_areSlips_207 : decode cX6_areSlips 207 = .ok (.aload 4, 2) := vl_at vq_cX6_areSlips_2 (i := 19) rfl
theorem dX6_areSlips_209 : decode cX6_areSlips 209 = .ok (.invokevirtual 52, 3) := vl_at vq_cX6_areSlips_2 (i := 20) rfl
theorem dX6_areSlips_212 : decode cX6_areSlips 212 = .ok (.iconst 1, 1) := vl_at vq_cX6_areSlips_2 (i := 21) rfl
theorem dX6_areSlips_213 : decode cX6_areSlips 213 = .ok (.isub, 1) := vl_at vq_cX6_areSlips_2 (i := 22) rfl
theorem dX6_areSlips_214 : decode cX6_areSlips 214 = .ok (.goto 4, 3) := vl_at vq_cX6_areSlips_2 (i := 23) rfl
theorem dX6_areSlips_217 : decode cX6_areSlips 217 = .ok (.iconst 0, 1) := vl_at vq_cX6_areSlips_2 (i := 24) rfl
theorem dX6_areSlips_218 : decode cX6_areSlips 218 = .ok (.invokevirtual 81, 3) := vl_at vq_cX6_areSlips_2 (i := 25) rfl
theorem dX6_areSlips_221 : decode cX6_areSlips 221 = .ok (.checkcast 56, 3) := vl_at vq_cX6_areSlips_2 (i := 26) rfl
theorem dX6_areSlips_224 : decode cX6_areSlips 224 = .ok (.invokevirtual 58, 3) := vl_at vq_cX6_areSlips_2 (i := 27) rfl
theorem dX6_areSlips_227 : decode cX6_areSlips 227 = .ok (.iload_n 3, 1) := vl_at vq_cX6_areSlips_2 (i := 28) rfl
theorem dX6_areSlips_228 : decode cX6_areSlips 228 = .ok (.sipush 1000, 3) := vl_at vq_cX6_areSlips_2 (i := 29) rfl
theorem dX6_areSlips_231 : decode cX6_areSlips 231 = .ok (.irem, 1) := vl_at vq_cX6_areSlips_2 (i := 30) rfl
theorem dX6_areSlips_232 : decode cX6_areSlips 232 = .ok (.if_icmp .eq 5, 3) := vl_at vq_cX6_areSlips_2 (i := 31) rfl
theorem dX6_areSlips_235 : decode cX6_areSlips 235 = .ok (.iconst 0, 1) := vl_at vq_cX6_areSlips_2 (i := 32) rfl
theorem dX6_areSlips_236 : decode cX6_areSlips 236 = .ok (.ireturn, 1) := vl_at vq_cX6_areSlips_2 (i := 33) rfl
theorem dX6_areSlips_237 : decode cX6_areSlips 237 = .ok (.aload 4, 2) := vl_at vq_cX6_areSlips_2 (i := 34) rfl
theorem dX6_areSlips_239 : decode cX6_areSlips 239 = .ok (.invokevirtual 52, 3) := vl_at vq_cX6_areSlips_2 (i := 35) rfl
theorem dX6_areSlips_242 : decode cX6_areSlips 242 = .ok (.bipush 20, 2) := vl_at vq_cX6_areSlips_2 (i := 36) rfl
theorem dX6_areSlips_244 : decode cX6_areSlips 244 = .ok (.if_icmp .le 5, 3) := vl_at vq_cX6_areSlips_2 (i := 37) rfl
theorem dX6_areSlips_247 : decode cX6_areSlips 247 = .ok (.iconst 0, 1) := vl_at vq_cX6_areSlips_2 (i := 38) rfl
theorem dX6_areSlips_248 : decode cX6_areSlips 248 = .ok (.ireturn, 1) := vl_at vq_cX6_areSlips_2 (i := 39) rfl
noncomputable def vl_cX6_areSlips_3 : List (Nat × Instr × Nat) := [(249, .iinc 2 (-1), 3), (252, .goto (-151), 3), (255, .iconst 1, 1), (256, .ireturn, 1)]
theorem vq_cX6_areSlips_3 : vl_ok cX6_areSlips vl_cX6_areSlips_3 = true := by decide +kernel
theorem dX6_areSlips_249 : decode cX6_areSlips 249 = .ok (.iinc 2 (-1), 3) := vl_at vq_cX6_areSlips_3 (i := 0) rfl
theorem dX6_areSlips_252 : decode cX6_areSlips 252 = .ok (.goto (-151), 3) := vl_at vq_cX6_areSlips_3 (i := 1) rfl
theorem dX6_areSlips_255 : decode cX6_areSlips 255 = .ok (.iconst 1, 1) := vl_at vq_cX6_areSlips_3 (i := 2) rfl
theorem dX6_areSlips_256 : decode cX6_areSlips 256 = .ok (.ireturn, 1) := vl_at vq_cX6_areSlips_3 (i := 3) rfl
noncomputable def vl_cX6_isWhole_0 : List (Nat × Instr × Nat) := [(0, .iconst 0, 1), (1, .istore_n 1, 1), (2, .iload_n 1, 1), (3, .iconst 2, 1), (4, .if_icmp .ge 41, 3), (7, .iconst 0, 1), (8, .istore_n 2, 1), (9, .iload_n 2, 1), (10, .aload_n 0, 1), (11, .iload_n 1, 1), (12, .invokevirtual 91, 3), (15, .if_icmp .ge 24, 3), (18, .iload_n 1, 1), (19, .aload_n 0, 1), (20, .iload_n 1, 1), (21, .iload_n 2, 1), (22, .invokevirtual 131, 3), (25, .invokestatic 124, 3), (28, .ifCond .eq 5, 3), (33, .iinc 2 1, 3), (36, .goto (-27), 3), (39, .iinc 1 1, 3), (42, .goto (-40), 3), (45, .aload_n 0, 1), (46, .getfield 25, 3), (49, .astore_n 1, 1), (50, .aload_n 1, 1), (51, .arraylength, 1), (52, .istore_n 2, 1), (53, .iconst 0, 1), (54, .istore_n 3, 1), (55, .iload_n 3, 1), (56, .iload_n 2, 1), (57, .if_icmp .ge 42, 3), (60, .aload_n 1, 1), (61, .iload_n 3, 1), (62, .aaload, 1), (63, .astore 4, 2), (65, .aload 4, 2), (67, .getfield 67, 3)]
theorem vq_cX6_isWhole_0 : vl_ok cX6_isWhole vl_cX6_isWhole_0 = true := by decide +kernel
theorem dX6_isWhole_0 : decode cX6_isWhole 0 = .ok (.iconst 0, 1) := vl_at vq_cX6_isWhole_0 (i := 0) rfl
theorem dX6_isWhole_1 : decode cX6_isWhole 1 = .ok (.istore_n 1, 1) := vl_at vq_cX6_isWhole_0 (i := 1) rfl
theorem dX6_isWhole_2 : decode cX6_isWhole 2 = .ok (.iload_n 1, 1) := vl_at vq_cX6_isWhole_0 (i := 2) rfl
theorem dX6_isWhole_3 : decode cX6_isWhole 3 = .ok (.iconst 2, 1) := vl_at vq_cX6_isWhole_0 (i := 3) rfl
theorem dX6_isWhole_4 : decode cX6_isWhole 4 = .ok (.if_icmp .ge 41, 3) := vl_at vq_cX6_isWhole_0 (i := 4) rfl
theorem dX6_isWhole_7 : decode cX6_isWhole 7 = .ok (.iconst 0, 1) := vl_at vq_cX6_isWhole_0 (i := 5) rfl
theorem dX6_isWhole_8 : decode cX6_isWhole 8 = .ok (.istore_n 2, 1) := vl_at vq_cX6_isWhole_0 (i := 6) rfl
theorem dX6_isWhole_9 : decode cX6_isWhole 9 = .ok (.iload_n 2, 1) := vl_at vq_cX6_isWhole_0 (i := 7) rfl
theorem dX6_isWhole_10 : decode cX6_isWhole 10 = .ok (.aload_n 0, 1) := vl_at vq_cX6_isWhole_0 (i := 8) rfl
theorem dX6_isWhole_11 : decode cX6_isWhole 11 = .ok (.iload_n 1, 1) := vl_at vq_cX6_isWhole_0 (i := 9) rfl
theorem dX6_isWhole_12 : decode cX6_isWhole 12 = .ok (.invokevirtual 91, 3) := vl_at vq_cX6_isWhole_0 (i := 10) rfl
theorem dX6_isWhole_15 : decode cX6_isWhole 15 = .ok (.if_icmp .ge 24, 3) := vl_at vq_cX6_isWhole_0 (i := 11) rfl
theorem dX6_isWhole_18 : decode cX6_isWhole 18 = .ok (.iload_n 1, 1) := vl_at vq_cX6_isWhole_0 (i := 12) rfl
theorem dX6_isWhole_19 : decode cX6_isWhole 19 = .ok (.aload_n 0, 1) := vl_at vq_cX6_isWhole_0 (i := 13) rfl
theorem dX6_isWhole_20 : decode cX6_isWhole 20 = .ok (.iload_n 1, 1) := vl_at vq_cX6_isWhole_0 (i := 14) rfl
theorem dX6_isWhole_21 : decode cX6_isWhole 21 = .ok (.iload_n 2, 1) := vl_at vq_cX6_isWhole_0 (i := 15) rfl
theorem dX6_isWhole_22 : decode cX6_isWhole 22 = .ok (.invokevirtual 131, 3) := vl_at vq_cX6_isWhole_0 (i := 16) rfl
theorem dX6_isWhole_25 : decode cX6_isWhole 25 = .ok (.invokestatic 124, 3) := vl_at vq_cX6_isWhole_0 (i := 17) rfl
theorem dX6_isWhole_28 : decode cX6_isWhole 28 = .ok (.ifCond .eq 5, 3) := vl_at vq_cX6_isWhole_0 (i := 18) rfl
theorem dX6_isWhole_33 : decode cX6_isWhole 33 = .ok (.iinc 2 1, 3) := vl_at vq_cX6_isWhole_0 (i := 19) rfl
theorem dX6_isWhole_36 : decode cX6_isWhole 36 = .ok (.goto (-27), 3) := vl_at vq_cX6_isWhole_0 (i := 20) rfl
theorem dX6_isWhole_39 : decode cX6_isWhole 39 = .ok (.iinc 1 1, 3) := vl_at vq_cX6_isWhole_0 (i := 21) rfl
theorem dX6_isWhole_42 : decode cX6_isWhole 42 = .ok (.goto (-40), 3) := vl_at vq_cX6_isWhole_0 (i := 22) rfl
theorem dX6_isWhole_45 : decode cX6_isWhole 45 = .ok (.aload_n 0, 1) := vl_at vq_cX6_isWhole_0 (i := 23) rfl
theorem dX6_isWhole_46 : decode cX6_isWhole 46 = .ok (.getfield 25, 3) := vl_at vq_cX6_isWhole_0 (i := 24) rfl
theorem dX6_isWhole_49 : decode cX6_isWhole 49 = .ok (.astore_n 1, 1) := vl_at vq_cX6_isWhole_0 (i := 25) rfl
theorem dX6_isWhole_50 : decode cX6_isWhole 50 = .ok (.aload_n 1, 1) := vl_at vq_cX6_isWhole_0 (i := 26) rfl
theorem dX6_isWhole_51 : decode cX6_isWhole 51 = .ok (.arraylength, 1) := vl_at vq_cX6_isWhole_0 (i := 27) rfl
theorem dX6_isWhole_52 : decode cX6_isWhole 52 = .ok (.istore_n 2, 1) := vl_at vq_cX6_isWhole_0 (i := 28) rfl
theorem dX6_isWhole_53 : decode cX6_isWhole 53 = .ok (.iconst 0, 1) := vl_at vq_cX6_isWhole_0 (i := 29) rfl
theorem dX6_isWhole_54 : decode cX6_isWhole 54 = .ok (.istore_n 3, 1) := vl_at vq_cX6_isWhole_0 (i := 30) rfl
theorem dX6_isWhole_55 : decode cX6_isWhole 55 = .ok (.iload_n 3, 1) := vl_at vq_cX6_isWhole_0 (i := 31) rfl
theorem dX6_isWhole_56 : decode cX6_isWhole 56 = .ok (.iload_n 2, 1) := vl_at vq_cX6_isWhole_0 (i := 32) rfl
theorem dX6_isWhole_57 : decode cX6_isWhole 57 = .ok (.if_icmp .ge 42, 3) := vl_at vq_cX6_isWhole_0 (i := 33) rfl
theorem dX6_isWhole_60 : decode cX6_isWhole 60 = .ok (.aload_n 1, 1) := vl_at vq_cX6_isWhole_0 (i := 34) rfl
theorem dX6_isWhole_61 : decode cX6_isWhole 61 = .ok (.iload_n 3, 1) := vl_at vq_cX6_isWhole_0 (i := 35) rfl
theorem dX6_isWhole_62 : decode cX6_isWhole 62 = .ok (.aaload, 1) := vl_at vq_cX6_isWhole_0 (i := 36) rfl
theorem dX6_isWhole_63 : decode cX6_isWhole 63 = .ok (.astore 4, 2) := vl_at vq_cX6_isWhole_0 (i := 37) rfl
theorem dX6_isWhole_65 : decode cX6_isWhole 65 = .ok (.aload 4, 2) := vl_at vq_cX6_isWhole_0 (i := 38) rfl
theorem dX6_isWhole_67 : decode cX6_isWhole 67 = .ok (.getfield 67, 3) := vl_at vq_cX6_isWhole_0 (i := 39) rfl
noncomputable def vl_cX6_isWhole_1 : List (Nat × Instr × Nat) := [(70, .iconst 1, 1), (71, .if_icmp .ne 22, 3), (74, .aload 4, 2), (76, .getfield 190, 3), (79, .iconst 0, 1), (80, .aload_n 0, 1), (81, .iconst 1, 1), (82, .invokevirtual 91, 3), (85, .invokestatic 44, 3), (88, .ifCond .ne 5, 3), (93, .iinc 3 1, 3), (96, .goto (-41), 3), (99, .aload_n 0, 1), (100, .iconst 0, 1), (101, .invokevirtual 91, 3), (104, .bipush 20, 2), (106, .if_icmp .gt 48, 3), (109, .aload_n 0, 1), (110, .iconst 1, 1), (111, .invokevirtual 91, 3), (114, .bipush 20, 2), (116, .if_icmp .gt 38, 3), (119, .aload_n 0, 1), (120, .getfield 16, 3), (123, .invokevirtual 52, 3), (126, .bipush 12, 2), (128, .if_icmp .gt 26, 3), (131, .aload_n 0, 1), (132, .getfield 19, 3), (135, .invokevirtual 52, 3), (138, .bipush 10, 2), (140, .if_icmp .gt 14, 3), (143, .aload_n 0, 1), (144, .invokevirtual 257, 3), (147, .ifCond .eq 7, 3), (150, .iconst 1, 1), (151, .goto 4, 3), (154, .iconst 0, 1), (155, .ireturn, 1)]
theorem vq_cX6_isWhole_1 : vl_ok cX6_isWhole vl_cX6_isWhole_1 = true := by decide +kernel
theorem dX6_isWhole_70 : decode cX6_isWhole 70 = .ok (.iconst 1, 1) := vl_at vq_cX6_isWhole_1 (i := 0) rfl
theorem dX6_isWhole_71 : decode cX6_isWhole 71 = .ok (.if_icmp .ne 22, 3) := vl_at vq_cX6_isWhole_1 (i := 1) rfl
theorem dX6_isWhole_74 : decode cX6_isWhole 74 = .ok (.aload 4, 2) := vl_at vq_cX6_isWhole_1 (i := 2) rfl
theorem dX6_isWhole_76 : decode cX6_isWhole 76 = .ok (.getfield 190, 3) := vl_at vq_cX6_isWhole_1 (i := 3) rfl
theorem dX6_isWhole_79 : decode cX6_isWhole 79 = .ok (.iconst 0, 1) := vl_at vq_cX6_isWhole_1 (i := 4) rfl
theorem dX6_isWhole_80 : decode cX6_isWhole 80 = .ok (.aload_n 0, 1) := vl_at vq_cX6_isWhole_1 (i := 5) rfl
theorem dX6_isWhole_81 : decode cX6_isWhole 81 = .ok (.iconst 1, 1) := vl_at vq_cX6_isWhole_1 (i := 6) rfl
theorem dX6_isWhole_82 : decode cX6_isWhole 82 = .ok (.invokevirtual 91, 3) := vl_at vq_cX6_isWhole_1 (i := 7) rfl
theorem dX6_isWhole_85 : decode cX6_isWhole 85 = .ok (.invokestatic 44, 3) := vl_at vq_cX6_isWhole_1 (i := 8) rfl
theorem dX6_isWhole_88 : decode cX6_isWhole 88 = .ok (.ifCond .ne 5, 3) := vl_at vq_cX6_isWhole_1 (i := 9) rfl
theorem dX6_isWhole_93 : decode cX6_isWhole 93 = .ok (.iinc 3 1, 3) := vl_at vq_cX6_isWhole_1 (i := 10) rfl
theorem dX6_isWhole_96 : decode cX6_isWhole 96 = .ok (.goto (-41), 3) := vl_at vq_cX6_isWhole_1 (i := 11) rfl
theorem dX6_isWhole_99 : decode cX6_isWhole 99 = .ok (.aload_n 0, 1) := vl_at vq_cX6_isWhole_1 (i := 12) rfl
theorem dX6_isWhole_100 : decode cX6_isWhole 100 = .ok (.iconst 0, 1) := vl_at vq_cX6_isWhole_1 (i := 13) rfl
theorem dX6_isWhole_101 : decode cX6_isWhole 101 = .ok (.invokevirtual 91, 3) := vl_at vq_cX6_isWhole_1 (i := 14) rfl
theorem dX6_isWhole_104 : decode cX6_isWhole 104 = .ok (.bipush 20, 2) := vl_at vq_cX6_isWhole_1 (i := 15) rfl
theorem dX6_isWhole_106 : decode cX6_isWhole 106 = .ok (.if_icmp .gt 48, 3) := vl_at vq_cX6_isWhole_1 (i := 16) rfl
theorem dX6_isWhole_109 : decode cX6_isWhole 109 = .ok (.aload_n 0, 1) := vl_at vq_cX6_isWhole_1 (i := 17) rfl
theorem dX6_isWhole_110 : decode cX6_isWhole 110 = .ok (.iconst 1, 1) := vl_at vq_cX6_isWhole_1 (i := 18) rfl
theorem dX6_isWhole_111 : decode cX6_isWhole 111 = .ok (.invokevirtual 91, 3) := vl_at vq_cX6_isWhole_1 (i := 19) rfl
theorem dX6_isWhole_114 : decode cX6_isWhole 114 = .ok (.bipush 20, 2) := vl_at vq_cX6_isWhole_1 (i := 20) rfl
theorem dX6_isWhole_116 : decode cX6_isWhole 116 = .ok (.if_icmp .gt 38, 3) := vl_at vq_cX6_isWhole_1 (i := 21) rfl
theorem dX6_isWhole_119 : decode cX6_isWhole 119 = .ok (.aload_n 0, 1) := vl_at vq_cX6_isWhole_1 (i := 22) rfl
theorem dX6_isWhole_120 : decode cX6_isWhole 120 = .ok (.getfield 16, 3) := vl_at vq_cX6_isWhole_1 (i := 23) rfl
theorem dX6_isWhole_123 : decode cX6_isWhole 123 = .ok (.invokevirtual 52, 3) := vl_at vq_cX6_isWhole_1 (i := 24) rfl
theorem dX6_isWhole_126 : decode cX6_isWhole 126 = .ok (.bipush 12, 2) := vl_at vq_cX6_isWhole_1 (i := 25) rfl
theorem dX6_isWhole_128 : decode cX6_isWhole 128 = .ok (.if_icmp .gt 26, 3) := vl_at vq_cX6_isWhole_1 (i := 26) rfl
theorem dX6_isWhole_131 : decode cX6_isWhole 131 = .ok (.aload_n 0, 1) := vl_at vq_cX6_isWhole_1 (i := 27) rfl
theorem dX6_isWhole_132 : decode cX6_isWhole 132 = .ok (.getfield 19, 3) := vl_at vq_cX6_isWhole_1 (i := 28) rfl
theorem dX6_isWhole_135 : decode cX6_isWhole 135 = .ok (.invokevirtual 52, 3) := vl_at vq_cX6_isWhole_1 (i := 29) rfl
theorem dX6_isWhole_138 : decode cX6_isWhole 138 = .ok (.bipush 10, 2) := vl_at vq_cX6_isWhole_1 (i := 30) rfl
theorem dX6_isWhole_140 : decode cX6_isWhole 140 = .ok (.if_icmp .gt 14, 3) := vl_at vq_cX6_isWhole_1 (i := 31) rfl
theorem dX6_isWhole_143 : decode cX6_isWhole 143 = .ok (.aload_n 0, 1) := vl_at vq_cX6_isWhole_1 (i := 32) rfl
theorem dX6_isWhole_144 : decode cX6_isWhole 144 = .ok (.invokevirtual 257, 3) := vl_at vq_cX6_isWhole_1 (i := 33) rfl
theorem dX6_isWhole_147 : decode cX6_isWhole 147 = .ok (.ifCond .eq 7, 3) := vl_at vq_cX6_isWhole_1 (i := 34) rfl
theorem dX6_isWhole_150 : decode cX6_isWhole 150 = .ok (.iconst 1, 1) := vl_at vq_cX6_isWhole_1 (i := 35) rfl
theorem dX6_isWhole_151 : decode cX6_isWhole 151 = .ok (.goto 4, 3) := vl_at vq_cX6_isWhole_1 (i := 36) rfl
theorem dX6_isWhole_154 : decode cX6_isWhole 154 = .ok (.iconst 0, 1) := vl_at vq_cX6_isWhole_1 (i := 37) rfl
theorem dX6_isWhole_155 : decode cX6_isWhole 155 = .ok (.ireturn, 1) := vl_at vq_cX6_isWhole_1 (i := 38) rfl
noncomputable def vl_cX6_isSound_0 : List (Nat × Instr × Nat) := [(0, .aload_n 0, 1), (1, .iconst 0, 1), (2, .putfield 37, 3), (5, .aload_n 0, 1), (6, .invokevirtual 260, 3), (9, .ireturn, 1)]
theorem vq_cX6_isSound_0 : vl_ok cX6_isSound vl_cX6_isSound_0 = true := by decide +kernel
theorem dX6_isSound_0 : decode cX6_isSound 0 = .ok (.aload_n 0, 1) := vl_at vq_cX6_isSound_0 (i := 0) rfl
theorem dX6_isSound_1 : decode cX6_isSound 1 = .ok (.iconst 0, 1) := vl_at vq_cX6_isSound_0 (i := 1) rfl
theorem dX6_isSound_2 : decode cX6_isSound 2 = .ok (.putfield 37, 3) := vl_at vq_cX6_isSound_0 (i := 2) rfl
theorem dX6_isSound_5 : decode cX6_isSound 5 = .ok (.aload_n 0, 1) := vl_at vq_cX6_isSound_0 (i := 3) rfl
theorem dX6_isSound_6 : decode cX6_isSound 6 = .ok (.invokevirtual 260, 3) := vl_at vq_cX6_isSound_0 (i := 4) rfl
theorem dX6_isSound_9 : decode cX6_isSound 9 = .ok (.ireturn, 1) := vl_at vq_cX6_isSound_0 (i := 5) rfl
noncomputable def vl_cX6_add_0 : List (Nat × Instr × Nat) := [(0, .lload_n 0, 1), (1, .ldc2_w 263, 3), (4, .lmul, 1), (5, .lload_n 2, 1), (6, .ladd, 1), (7, .lreturn, 1)]
theorem vq_cX6_add_0 : vl_ok cX6_add vl_cX6_add_0 = true := by decide +kernel
theorem dX6_add_0 : decode cX6_add 0 = .ok (.lload_n 0, 1) := vl_at vq_cX6_add_0 (i := 0) rfl
theorem dX6_add_1 : decode cX6_add 1 = .ok (.ldc2_w 263, 3) := vl_at vq_cX6_add_0 (i := 1) rfl
theorem dX6_add_4 : decode cX6_add 4 = .ok (.lmul, 1) := vl_at vq_cX6_add_0 (i := 2) rfl
theorem dX6_add_5 : decode cX6_add 5 = .ok (.lload_n 2, 1) := vl_at vq_cX6_add_0 (i := 3) rfl
theorem dX6_add_6 : decode cX6_add 6 = .ok (.ladd, 1) := vl_at vq_cX6_add_0 (i := 4) rfl
theorem dX6_add_7 : decode cX6_add 7 = .ok (.lreturn, 1) := vl_at vq_cX6_add_0 (i := 5) rfl
noncomputable def vl_cX6_digest_0 : List (Nat × Instr × Nat) := [(0, .aload_n 0, 1), (1, .iconst 0, 1), (2, .putfield 37, 3), (5, .ldc2_w 265, 3), (8, .lstore_n 1, 1), (9, .iconst 0, 1), (10, .istore_n 3, 1), (11, .iload_n 3, 1), (12, .iconst 2, 1), (13, .if_icmp .ge 122, 3), (16, .iconst 0, 1), (17, .istore 4, 2), (19, .iload 4, 2), (21, .iconst 4, 1), (22, .if_icmp .ge 22, 3), (25, .lload_n 1, 1), (26, .aload_n 0, 1), (27, .iload_n 3, 1), (28, .iload 4, 2), (30, .invokevirtual 206, 3), (33, .i2l, 1), (34, .invokestatic 267, 3), (37, .lstore_n 1, 1), (38, .iinc 4 1, 3), (41, .goto (-22), 3), (44, .iconst 0, 1), (45, .istore 4, 2), (47, .iload 4, 2), (49, .bipush 6, 2), (51, .if_icmp .ge 22, 3), (54, .lload_n 1, 1), (55, .aload_n 0, 1), (56, .iload_n 3, 1), (57, .iload 4, 2), (59, .invokevirtual 203, 3), (62, .i2l, 1), (63, .invokestatic 267, 3), (66, .lstore_n 1, 1), (67, .iinc 4 1, 3), (70, .goto (-23), 3)]
theorem vq_cX6_digest_0 : vl_ok cX6_digest vl_cX6_digest_0 = true := by decide +kernel
theorem dX6_digest_0 : decode cX6_digest 0 = .ok (.aload_n 0, 1) := vl_at vq_cX6_digest_0 (i := 0) rfl
theorem dX6_digest_1 : decode cX6_digest 1 = .ok (.iconst 0, 1) := vl_at vq_cX6_digest_0 (i := 1) rfl
theorem dX6_digest_2 : decode cX6_digest 2 = .ok (.putfield 37, 3) := vl_at vq_cX6_digest_0 (i := 2) rfl
theorem dX6_digest_5 : decode cX6_digest 5 = .ok (.ldc2_w 265, 3) := vl_at vq_cX6_digest_0 (i := 3) rfl
theorem dX6_digest_8 : decode cX6_digest 8 = .ok (.lstore_n 1, 1) := vl_at vq_cX6_digest_0 (i := 4) rfl
theorem dX6_digest_9 : decode cX6_digest 9 = .ok (.iconst 0, 1) := vl_at vq_cX6_digest_0 (i := 5) rfl
theorem dX6_digest_10 : decode cX6_digest 10 = .ok (.istore_n 3, 1) := vl_at vq_cX6_digest_0 (i := 6) rfl
theorem dX6_digest_11 : decode cX6_digest 11 = .ok (.iload_n 3, 1) := vl_at vq_cX6_digest_0 (i := 7) rfl
theorem dX6_digest_12 : decode cX6_digest 12 = .ok (.iconst 2, 1) := vl_at vq_cX6_digest_0 (i := 8) rfl
theorem dX6_digest_13 : decode cX6_digest 13 = .ok (.if_icmp .ge 122, 3) := vl_at vq_cX6_digest_0 (i := 9) rfl
theorem dX6_digest_16 : decode cX6_digest 16 = .ok (.iconst 0, 1) := vl_at vq_cX6_digest_0 (i := 10) rfl
theorem dX6_digest_17 : decode cX6_digest 17 = .ok (.istore 4, 2) := vl_at vq_cX6_digest_0 (i := 11) rfl
theorem dX6_digest_19 : decode cX6_digest 19 = .ok (.iload 4, 2) := vl_at vq_cX6_digest_0 (i := 12) rfl
theorem dX6_digest_21 : decode cX6_digest 21 = .ok (.iconst 4, 1) := vl_at vq_cX6_digest_0 (i := 13) rfl
theorem dX6_digest_22 : decode cX6_digest 22 = .ok (.if_icmp .ge 22, 3) := vl_at vq_cX6_digest_0 (i := 14) rfl
theorem dX6_digest_25 : decode cX6_digest 25 = .ok (.lload_n 1, 1) := vl_at vq_cX6_digest_0 (i := 15) rfl
theorem dX6_digest_26 : decode cX6_digest 26 = .ok (.aload_n 0, 1) := vl_at vq_cX6_digest_0 (i := 16) rfl
theorem dX6_digest_27 : decode cX6_digest 27 = .ok (.iload_n 3, 1) := vl_at vq_cX6_digest_0 (i := 17) rfl
theorem dX6_digest_28 : decode cX6_digest 28 = .ok (.iload 4, 2) := vl_at vq_cX6_digest_0 (i := 18) rfl
theorem dX6_digest_30 : decode cX6_digest 30 = .ok (.invokevirtual 206, 3) := vl_at vq_cX6_digest_0 (i := 19) rfl
theorem dX6_digest_33 : decode cX6_digest 33 = .ok (.i2l, 1) := vl_at vq_cX6_digest_0 (i := 20) rfl
theorem dX6_digest_34 : decode cX6_digest 34 = .ok (.invokestatic 267, 3) := vl_at vq_cX6_digest_0 (i := 21) rfl
theorem dX6_digest_37 : decode cX6_digest 37 = .ok (.lstore_n 1, 1) := vl_at vq_cX6_digest_0 (i := 22) rfl
theorem dX6_digest_38 : decode cX6_digest 38 = .ok (.iinc 4 1, 3) := vl_at vq_cX6_digest_0 (i := 23) rfl
theorem dX6_digest_41 : decode cX6_digest 41 = .ok (.goto (-22), 3) := vl_at vq_cX6_digest_0 (i := 24) rfl
theorem dX6_digest_44 : decode cX6_digest 44 = .ok (.iconst 0, 1) := vl_at vq_cX6_digest_0 (i := 25) rfl
theorem dX6_digest_45 : decode cX6_digest 45 = .ok (.istore 4, 2) := vl_at vq_cX6_digest_0 (i := 26) rfl
theorem dX6_digest_47 : decode cX6_digest 47 = .ok (.iload 4, 2) := vl_at vq_cX6_digest_0 (i := 27) rfl
theorem dX6_digest_49 : decode cX6_digest 49 = .ok (.bipush 6, 2) := vl_at vq_cX6_digest_0 (i := 28) rfl
theorem dX6_digest_51 : decode cX6_digest 51 = .ok (.if_icmp .ge 22, 3) := vl_at vq_cX6_digest_0 (i := 29) rfl
theorem dX6_digest_54 : decode cX6_digest 54 = .ok (.lload_n 1, 1) := vl_at vq_cX6_digest_0 (i := 30) rfl
theorem dX6_digest_55 : decode cX6_digest 55 = .ok (.aload_n 0, 1) := vl_at vq_cX6_digest_0 (i := 31) rfl
theorem dX6_digest_56 : decode cX6_digest 56 = .ok (.iload_n 3, 1) := vl_at vq_cX6_digest_0 (i := 32) rfl
theorem dX6_digest_57 : decode cX6_digest 57 = .ok (.iload 4, 2) := vl_at vq_cX6_digest_0 (i := 33) rfl
theorem dX6_digest_59 : decode cX6_digest 59 = .ok (.invokevirtual 203, 3) := vl_at vq_cX6_digest_0 (i := 34) rfl
theorem dX6_digest_62 : decode cX6_digest 62 = .ok (.i2l, 1) := vl_at vq_cX6_digest_0 (i := 35) rfl
theorem dX6_digest_63 : decode cX6_digest 63 = .ok (.invokestatic 267, 3) := vl_at vq_cX6_digest_0 (i := 36) rfl
theorem dX6_digest_66 : decode cX6_digest 66 = .ok (.lstore_n 1, 1) := vl_at vq_cX6_digest_0 (i := 37) rfl
theorem dX6_digest_67 : decode cX6_digest 67 = .ok (.iinc 4 1, 3) := vl_at vq_cX6_digest_0 (i := 38) rfl
theorem dX6_digest_70 : decode cX6_digest 70 = .ok (.goto (-23), 3) := vl_at vq_cX6_digest_0 (i := 39) rfl
noncomputable def vl_cX6_digest_1 : List (Nat × Instr × Nat) := [(73, .iconst 0, 1), (74, .istore 4, 2), (76, .iload 4, 2), (78, .aload_n 0, 1), (79, .iload_n 3, 1), (80, .invokevirtual 91, 3), (83, .if_icmp .ge 22, 3), (86, .lload_n 1, 1), (87, .aload_n 0, 1), (88, .iload_n 3, 1), (89, .iload 4, 2), (91, .invokevirtual 131, 3), (94, .i2l, 1), (95, .invokestatic 267, 3), (98, .lstore_n 1, 1), (99, .iinc 4 1, 3), (102, .goto (-26), 3), (105, .lload_n 1, 1), (106, .aload_n 0, 1), (107, .iload_n 3, 1), (108, .iconst 1, 1), (109, .invokevirtual 231, 3), (112, .invokevirtual 270, 3), (115, .i2l, 1), (116, .invokestatic 267, 3), (119, .aload_n 0, 1), (120, .iload_n 3, 1), (121, .invokevirtual 238, 3), (124, .i2l, 1), (125, .invokestatic 267, 3), (128, .lstore_n 1, 1), (129, .iinc 3 1, 3), (132, .goto (-121), 3), (135, .iconst 0, 1), (136, .istore_n 3, 1), (137, .iload_n 3, 1), (138, .bipush 9, 2), (140, .if_icmp .gt 33, 3), (143, .lload_n 1, 1), (144, .aload_n 0, 1)]
theorem vq_cX6_digest_1 : vl_ok cX6_digest vl_cX6_digest_1 = true := by decide +kernel
theorem dX6_digest_73 : decode cX6_digest 73 = .ok (.iconst 0, 1) := vl_at vq_cX6_digest_1 (i := 0) rfl
theorem dX6_digest_74 : decode cX6_digest 74 = .ok (.istore 4, 2) := vl_at vq_cX6_digest_1 (i := 1) rfl
theorem dX6_digest_76 : decode cX6_digest 76 = .ok (.iload 4, 2) := vl_at vq_cX6_digest_1 (i := 2) rfl
theorem dX6_digest_78 : decode cX6_digest 78 = .ok (.aload_n 0, 1) := vl_at vq_cX6_digest_1 (i := 3) rfl
theorem dX6_digest_79 : decode cX6_digest 79 = .ok (.iload_n 3, 1) := vl_at vq_cX6_digest_1 (i := 4) rfl
theorem dX6_digest_80 : decode cX6_digest 80 = .ok (.invokevirtual 91, 3) := vl_at vq_cX6_digest_1 (i := 5) rfl
theorem dX6_digest_83 : decode cX6_digest 83 = .ok (.if_icmp .ge 22, 3) := vl_at vq_cX6_digest_1 (i := 6) rfl
theorem dX6_digest_86 : decode cX6_digest 86 = .ok (.lload_n 1, 1) := vl_at vq_cX6_digest_1 (i := 7) rfl
theorem dX6_digest_87 : decode cX6_digest 87 = .ok (.aload_n 0, 1) := vl_at vq_cX6_digest_1 (i := 8) rfl
theorem dX6_digest_88 : decode cX6_digest 88 = .ok (.iload_n 3, 1) := vl_at vq_cX6_digest_1 (i := 9) rfl
theorem dX6_digest_89 : decode cX6_digest 89 = .ok (.iload 4, 2) := vl_at vq_cX6_digest_1 (i := 10) rfl
theorem dX6_digest_91 : decode cX6_digest 91 = .ok (.invokevirtual 131, 3) := vl_at vq_cX6_digest_1 (i := 11) rfl
theorem dX6_digest_94 : decode cX6_digest 94 = .ok (.i2l, 1) := vl_at vq_cX6_digest_1 (i := 12) rfl
theorem dX6_digest_95 : decode cX6_digest 95 = .ok (.invokestatic 267, 3) := vl_at vq_cX6_digest_1 (i := 13) rfl
theorem dX6_digest_98 : decode cX6_digest 98 = .ok (.lstore_n 1, 1) := vl_at vq_cX6_digest_1 (i := 14) rfl
theorem dX6_digest_99 : decode cX6_digest 99 = .ok (.iinc 4 1, 3) := vl_at vq_cX6_digest_1 (i := 15) rfl
theorem dX6_digest_102 : decode cX6_digest 102 = .ok (.goto (-26), 3) := vl_at vq_cX6_digest_1 (i := 16) rfl
theorem dX6_digest_105 : decode cX6_digest 105 = .ok (.lload_n 1, 1) := vl_at vq_cX6_digest_1 (i := 17) rfl
theorem dX6_digest_106 : decode cX6_digest 106 = .ok (.aload_n 0, 1) := vl_at vq_cX6_digest_1 (i := 18) rfl
theorem dX6_digest_107 : decode cX6_digest 107 = .ok (.iload_n 3, 1) := vl_at vq_cX6_digest_1 (i := 19) rfl
theorem dX6_digest_108 : decode cX6_digest 108 = .ok (.iconst 1, 1) := vl_at vq_cX6_digest_1 (i := 20) rfl
theorem dX6_digest_109 : decode cX6_digest 109 = .ok (.invokevirtual 231, 3) := vl_at vq_cX6_digest_1 (i := 21) rfl
theorem dX6_digest_112 : decode cX6_digest 112 = .ok (.invokevirtual 270, 3) := vl_at vq_cX6_digest_1 (i := 22) rfl
theorem dX6_digest_115 : decode cX6_digest 115 = .ok (.i2l, 1) := vl_at vq_cX6_digest_1 (i := 23) rfl
theorem dX6_digest_116 : decode cX6_digest 116 = .ok (.invokestatic 267, 3) := vl_at vq_cX6_digest_1 (i := 24) rfl
theorem dX6_digest_119 : decode cX6_digest 119 = .ok (.aload_n 0, 1) := vl_at vq_cX6_digest_1 (i := 25) rfl
theorem dX6_digest_120 : decode cX6_digest 120 = .ok (.iload_n 3, 1) := vl_at vq_cX6_digest_1 (i := 26) rfl
theorem dX6_digest_121 : decode cX6_digest 121 = .ok (.invokevirtual 238, 3) := vl_at vq_cX6_digest_1 (i := 27) rfl
theorem dX6_digest_124 : decode cX6_digest 124 = .ok (.i2l, 1) := vl_at vq_cX6_digest_1 (i := 28) rfl
theorem dX6_digest_125 : decode cX6_digest 125 = .ok (.invokestatic 267, 3) := vl_at vq_cX6_digest_1 (i := 29) rfl
theorem dX6_digest_128 : decode cX6_digest 128 = .ok (.lstore_n 1, 1) := vl_at vq_cX6_digest_1 (i := 30) rfl
theorem dX6_digest_129 : decode cX6_digest 129 = .ok (.iinc 3 1, 3) := vl_at vq_cX6_digest_1 (i := 31) rfl
theorem dX6_digest_132 : decode cX6_digest 132 = .ok (.goto (-121), 3) := vl_at vq_cX6_digest_1 (i := 32) rfl
theorem dX6_digest_135 : decode cX6_digest 135 = .ok (.iconst 0, 1) := vl_at vq_cX6_digest_1 (i := 33) rfl
theorem dX6_digest_136 : decode cX6_digest 136 = .ok (.istore_n 3, 1) := vl_at vq_cX6_digest_1 (i := 34) rfl
theorem dX6_digest_137 : decode cX6_digest 137 = .ok (.iload_n 3, 1) := vl_at vq_cX6_digest_1 (i := 35) rfl
theorem dX6_digest_138 : decode cX6_digest 138 = .ok (.bipush 9, 2) := vl_at vq_cX6_digest_1 (i := 36) rfl
theorem dX6_digest_140 : decode cX6_digest 140 = .ok (.if_icmp .gt 33, 3) := vl_at vq_cX6_digest_1 (i := 37) rfl
theorem dX6_digest_143 : decode cX6_digest 143 = .ok (.lload_n 1, 1) := vl_at vq_cX6_digest_1 (i := 38) rfl
theorem dX6_digest_144 : decode cX6_digest 144 = .ok (.aload_n 0, 1) := vl_at vq_cX6_digest_1 (i := 39) rfl
noncomputable def vl_cX6_digest_2 : List (Nat × Instr × Nat) := [(145, .iconst 1, 1), (146, .iload_n 3, 1), (147, .iconst 0, 1), (148, .invokevirtual 160, 3), (151, .i2l, 1), (152, .invokestatic 267, 3), (155, .aload_n 0, 1), (156, .iconst 1, 1), (157, .iload_n 3, 1), (158, .iconst 1, 1), (159, .invokevirtual 160, 3), (162, .i2l, 1), (163, .invokestatic 267, 3), (166, .lstore_n 1, 1), (167, .iinc 3 1, 3), (170, .goto (-33), 3), (173, .iconst 0, 1), (174, .istore_n 3, 1), (175, .iload_n 3, 1), (176, .iconst 2, 1), (177, .if_icmp .ge 62, 3), (180, .lload_n 1, 1), (181, .aload_n 0, 1), (182, .iload_n 3, 1), (183, .iconst 0, 1), (184, .invokevirtual 197, 3), (187, .i2l, 1), (188, .invokestatic 267, 3), (191, .lstore_n 1, 1), (192, .iconst 1, 1), (193, .istore 4, 2), (195, .iload 4, 2), (197, .iconst 5, 1), (198, .if_icmp .ge 35, 3), (201, .aload_n 0, 1), (202, .getfield 25, 3), (205, .iload_n 3, 1), (206, .aaload, 1), (207, .getfield 67, 3), (210, .iconst 1, 1)]
theorem vq_cX6_digest_2 : vl_ok cX6_digest vl_cX6_digest_2 = true := by decide +kernel
theorem dX6_digest_145 : decode cX6_digest 145 = .ok (.iconst 1, 1) := vl_at vq_cX6_digest_2 (i := 0) rfl
theorem dX6_digest_146 : decode cX6_digest 146 = .ok (.iload_n 3, 1) := vl_at vq_cX6_digest_2 (i := 1) rfl
theorem dX6_digest_147 : decode cX6_digest 147 = .ok (.iconst 0, 1) := vl_at vq_cX6_digest_2 (i := 2) rfl
theorem dX6_digest_148 : decode cX6_digest 148 = .ok (.invokevirtual 160, 3) := vl_at vq_cX6_digest_2 (i := 3) rfl
theorem dX6_digest_151 : decode cX6_digest 151 = .ok (.i2l, 1) := vl_at vq_cX6_digest_2 (i := 4) rfl
theorem dX6_digest_152 : decode cX6_digest 152 = .ok (.invokestatic 267, 3) := vl_at vq_cX6_digest_2 (i := 5) rfl
theorem dX6_digest_155 : decode cX6_digest 155 = .ok (.aload_n 0, 1) := vl_at vq_cX6_digest_2 (i := 6) rfl
theorem dX6_digest_156 : decode cX6_digest 156 = .ok (.iconst 1, 1) := vl_at vq_cX6_digest_2 (i := 7) rfl
theorem dX6_digest_157 : decode cX6_digest 157 = .ok (.iload_n 3, 1) := vl_at vq_cX6_digest_2 (i := 8) rfl
theorem dX6_digest_158 : decode cX6_digest 158 = .ok (.iconst 1, 1) := vl_at vq_cX6_digest_2 (i := 9) rfl
theorem dX6_digest_159 : decode cX6_digest 159 = .ok (.invokevirtual 160, 3) := vl_at vq_cX6_digest_2 (i := 10) rfl
theorem dX6_digest_162 : decode cX6_digest 162 = .ok (.i2l, 1) := vl_at vq_cX6_digest_2 (i := 11) rfl
theorem dX6_digest_163 : decode cX6_digest 163 = .ok (.invokestatic 267, 3) := vl_at vq_cX6_digest_2 (i := 12) rfl
theorem dX6_digest_166 : decode cX6_digest 166 = .ok (.lstore_n 1, 1) := vl_at vq_cX6_digest_2 (i := 13) rfl
theorem dX6_digest_167 : decode cX6_digest 167 = .ok (.iinc 3 1, 3) := vl_at vq_cX6_digest_2 (i := 14) rfl
theorem dX6_digest_170 : decode cX6_digest 170 = .ok (.goto (-33), 3) := vl_at vq_cX6_digest_2 (i := 15) rfl
theorem dX6_digest_173 : decode cX6_digest 173 = .ok (.iconst 0, 1) := vl_at vq_cX6_digest_2 (i := 16) rfl
theorem dX6_digest_174 : decode cX6_digest 174 = .ok (.istore_n 3, 1) := vl_at vq_cX6_digest_2 (i := 17) rfl
theorem dX6_digest_175 : decode cX6_digest 175 = .ok (.iload_n 3, 1) := vl_at vq_cX6_digest_2 (i := 18) rfl
theorem dX6_digest_176 : decode cX6_digest 176 = .ok (.iconst 2, 1) := vl_at vq_cX6_digest_2 (i := 19) rfl
theorem dX6_digest_177 : decode cX6_digest 177 = .ok (.if_icmp .ge 62, 3) := vl_at vq_cX6_digest_2 (i := 20) rfl
theorem dX6_digest_180 : decode cX6_digest 180 = .ok (.lload_n 1, 1) := vl_at vq_cX6_digest_2 (i := 21) rfl
theorem dX6_digest_181 : decode cX6_digest 181 = .ok (.aload_n 0, 1) := vl_at vq_cX6_digest_2 (i := 22) rfl
theorem dX6_digest_182 : decode cX6_digest 182 = .ok (.iload_n 3, 1) := vl_at vq_cX6_digest_2 (i := 23) rfl
theorem dX6_digest_183 : decode cX6_digest 183 = .ok (.iconst 0, 1) := vl_at vq_cX6_digest_2 (i := 24) rfl
theorem dX6_digest_184 : decode cX6_digest 184 = .ok (.invokevirtual 197, 3) := vl_at vq_cX6_digest_2 (i := 25) rfl
theorem dX6_digest_187 : decode cX6_digest 187 = .ok (.i2l, 1) := vl_at vq_cX6_digest_2 (i := 26) rfl
theorem dX6_digest_188 : decode cX6_digest 188 = .ok (.invokestatic 267, 3) := vl_at vq_cX6_digest_2 (i := 27) rfl
theorem dX6_digest_191 : decode cX6_digest 191 = .ok (.lstore_n 1, 1) := vl_at vq_cX6_digest_2 (i := 28) rfl
theorem dX6_digest_192 : decode cX6_digest 192 = .ok (.iconst 1, 1) := vl_at vq_cX6_digest_2 (i := 29) rfl
theorem dX6_digest_193 : decode cX6_digest 193 = .ok (.istore 4, 2) := vl_at vq_cX6_digest_2 (i := 30) rfl
theorem dX6_digest_195 : decode cX6_digest 195 = .ok (.iload 4, 2) := vl_at vq_cX6_digest_2 (i := 31) rfl
theorem dX6_digest_197 : decode cX6_digest 197 = .ok (.iconst 5, 1) := vl_at vq_cX6_digest_2 (i := 32) rfl
theorem dX6_digest_198 : decode cX6_digest 198 = .ok (.if_icmp .ge 35, 3) := vl_at vq_cX6_digest_2 (i := 33) rfl
theorem dX6_digest_201 : decode cX6_digest 201 = .ok (.aload_n 0, 1) := vl_at vq_cX6_digest_2 (i := 34) rfl
theorem dX6_digest_202 : decode cX6_digest 202 = .ok (.getfield 25, 3) := vl_at vq_cX6_digest_2 (i := 35) rfl
theorem dX6_digest_205 : decode cX6_digest 205 = .ok (.iload_n 3, 1) := vl_at vq_cX6_digest_2 (i := 36) rfl
theorem dX6_digest_206 : decode cX6_digest 206 = .ok (.aaload, 1) := vl_at vq_cX6_digest_2 (i := 37) rfl
theorem dX6_digest_207 : decode cX6_digest 207 = .ok (.getfield 67, 3) := vl_at vq_cX6_digest_2 (i := 38) rfl
theorem dX6_digest_210 : decode cX6_digest 210 = .ok (.iconst 1, 1) := vl_at vq_cX6_digest_2 (i := 39) rfl
noncomputable def vl_cX6_digest_3 : List (Nat × Instr × Nat) := [(211, .if_icmp .ne 22, 3), (214, .lload_n 1, 1), (215, .aload_n 0, 1), (216, .iload_n 3, 1), (217, .iload 4, 2), (219, .invokevirtual 197, 3), (222, .i2l, 1), (223, .invokestatic 267, 3), (226, .lstore_n 1, 1), (227, .iinc 4 1, 3), (230, .goto (-35), 3), (233, .iinc 3 1, 3), (236, .goto (-61), 3), (239, .iconst 0, 1), (240, .istore_n 3, 1), (241, .iload_n 3, 1), (242, .bipush 8, 2), (244, .if_icmp .ge 20, 3), (247, .lload_n 1, 1), (248, .aload_n 0, 1), (249, .iload_n 3, 1), (250, .invokevirtual 244, 3), (253, .i2l, 1), (254, .invokestatic 267, 3), (257, .lstore_n 1, 1), (258, .iinc 3 1, 3), (261, .goto (-20), 3), (264, .aload_n 0, 1), (265, .getfield 16, 3), (268, .invokevirtual 52, 3), (271, .iconst 1, 1), (272, .isub, 1), (273, .istore_n 3, 1), (274, .iload_n 3, 1), (275, .ifCond .lt 29, 3), (278, .lload_n 1, 1), (279, .aload_n 0, 1), (280, .getfield 16, 3), (283, .iload_n 3, 1), (284, .invokevirtual 48, 3)]
theorem vq_cX6_digest_3 : vl_ok cX6_digest vl_cX6_digest_3 = true := by decide +kernel
theorem dX6_digest_211 : decode cX6_digest 211 = .ok (.if_icmp .ne 22, 3) := vl_at vq_cX6_digest_3 (i := 0) rfl
theorem dX6_digest_214 : decode cX6_digest 214 = .ok (.lload_n 1, 1) := vl_at vq_cX6_digest_3 (i := 1) rfl
theorem dX6_digest_215 : decode cX6_digest 215 = .ok (.aload_n 0, 1) := vl_at vq_cX6_digest_3 (i := 2) rfl
theorem dX6_digest_216 : decode cX6_digest 216 = .ok (.iload_n 3, 1) := vl_at vq_cX6_digest_3 (i := 3) rfl
theorem dX6_digest_217 : decode cX6_digest 217 = .ok (.iload 4, 2) := vl_at vq_cX6_digest_3 (i := 4) rfl
theorem dX6_digest_219 : decode cX6_digest 219 = .ok (.invokevirtual 197, 3) := vl_at vq_cX6_digest_3 (i := 5) rfl
theorem dX6_digest_222 : decode cX6_digest 222 = .ok (.i2l, 1) := vl_at vq_cX6_digest_3 (i := 6) rfl
theorem dX6_digest_223 : decode cX6_digest 223 = .ok (.invokestatic 267, 3) := vl_at vq_cX6_digest_3 (i := 7) rfl
theorem dX6_digest_226 : decode cX6_digest 226 = .ok (.lstore_n 1, 1) := vl_at vq_cX6_digest_3 (i := 8) rfl
theorem dX6_digest_227 : decode cX6_digest 227 = .ok (.iinc 4 1, 3) := vl_at vq_cX6_digest_3 (i := 9) rfl
theorem dX6_digest_230 : decode cX6_digest 230 = .ok (.goto (-35), 3) := vl_at vq_cX6_digest_3 (i := 10) rfl
theorem dX6_digest_233 : decode cX6_digest 233 = .ok (.iinc 3 1, 3) := vl_at vq_cX6_digest_3 (i := 11) rfl
theorem dX6_digest_236 : decode cX6_digest 236 = .ok (.goto (-61), 3) := vl_at vq_cX6_digest_3 (i := 12) rfl
theorem dX6_digest_239 : decode cX6_digest 239 = .ok (.iconst 0, 1) := vl_at vq_cX6_digest_3 (i := 13) rfl
theorem dX6_digest_240 : decode cX6_digest 240 = .ok (.istore_n 3, 1) := vl_at vq_cX6_digest_3 (i := 14) rfl
theorem dX6_digest_241 : decode cX6_digest 241 = .ok (.iload_n 3, 1) := vl_at vq_cX6_digest_3 (i := 15) rfl
theorem dX6_digest_242 : decode cX6_digest 242 = .ok (.bipush 8, 2) := vl_at vq_cX6_digest_3 (i := 16) rfl
theorem dX6_digest_244 : decode cX6_digest 244 = .ok (.if_icmp .ge 20, 3) := vl_at vq_cX6_digest_3 (i := 17) rfl
theorem dX6_digest_247 : decode cX6_digest 247 = .ok (.lload_n 1, 1) := vl_at vq_cX6_digest_3 (i := 18) rfl
theorem dX6_digest_248 : decode cX6_digest 248 = .ok (.aload_n 0, 1) := vl_at vq_cX6_digest_3 (i := 19) rfl
theorem dX6_digest_249 : decode cX6_digest 249 = .ok (.iload_n 3, 1) := vl_at vq_cX6_digest_3 (i := 20) rfl
theorem dX6_digest_250 : decode cX6_digest 250 = .ok (.invokevirtual 244, 3) := vl_at vq_cX6_digest_3 (i := 21) rfl
theorem dX6_digest_253 : decode cX6_digest 253 = .ok (.i2l, 1) := vl_at vq_cX6_digest_3 (i := 22) rfl
theorem dX6_digest_254 : decode cX6_digest 254 = .ok (.invokestatic 267, 3) := vl_at vq_cX6_digest_3 (i := 23) rfl
theorem dX6_digest_257 : decode cX6_digest 257 = .ok (.lstore_n 1, 1) := vl_at vq_cX6_digest_3 (i := 24) rfl
theorem dX6_digest_258 : decode cX6_digest 258 = .ok (.iinc 3 1, 3) := vl_at vq_cX6_digest_3 (i := 25) rfl
theorem dX6_digest_261 : decode cX6_digest 261 = .ok (.goto (-20), 3) := vl_at vq_cX6_digest_3 (i := 26) rfl
theorem dX6_digest_264 : decode cX6_digest 264 = .ok (.aload_n 0, 1) := vl_at vq_cX6_digest_3 (i := 27) rfl
theorem dX6_digest_265 : decode cX6_digest 265 = .ok (.getfield 16, 3) := vl_at vq_cX6_digest_3 (i := 28) rfl
theorem dX6_digest_268 : decode cX6_digest 268 = .ok (.invokevirtual 52, 3) := vl_at vq_cX6_digest_3 (i := 29) rfl
theorem dX6_digest_271 : decode cX6_digest 271 = .ok (.iconst 1, 1) := vl_at vq_cX6_digest_3 (i := 30) rfl
theorem dX6_digest_272 : decode cX6_digest 272 = .ok (.isub, 1) := vl_at vq_cX6_digest_3 (i := 31) rfl
theorem dX6_digest_273 : decode cX6_digest 273 = .ok (.istore_n 3, 1) := vl_at vq_cX6_digest_3 (i := 32) rfl
theorem dX6_digest_274 : decode cX6_digest 274 = .ok (.iload_n 3, 1) := vl_at vq_cX6_digest_3 (i := 33) rfl
theorem dX6_digest_275 : decode cX6_digest 275 = .ok (.ifCond .lt 29, 3) := vl_at vq_cX6_digest_3 (i := 34) rfl
theorem dX6_digest_278 : decode cX6_digest 278 = .ok (.lload_n 1, 1) := vl_at vq_cX6_digest_3 (i := 35) rfl
theorem dX6_digest_279 : decode cX6_digest 279 = .ok (.aload_n 0, 1) := vl_at vq_cX6_digest_3 (i := 36) rfl
theorem dX6_digest_280 : decode cX6_digest 280 = .ok (.getfield 16, 3) := vl_at vq_cX6_digest_3 (i := 37) rfl
theorem dX6_digest_283 : decode cX6_digest 283 = .ok (.iload_n 3, 1) := vl_at vq_cX6_digest_3 (i := 38) rfl
theorem dX6_digest_284 : decode cX6_digest 284 = .ok (.invokevirtual 48, 3) := vl_at vq_cX6_digest_3 (i := 39) rfl
noncomputable def vl_cX6_digest_4 : List (Nat × Instr × Nat) := [(287, .checkcast 56, 3), (290, .invokevirtual 58, 3), (293, .i2l, 1), (294, .invokestatic 267, 3), (297, .lstore_n 1, 1), (298, .iinc 3 (-1), 3), (301, .goto (-27), 3), (304, .aload_n 0, 1), (305, .getfield 19, 3), (308, .invokevirtual 247, 3), (311, .astore_n 3, 1), (312, .aload_n 3, 1), (313, .invokeinterface 251 1, 5), (318, .ifCond .eq 28, 3), (321, .aload_n 3, 1), (322, .invokeinterface 254 1, 5), (327, .checkcast 56, 3), (330, .invokevirtual 58, 3), (333, .istore 4, 2), (335, .lload_n 1, 1), (336, .iload 4, 2), (338, .i2l, 1), (339, .invokestatic 267, 3), (342, .lstore_n 1, 1), (343, .goto (-31), 3), (346, .lload_n 1, 1), (347, .aload_n 0, 1), (348, .iconst 0, 1), (349, .invokevirtual 209, 3), (352, .invokestatic 87, 3), (355, .i2l, 1), (356, .invokestatic 267, 3), (359, .aload_n 0, 1), (360, .iconst 1, 1), (361, .invokevirtual 209, 3), (364, .invokestatic 87, 3), (367, .i2l, 1), (368, .invokestatic 267, 3), (371, .aload_n 0, 1), (372, .invokevirtual 260, 3)]
theorem vq_cX6_digest_4 : vl_ok cX6_digest vl_cX6_digest_4 = true := by decide +kernel
theorem dX6_digest_287 : decode cX6_digest 287 = .ok (.checkcast 56, 3) := vl_at vq_cX6_digest_4 (i := 0) rfl
theorem dX6_digest_290 : decode cX6_digest 290 = .ok (.invokevirtual 58, 3) := vl_at vq_cX6_digest_4 (i := 1) rfl
theorem dX6_digest_293 : decode cX6_digest 293 = .ok (.i2l, 1) := vl_at vq_cX6_digest_4 (i := 2) rfl
theorem dX6_digest_294 : decode cX6_digest 294 = .ok (.invokestatic 267, 3) := vl_at vq_cX6_digest_4 (i := 3) rfl
theorem dX6_digest_297 : decode cX6_digest 297 = .ok (.lstore_n 1, 1) := vl_at vq_cX6_digest_4 (i := 4) rfl
theorem dX6_digest_298 : decode cX6_digest 298 = .ok (.iinc 3 (-1), 3) := vl_at vq_cX6_digest_4 (i := 5) rfl
theorem dX6_digest_301 : decode cX6_digest 301 = .ok (.goto (-27), 3) := vl_at vq_cX6_digest_4 (i := 6) rfl
theorem dX6_digest_304 : decode cX6_digest 304 = .ok (.aload_n 0, 1) := vl_at vq_cX6_digest_4 (i := 7) rfl
theorem dX6_digest_305 : decode cX6_digest 305 = .ok (.getfield 19, 3) := vl_at vq_cX6_digest_4 (i := 8) rfl
theorem dX6_digest_308 : decode cX6_digest 308 = .ok (.invokevirtual 247, 3) := vl_at vq_cX6_digest_4 (i := 9) rfl
theorem dX6_digest_311 : decode cX6_digest 311 = .ok (.astore_n 3, 1) := vl_at vq_cX6_digest_4 (i := 10) rfl
theorem dX6_digest_312 : decode cX6_digest 312 = .ok (.aload_n 3, 1) := vl_at vq_cX6_digest_4 (i := 11) rfl
theorem dX6_digest_313 : decode cX6_digest 313 = .ok (.invokeinterface 251 1, 5) := vl_at vq_cX6_digest_4 (i := 12) rfl
theorem dX6_digest_318 : decode cX6_digest 318 = .ok (.ifCond .eq 28, 3) := vl_at vq_cX6_digest_4 (i := 13) rfl
theorem dX6_digest_321 : decode cX6_digest 321 = .ok (.aload_n 3, 1) := vl_at vq_cX6_digest_4 (i := 14) rfl
theorem dX6_digest_322 : decode cX6_digest 322 = .ok (.invokeinterface 254 1, 5) := vl_at vq_cX6_digest_4 (i := 15) rfl
theorem dX6_digest_327 : decode cX6_digest 327 = .ok (.checkcast 56, 3) := vl_at vq_cX6_digest_4 (i := 16) rfl
theorem dX6_digest_330 : decode cX6_digest 330 = .ok (.invokevirtual 58, 3) := vl_at vq_cX6_digest_4 (i := 17) rfl
theorem dX6_digest_333 : decode cX6_digest 333 = .ok (.istore 4, 2) := vl_at vq_cX6_digest_4 (i := 18) rfl
theorem dX6_digest_335 : decode cX6_digest 335 = .ok (.lload_n 1, 1) := vl_at vq_cX6_digest_4 (i := 19) rfl
theorem dX6_digest_336 : decode cX6_digest 336 = .ok (.iload 4, 2) := vl_at vq_cX6_digest_4 (i := 20) rfl
theorem dX6_digest_338 : decode cX6_digest 338 = .ok (.i2l, 1) := vl_at vq_cX6_digest_4 (i := 21) rfl
theorem dX6_digest_339 : decode cX6_digest 339 = .ok (.invokestatic 267, 3) := vl_at vq_cX6_digest_4 (i := 22) rfl
theorem dX6_digest_342 : decode cX6_digest 342 = .ok (.lstore_n 1, 1) := vl_at vq_cX6_digest_4 (i := 23) rfl
theorem dX6_digest_343 : decode cX6_digest 343 = .ok (.goto (-31), 3) := vl_at vq_cX6_digest_4 (i := 24) rfl
theorem dX6_digest_346 : decode cX6_digest 346 = .ok (.lload_n 1, 1) := vl_at vq_cX6_digest_4 (i := 25) rfl
theorem dX6_digest_347 : decode cX6_digest 347 = .ok (.aload_n 0, 1) := vl_at vq_cX6_digest_4 (i := 26) rfl
theorem dX6_digest_348 : decode cX6_digest 348 = .ok (.iconst 0, 1) := vl_at vq_cX6_digest_4 (i := 27) rfl
theorem dX6_digest_349 : decode cX6_digest 349 = .ok (.invokevirtual 209, 3) := vl_at vq_cX6_digest_4 (i := 28) rfl
theorem dX6_digest_352 : decode cX6_digest 352 = .ok (.invokestatic 87, 3) := vl_at vq_cX6_digest_4 (i := 29) rfl
theorem dX6_digest_355 : decode cX6_digest 355 = .ok (.i2l, 1) := vl_at vq_cX6_digest_4 (i := 30) rfl
theorem dX6_digest_356 : decode cX6_digest 356 = .ok (.invokestatic 267, 3) := vl_at vq_cX6_digest_4 (i := 31) rfl
theorem dX6_digest_359 : decode cX6_digest 359 = .ok (.aload_n 0, 1) := vl_at vq_cX6_digest_4 (i := 32) rfl
theorem dX6_digest_360 : decode cX6_digest 360 = .ok (.iconst 1, 1) := vl_at vq_cX6_digest_4 (i := 33) rfl
theorem dX6_digest_361 : decode cX6_digest 361 = .ok (.invokevirtual 209, 3) := vl_at vq_cX6_digest_4 (i := 34) rfl
theorem dX6_digest_364 : decode cX6_digest 364 = .ok (.invokestatic 87, 3) := vl_at vq_cX6_digest_4 (i := 35) rfl
theorem dX6_digest_367 : decode cX6_digest 367 = .ok (.i2l, 1) := vl_at vq_cX6_digest_4 (i := 36) rfl
theorem dX6_digest_368 : decode cX6_digest 368 = .ok (.invokestatic 267, 3) := vl_at vq_cX6_digest_4 (i := 37) rfl
theorem dX6_digest_371 : decode cX6_digest 371 = .ok (.aload_n 0, 1) := vl_at vq_cX6_digest_4 (i := 38) rfl
theorem dX6_digest_372 : decode cX6_digest 372 = .ok (.invokevirtual 260, 3) := vl_at vq_cX6_digest_4 (i := 39) rfl
noncomputable def vl_cX6_digest_5 : List (Nat × Instr × Nat) := [(375, .invokestatic 87, 3), (378, .i2l, 1), (379, .invokestatic 267, 3), (382, .lreturn, 1)]
theorem vq_cX6_digest_5 : vl_ok cX6_digest vl_cX6_digest_5 = true := by decide +kernel
theorem dX6_digest_375 : decode cX6_digest 375 = .ok (.invokestatic 87, 3) := vl_at vq_cX6_digest_5 (i := 0) rfl
theorem dX6_digest_378 : decode cX6_digest 378 = .ok (.i2l, 1) := vl_at vq_cX6_digest_5 (i := 1) rfl
theorem dX6_digest_379 : decode cX6_digest 379 = .ok (.invokestatic 267, 3) := vl_at vq_cX6_digest_5 (i := 2) rfl
theorem dX6_digest_382 : decode cX6_digest 382 = .ok (.lreturn, 1) := vl_at vq_cX6_digest_5 (i := 3) rfl
