theorem dL_join_0 : decode cL_join 0 = .ok (.aload 5, 2) := by decide +kernel
theorem dL_join_2 : decode cL_join 2 = .ok (.aload_n 0, 1) := by decide +kernel
theorem dL_join_3 : decode cL_join 3 = .ok (.iload_n 1, 1) := by decide +kernel
theorem dL_join_4 : decode cL_join 4 = .ok (.iload_n 2, 1) := by decide +kernel
theorem dL_join_5 : decode cL_join 5 = .ok (.iload_n 3, 1) := by decide +kernel
theorem dL_join_6 : decode cL_join 6 = .ok (.iload 4, 2) := by decide +kernel
theorem dL_join_8 : decode cL_join 8 = .ok (.invokevirtual 7, 3) := by decide +kernel
theorem dL_join_11 : decode cL_join 11 = .ok (.i2l, 1) := by decide +kernel
theorem dL_join_12 : decode cL_join 12 = .ok (.putfield 13, 3) := by decide +kernel
theorem dL_join_15 : decode cL_join 15 = .ok (.goto 15, 3) := by decide +kernel
theorem dL_join_18 : decode cL_join 18 = .ok (.astore 6, 2) := by decide +kernel
theorem dL_join_20 : decode cL_join 20 = .ok (.iconst 1, 1) := by decide +kernel
theorem dL_join_21 : decode cL_join 21 = .ok (.ireturn, 1) := by decide +kernel
theorem dL_join_22 : decode cL_join 22 = .ok (.astore 6, 2) := by decide +kernel
theorem dL_join_24 : decode cL_join 24 = .ok (.iconst 2, 1) := by decide +kernel
theorem dL_join_25 : decode cL_join 25 = .ok (.ireturn, 1) := by decide +kernel
theorem dL_join_26 : decode cL_join 26 = .ok (.astore 6, 2) := by decide +kernel
theorem dL_join_28 : decode cL_join 28 = .ok (.iconst 3, 1) := by decide +kernel
theorem dL_join_29 : decode cL_join 29 = .ok (.ireturn, 1) := by decide +kernel
theorem dL_join_30 : decode cL_join 30 = .ok (.iconst 0, 1) := by decide +kernel
theorem dL_join_31 : decode cL_join 31 = .ok (.ireturn, 1) := by decide +kernel
theorem dL_offer_0 : decode cL_offer 0 = .ok (.aload 5, 2) := by decide +kernel
theorem dL_offer_2 : decode cL_offer 2 = .ok (.aload_n 0, 1) := by decide +kernel
theorem dL_offer_3 : decode cL_offer 3 = .ok (.iload_n 1, 1) := by decide +kernel
theorem dL_offer_4 : decode cL_offer 4 = .ok (.iload_n 2, 1) := by decide +kernel
theorem dL_offer_5 : decode cL_offer 5 = .ok (.iload_n 3, 1) := by decide +kernel
theorem dL_offer_6 : decode cL_offer 6 = .ok (.iload 4, 2) := by decide +kernel
theorem dL_offer_8 : decode cL_offer 8 = .ok (.invokevirtual 25, 3) := by decide +kernel
theorem dL_offer_11 : decode cL_offer 11 = .ok (.ifCond .eq 7, 3) := by decide +kernel
theorem dL_offer_14 : decode cL_offer 14 = .ok (.lconst 1, 1) := by decide +kernel
theorem dL_offer_15 : decode cL_offer 15 = .ok (.goto 4, 3) := by decide +kernel
theorem dL_offer_18 : decode cL_offer 18 = .ok (.lconst 0, 1) := by decide +kernel
theorem dL_offer_19 : decode cL_offer 19 = .ok (.putfield 13, 3) := by decide +kernel
theorem dL_offer_22 : decode cL_offer 22 = .ok (.goto 15, 3) := by decide +kernel
theorem dL_offer_25 : decode cL_offer 25 = .ok (.astore 6, 2) := by decide +kernel
theorem dL_offer_27 : decode cL_offer 27 = .ok (.iconst 1, 1) := by decide +kernel
theorem dL_offer_28 : decode cL_offer 28 = .ok (.ireturn, 1) := by decide +kernel
theorem dL_offer_29 : decode cL_offer 29 = .ok (.astore 6, 2) := by decide +kernel
theorem dL_offer_31 : decode cL_offer 31 = .ok (.iconst 2, 1) := by decide +kernel
theorem dL_offer_32 : decode cL_offer 32 = .ok (.ireturn, 1) := by decide +kernel
theorem dL_offer_33 : decode cL_offer 33 = .ok (.astore 6, 2) := by decide +kernel
theorem dL_offer_35 : decode cL_offer 35 = .ok (.iconst 3, 1) := by decide +kernel
theorem dL_offer_36 : decode cL_offer 36 = .ok (.ireturn, 1) := by decide +kernel
theorem dL_offer_37 : decode cL_offer 37 = .ok (.iconst 0, 1) := by decide +kernel
theorem dL_offer_38 : decode cL_offer 38 = .ok (.ireturn, 1) := by decide +kernel
theorem dL_push_0 : decode cL_push 0 = .ok (.aload 4, 2) := by decide +kernel
theorem dL_push_2 : decode cL_push 2 = .ok (.aload_n 0, 1) := by decide +kernel
theorem dL_push_3 : decode cL_push 3 = .ok (.iload_n 1, 1) := by decide +kernel
theorem dL_push_4 : decode cL_push 4 = .ok (.iload_n 2, 1) := by decide +kernel
theorem dL_push_5 : decode cL_push 5 = .ok (.iload_n 3, 1) := by decide +kernel
theorem dL_push_6 : decode cL_push 6 = .ok (.invokevirtual 29, 3) := by decide +kernel
theorem dL_push_9 : decode cL_push 9 = .ok (.i2l, 1) := by decide +kernel
theorem dL_push_10 : decode cL_push 10 = .ok (.putfield 13, 3) := by decide +kernel
theorem dL_push_13 : decode cL_push 13 = .ok (.goto 15, 3) := by decide +kernel
theorem dL_push_16 : decode cL_push 16 = .ok (.astore 5, 2) := by decide +kernel
theorem dL_push_18 : decode cL_push 18 = .ok (.iconst 1, 1) := by decide +kernel
theorem dL_push_19 : decode cL_push 19 = .ok (.ireturn, 1) := by decide +kernel
theorem dL_push_20 : decode cL_push 20 = .ok (.astore 5, 2) := by decide +kernel
theorem dL_push_22 : decode cL_push 22 = .ok (.iconst 2, 1) := by decide +kernel
theorem dL_push_23 : decode cL_push 23 = .ok (.ireturn, 1) := by decide +kernel
theorem dL_push_24 : decode cL_push 24 = .ok (.astore 5, 2) := by decide +kernel
theorem dL_push_26 : decode cL_push 26 = .ok (.iconst 3, 1) := by decide +kernel
theorem dL_push_27 : decode cL_push 27 = .ok (.ireturn, 1) := by decide +kernel
theorem dL_push_28 : decode cL_push 28 = .ok (.iconst 0, 1) := by decide +kernel
theorem dL_push_29 : decode cL_push 29 = .ok (.ireturn, 1) := by decide +kernel
theorem dL_append_0 : decode cL_append 0 = .ok (.aload 4, 2) := by decide +kernel
theorem dL_append_2 : decode cL_append 2 = .ok (.aload_n 0, 1) := by decide +kernel
theorem dL_append_3 : decode cL_append 3 = .ok (.iload_n 1, 1) := by decide +kernel
theorem dL_append_4 : decode cL_append 4 = .ok (.iload_n 2, 1) := by decide +kernel
theorem dL_append_5 : decode cL_append 5 = .ok (.iload_n 3, 1) := by decide +kernel
theorem dL_append_6 : decode cL_append 6 = .ok (.invokevirtual 33, 3) := by decide +kernel
theorem dL_append_9 : decode cL_append 9 = .ok (.i2l, 1) := by decide +kernel
theorem dL_append_10 : decode cL_append 10 = .ok (.putfield 13, 3) := by decide +kernel
theorem dL_append_13 : decode cL_append 13 = .ok (.goto 15, 3) := by decide +kernel
theorem dL_append_16 : decode cL_append 16 = .ok (.astore 5, 2) := by decide +kernel
theorem dL_append_18 : decode cL_append 18 = .ok (.iconst 1, 1) := by decide +kernel
theorem dL_append_19 : decode cL_append 19 = .ok (.ireturn, 1) := by decide +kernel
theorem dL_append_20 : decode cL_append 20 = .ok (.astore 5, 2) := by decide +kernel
theorem dL_append_22 : decode cL_append 22 = .ok (.iconst 2, 1) := by decide +kernel
theorem dL_append_23 : decode cL_append 23 = .ok (.ireturn, 1) := by decide +kernel
theorem dL_append_24 : decode cL_append 24 = .ok (.astore 5, 2) := by decide +kernel
theorem dL_append_26 : decode cL_append 26 = .ok (.iconst 3, 1) := by decide +kernel
theorem dL_append_27 : decode cL_append 27 = .ok (.ireturn, 1) := by decide +kernel
theorem dL_append_28 : decode cL_append 28 = .ok (.iconst 0, 1) := by decide +kernel
theorem dL_append_29 : decode cL_append 29 = .ok (.ireturn, 1) := by decide +kernel
theorem dL_train_0 : decode cL_train 0 = .ok (.aload 5, 2) := by decide +kernel
theorem dL_train_2 : decode cL_train 2 = .ok (.aload_n 0, 1) := by decide +kernel
theorem dL_train_3 : decode cL_train 3 = .ok (.iload_n 1, 1) := by decide +kernel
theorem dL_train_4 : decode cL_train 4 = .ok (.iload_n 2, 1) := by decide +kernel
theorem dL_train_5 : decode cL_train 5 = .ok (.iload_n 3, 1) := by decide +kernel
theorem dL_train_6 : decode cL_train 6 = .ok (.iload 4, 2) := by decide +kernel
theorem dL_train_8 : decode cL_train 8 = .ok (.invokevirtual 36, 3) := by decide +kernel
theorem dL_train_11 : decode cL_train 11 = .ok (.i2l, 1) := by decide +kernel
theorem dL_train_12 : decode cL_train 12 = .ok (.putfield 13, 3) := by decide +kernel
theorem dL_train_15 : decode cL_train 15 = .ok (.goto 15, 3) := by decide +kernel
theorem dL_train_18 : decode cL_train 18 = .ok (.astore 6, 2) := by decide +kernel
theorem dL_train_20 : decode cL_train 20 = .ok (.iconst 1, 1) := by decide +kernel
theorem dL_train_21 : decode cL_train 21 = .ok (.ireturn, 1) := by decide +kernel
theorem dL_train_22 : decode cL_train 22 = .ok (.astore 6, 2) := by decide +kernel
theorem dL_train_24 : decode cL_train 24 = .ok (.iconst 2, 1) := by decide +kernel
theorem dL_train_25 : decode cL_train 25 = .ok (.ireturn, 1) := by decide +kernel
theorem dL_train_26 : decode cL_train 26 = .ok (.astore 6, 2) := by decide +kernel
theorem dL_train_28 : decode cL_train 28 = .ok (.iconst 3, 1) := by decide +kernel
theorem dL_train_29 : decode cL_train 29 = .ok (.ireturn, 1) := by decide +kernel
theorem dL_train_30 : decode cL_train 30 = .ok (.iconst 0, 1) := by decide +kernel
theorem dL_train_31 : decode cL_train 31 = .ok (.ireturn, 1) := by decide +kernel
theorem dL_take_0 : decode cL_take 0 = .ok (.aload_n 3, 1) := by decide +kernel
theorem dL_take_1 : decode cL_take 1 = .ok (.aload_n 0, 1) := by decide +kernel
theorem dL_take_2 : decode cL_take 2 = .ok (.iload_n 1, 1) := by decide +kernel
theorem dL_take_3 : decode cL_take 3 = .ok (.iload_n 2, 1) := by decide +kernel
theorem dL_take_4 : decode cL_take 4 = .ok (.invokevirtual 40, 3) := by decide +kernel
theorem dL_take_7 : decode cL_take 7 = .ok (.i2l, 1) := by decide +kernel
theorem dL_take_8 : decode cL_take 8 = .ok (.putfield 13, 3) := by decide +kernel
theorem dL_take_11 : decode cL_take 11 = .ok (.goto 7, 3) := by decide +kernel
theorem dL_take_14 : decode cL_take 14 = .ok (.astore 4, 2) := by decide +kernel
theorem dL_take_16 : decode cL_take 16 = .ok (.iconst 1, 1) := by decide +kernel
theorem dL_take_17 : decode cL_take 17 = .ok (.ireturn, 1) := by decide +kernel
theorem dL_take_18 : decode cL_take 18 = .ok (.iconst 0, 1) := by decide +kernel
theorem dL_take_19 : decode cL_take 19 = .ok (.ireturn, 1) := by decide +kernel
theorem dL_poll_0 : decode cL_poll 0 = .ok (.aload_n 3, 1) := by decide +kernel
theorem dL_poll_1 : decode cL_poll 1 = .ok (.aload_n 0, 1) := by decide +kernel
theorem dL_poll_2 : decode cL_poll 2 = .ok (.iload_n 1, 1) := by decide +kernel
theorem dL_poll_3 : decode cL_poll 3 = .ok (.iload_n 2, 1) := by decide +kernel
theorem dL_poll_4 : decode cL_poll 4 = .ok (.invokevirtual 44, 3) := by decide +kernel
theorem dL_poll_7 : decode cL_poll 7 = .ok (.i2l, 1) := by decide +kernel
theorem dL_poll_8 : decode cL_poll 8 = .ok (.putfield 13, 3) := by decide +kernel
theorem dL_poll_11 : decode cL_poll 11 = .ok (.goto 7, 3) := by decide +kernel
theorem dL_poll_14 : decode cL_poll 14 = .ok (.astore 4, 2) := by decide +kernel
theorem dL_poll_16 : decode cL_poll 16 = .ok (.iconst 1, 1) := by decide +kernel
theorem dL_poll_17 : decode cL_poll 17 = .ok (.ireturn, 1) := by decide +kernel
theorem dL_poll_18 : decode cL_poll 18 = .ok (.iconst 0, 1) := by decide +kernel
theorem dL_poll_19 : decode cL_poll 19 = .ok (.ireturn, 1) := by decide +kernel
theorem dL_pop_0 : decode cL_pop 0 = .ok (.aload_n 2, 1) := by decide +kernel
theorem dL_pop_1 : decode cL_pop 1 = .ok (.aload_n 0, 1) := by decide +kernel
theorem dL_pop_2 : decode cL_pop 2 = .ok (.iload_n 1, 1) := by decide +kernel
theorem dL_pop_3 : decode cL_pop 3 = .ok (.invokevirtual 47, 3) := by decide +kernel
theorem dL_pop_6 : decode cL_pop 6 = .ok (.i2l, 1) := by decide +kernel
theorem dL_pop_7 : decode cL_pop 7 = .ok (.putfield 13, 3) := by decide +kernel
theorem dL_pop_10 : decode cL_pop 10 = .ok (.goto 6, 3) := by decide +kernel
theorem dL_pop_13 : decode cL_pop 13 = .ok (.astore_n 3, 1) := by decide +kernel
theorem dL_pop_14 : decode cL_pop 14 = .ok (.iconst 1, 1) := by decide +kernel
theorem dL_pop_15 : decode cL_pop 15 = .ok (.ireturn, 1) := by decide +kernel
theorem dL_pop_16 : decode cL_pop 16 = .ok (.iconst 0, 1) := by decide +kernel
theorem dL_pop_17 : decode cL_pop 17 = .ok (.ireturn, 1) := by decide +kernel
theorem dL_serve_0 : decode cL_serve 0 = .ok (.aload_n 3, 1) := by decide +kernel
theorem dL_serve_1 : decode cL_serve 1 = .ok (.aload_n 0, 1) := by decide +kernel
theorem dL_serve_2 : decode cL_serve 2 = .ok (.iload_n 1, 1) := by decide +kernel
theorem dL_serve_3 : decode cL_serve 3 = .ok (.iload_n 2, 1) := by decide +kernel
theorem dL_serve_4 : decode cL_serve 4 = .ok (.invokevirtual 51, 3) := by decide +kernel
theorem dL_serve_7 : decode cL_serve 7 = .ok (.i2l, 1) := by decide +kernel
theorem dL_serve_8 : decode cL_serve 8 = .ok (.putfield 13, 3) := by decide +kernel
theorem dL_serve_11 : decode cL_serve 11 = .ok (.goto 7, 3) := by decide +kernel
theorem dL_serve_14 : decode cL_serve 14 = .ok (.astore 4, 2) := by decide +kernel
theorem dL_serve_16 : decode cL_serve 16 = .ok (.iconst 1, 1) := by decide +kernel
theorem dL_serve_17 : decode cL_serve 17 = .ok (.ireturn, 1) := by decide +kernel
theorem dL_serve_18 : decode cL_serve 18 = .ok (.iconst 0, 1) := by decide +kernel
theorem dL_serve_19 : decode cL_serve 19 = .ok (.ireturn, 1) := by decide +kernel
theorem dL_rotate_0 : decode cL_rotate 0 = .ok (.aload_n 3, 1) := by decide +kernel
theorem dL_rotate_1 : decode cL_rotate 1 = .ok (.aload_n 0, 1) := by decide +kernel
theorem dL_rotate_2 : decode cL_rotate 2 = .ok (.iload_n 1, 1) := by decide +kernel
theorem dL_rotate_3 : decode cL_rotate 3 = .ok (.iload_n 2, 1) := by decide +kernel
theorem dL_rotate_4 : decode cL_rotate 4 = .ok (.invokevirtual 54, 3) := by decide +kernel
theorem dL_rotate_7 : decode cL_rotate 7 = .ok (.i2l, 1) := by decide +kernel
theorem dL_rotate_8 : decode cL_rotate 8 = .ok (.putfield 13, 3) := by decide +kernel
theorem dL_rotate_11 : decode cL_rotate 11 = .ok (.goto 11, 3) := by decide +kernel
theorem dL_rotate_14 : decode cL_rotate 14 = .ok (.astore 4, 2) := by decide +kernel
theorem dL_rotate_16 : decode cL_rotate 16 = .ok (.iconst 1, 1) := by decide +kernel
theorem dL_rotate_17 : decode cL_rotate 17 = .ok (.ireturn, 1) := by decide +kernel
theorem dL_rotate_18 : decode cL_rotate 18 = .ok (.astore 4, 2) := by decide +kernel
theorem dL_rotate_20 : decode cL_rotate 20 = .ok (.iconst 2, 1) := by decide +kernel
theorem dL_rotate_21 : decode cL_rotate 21 = .ok (.ireturn, 1) := by decide +kernel
theorem dL_rotate_22 : decode cL_rotate 22 = .ok (.iconst 0, 1) := by decide +kernel
theorem dL_rotate_23 : decode cL_rotate 23 = .ok (.ireturn, 1) := by decide +kernel
theorem dL_drop_0 : decode cL_drop 0 = .ok (.aload 4, 2) := by decide +kernel
theorem dL_drop_2 : decode cL_drop 2 = .ok (.aload_n 0, 1) := by decide +kernel
theorem dL_drop_3 : decode cL_drop 3 = .ok (.iload_n 1, 1) := by decide +kernel
theorem dL_drop_4 : decode cL_drop 4 = .ok (.iload_n 2, 1) := by decide +kernel
theorem dL_drop_5 : decode cL_drop 5 = .ok (.iload_n 3, 1) := by decide +kernel
theorem dL_drop_6 : decode cL_drop 6 = .ok (.invokevirtual 58, 3) := by decide +kernel
theorem dL_drop_9 : decode cL_drop 9 = .ok (.ifCond .eq 7, 3) := by decide +kernel
theorem dL_drop_12 : decode cL_drop 12 = .ok (.lconst 1, 1) := by decide +kernel
theorem dL_drop_13 : decode cL_drop 13 = .ok (.goto 4, 3) := by decide +kernel
theorem dL_drop_16 : decode cL_drop 16 = .ok (.lconst 0, 1) := by decide +kernel
theorem dL_drop_17 : decode cL_drop 17 = .ok (.putfield 13, 3) := by decide +kernel
theorem dL_drop_20 : decode cL_drop 20 = .ok (.goto 11, 3) := by decide +kernel
theorem dL_drop_23 : decode cL_drop 23 = .ok (.astore 5, 2) := by decide +kernel
theorem dL_drop_25 : decode cL_drop 25 = .ok (.iconst 1, 1) := by decide +kernel
theorem dL_drop_26 : decode cL_drop 26 = .ok (.ireturn, 1) := by decide +kernel
theorem dL_drop_27 : decode cL_drop 27 = .ok (.astore 5, 2) := by decide +kernel
theorem dL_drop_29 : decode cL_drop 29 = .ok (.iconst 2, 1) := by decide +kernel
theorem dL_drop_30 : decode cL_drop 30 = .ok (.ireturn, 1) := by decide +kernel
theorem dL_drop_31 : decode cL_drop 31 = .ok (.iconst 0, 1) := by decide +kernel
theorem dL_drop_32 : decode cL_drop 32 = .ok (.ireturn, 1) := by decide +kernel
theorem dL_dropAll_0 : decode cL_dropAll 0 = .ok (.aload_n 3, 1) := by decide +kernel
theorem dL_dropAll_1 : decode cL_dropAll 1 = .ok (.aload_n 0, 1) := by decide +kernel
theorem dL_dropAll_2 : decode cL_dropAll 2 = .ok (.iload_n 1, 1) := by decide +kernel
theorem dL_dropAll_3 : decode cL_dropAll 3 = .ok (.iload_n 2, 1) := by decide +kernel
theorem dL_dropAll_4 : decode cL_dropAll 4 = .ok (.invokevirtual 62, 3) := by decide +kernel
theorem dL_dropAll_7 : decode cL_dropAll 7 = .ok (.i2l, 1) := by decide +kernel
theorem dL_dropAll_8 : decode cL_dropAll 8 = .ok (.putfield 13, 3) := by decide +kernel
theorem dL_dropAll_11 : decode cL_dropAll 11 = .ok (.goto 11, 3) := by decide +kernel
theorem dL_dropAll_14 : decode cL_dropAll 14 = .ok (.astore 4, 2) := by decide +kernel
theorem dL_dropAll_16 : decode cL_dropAll 16 = .ok (.iconst 1, 1) := by decide +kernel
theorem dL_dropAll_17 : decode cL_dropAll 17 = .ok (.ireturn, 1) := by decide +kernel
theorem dL_dropAll_18 : decode cL_dropAll 18 = .ok (.astore 4, 2) := by decide +kernel
theorem dL_dropAll_20 : decode cL_dropAll 20 = .ok (.iconst 2, 1) := by decide +kernel
theorem dL_dropAll_21 : decode cL_dropAll 21 = .ok (.ireturn, 1) := by decide +kernel
theorem dL_dropAll_22 : decode cL_dropAll 22 = .ok (.iconst 0, 1) := by decide +kernel
theorem dL_dropAll_23 : decode cL_dropAll 23 = .ok (.ireturn, 1) := by decide +kernel
theorem dL_shed_0 : decode cL_shed 0 = .ok (.aload 5, 2) := by decide +kernel
theorem dL_shed_2 : decode cL_shed 2 = .ok (.aload_n 0, 1) := by decide +kernel
theorem dL_shed_3 : decode cL_shed 3 = .ok (.iload_n 1, 1) := by decide +kernel
theorem dL_shed_4 : decode cL_shed 4 = .ok (.iload_n 2, 1) := by decide +kernel
theorem dL_shed_5 : decode cL_shed 5 = .ok (.iload_n 3, 1) := by decide +kernel
theorem dL_shed_6 : decode cL_shed 6 = .ok (.iload 4, 2) := by decide +kernel
theorem dL_shed_8 : decode cL_shed 8 = .ok (.invokevirtual 65, 3) := by decide +kernel
theorem dL_shed_11 : decode cL_shed 11 = .ok (.i2l, 1) := by decide +kernel
theorem dL_shed_12 : decode cL_shed 12 = .ok (.putfield 13, 3) := by decide +kernel
theorem dL_shed_15 : decode cL_shed 15 = .ok (.goto 11, 3) := by decide +kernel
theorem dL_shed_18 : decode cL_shed 18 = .ok (.astore 6, 2) := by decide +kernel
theorem dL_shed_20 : decode cL_shed 20 = .ok (.iconst 1, 1) := by decide +kernel
theorem dL_shed_21 : decode cL_shed 21 = .ok (.ireturn, 1) := by decide +kernel
theorem dL_shed_22 : decode cL_shed 22 = .ok (.astore 6, 2) := by decide +kernel
theorem dL_shed_24 : decode cL_shed 24 = .ok (.iconst 2, 1) := by decide +kernel
theorem dL_shed_25 : decode cL_shed 25 = .ok (.ireturn, 1) := by decide +kernel
theorem dL_shed_26 : decode cL_shed 26 = .ok (.iconst 0, 1) := by decide +kernel
theorem dL_shed_27 : decode cL_shed 27 = .ok (.ireturn, 1) := by decide +kernel
theorem dL_thin_0 : decode cL_thin 0 = .ok (.aload 4, 2) := by decide +kernel
theorem dL_thin_2 : decode cL_thin 2 = .ok (.aload_n 0, 1) := by decide +kernel
theorem dL_thin_3 : decode cL_thin 3 = .ok (.iload_n 1, 1) := by decide +kernel
theorem dL_thin_4 : decode cL_thin 4 = .ok (.iload_n 2, 1) := by decide +kernel
theorem dL_thin_5 : decode cL_thin 5 = .ok (.iload_n 3, 1) := by decide +kernel
theorem dL_thin_6 : decode cL_thin 6 = .ok (.invokevirtual 68, 3) := by decide +kernel
theorem dL_thin_9 : decode cL_thin 9 = .ok (.i2l, 1) := by decide +kernel
theorem dL_thin_10 : decode cL_thin 10 = .ok (.putfield 13, 3) := by decide +kernel
theorem dL_thin_13 : decode cL_thin 13 = .ok (.goto 11, 3) := by decide +kernel
theorem dL_thin_16 : decode cL_thin 16 = .ok (.astore 5, 2) := by decide +kernel
theorem dL_thin_18 : decode cL_thin 18 = .ok (.iconst 1, 1) := by decide +kernel
theorem dL_thin_19 : decode cL_thin 19 = .ok (.ireturn, 1) := by decide +kernel
theorem dL_thin_20 : decode cL_thin 20 = .ok (.astore 5, 2) := by decide +kernel
theorem dL_thin_22 : decode cL_thin 22 = .ok (.iconst 2, 1) := by decide +kernel
theorem dL_thin_23 : decode cL_thin 23 = .ok (.ireturn, 1) := by decide +kernel
theorem dL_thin_24 : decode cL_thin 24 = .ok (.iconst 0, 1) := by decide +kernel
theorem dL_thin_25 : decode cL_thin 25 = .ok (.ireturn, 1) := by decide +kernel
theorem dL_turn_0 : decode cL_turn 0 = .ok (.aload_n 2, 1) := by decide +kernel
theorem dL_turn_1 : decode cL_turn 1 = .ok (.aload_n 0, 1) := by decide +kernel
theorem dL_turn_2 : decode cL_turn 2 = .ok (.iload_n 1, 1) := by decide +kernel
theorem dL_turn_3 : decode cL_turn 3 = .ok (.invokevirtual 72, 3) := by decide +kernel
theorem dL_turn_6 : decode cL_turn 6 = .ok (.i2l, 1) := by decide +kernel
theorem dL_turn_7 : decode cL_turn 7 = .ok (.putfield 13, 3) := by decide +kernel
theorem dL_turn_10 : decode cL_turn 10 = .ok (.goto 6, 3) := by decide +kernel
theorem dL_turn_13 : decode cL_turn 13 = .ok (.astore_n 3, 1) := by decide +kernel
theorem dL_turn_14 : decode cL_turn 14 = .ok (.iconst 1, 1) := by decide +kernel
theorem dL_turn_15 : decode cL_turn 15 = .ok (.ireturn, 1) := by decide +kernel
theorem dL_turn_16 : decode cL_turn 16 = .ok (.iconst 0, 1) := by decide +kernel
theorem dL_turn_17 : decode cL_turn 17 = .ok (.ireturn, 1) := by decide +kernel
theorem dL_clear_0 : decode cL_clear 0 = .ok (.aload_n 2, 1) := by decide +kernel
theorem dL_clear_1 : decode cL_clear 1 = .ok (.aload_n 0, 1) := by decide +kernel
theorem dL_clear_2 : decode cL_clear 2 = .ok (.iload_n 1, 1) := by decide +kernel
theorem dL_clear_3 : decode cL_clear 3 = .ok (.invokevirtual 75, 3) := by decide +kernel
theorem dL_clear_6 : decode cL_clear 6 = .ok (.i2l, 1) := by decide +kernel
theorem dL_clear_7 : decode cL_clear 7 = .ok (.putfield 13, 3) := by decide +kernel
theorem dL_clear_10 : decode cL_clear 10 = .ok (.goto 6, 3) := by decide +kernel
theorem dL_clear_13 : decode cL_clear 13 = .ok (.astore_n 3, 1) := by decide +kernel
theorem dL_clear_14 : decode cL_clear 14 = .ok (.iconst 1, 1) := by decide +kernel
theorem dL_clear_15 : decode cL_clear 15 = .ok (.ireturn, 1) := by decide +kernel
theorem dL_clear_16 : decode cL_clear 16 = .ok (.iconst 0, 1) := by decide +kernel
theorem dL_clear_17 : decode cL_clear 17 = .ok (.ireturn, 1) := by decide +kernel
theorem dL_step_0 : decode cL_step 0 = .ok (.aload_n 1, 1) := by decide +kernel
theorem dL_step_1 : decode cL_step 1 = .ok (.aload_n 0, 1) := by decide +kernel
theorem dL_step_2 : decode cL_step 2 = .ok (.invokevirtual 78, 3) := by decide +kernel
theorem dL_step_5 : decode cL_step 5 = .ok (.i2l, 1) := by decide +kernel
theorem dL_step_6 : decode cL_step 6 = .ok (.putfield 13, 3) := by decide +kernel
theorem dL_step_9 : decode cL_step 9 = .ok (.goto 6, 3) := by decide +kernel
theorem dL_step_12 : decode cL_step 12 = .ok (.astore_n 2, 1) := by decide +kernel
theorem dL_step_13 : decode cL_step 13 = .ok (.iconst 1, 1) := by decide +kernel
theorem dL_step_14 : decode cL_step 14 = .ok (.ireturn, 1) := by decide +kernel
theorem dL_step_15 : decode cL_step 15 = .ok (.iconst 0, 1) := by decide +kernel
theorem dL_step_16 : decode cL_step 16 = .ok (.ireturn, 1) := by decide +kernel
theorem dL_pluck_0 : decode cL_pluck 0 = .ok (.aload_n 1, 1) := by decide +kernel
theorem dL_pluck_1 : decode cL_pluck 1 = .ok (.aload_n 0, 1) := by decide +kernel
theorem dL_pluck_2 : decode cL_pluck 2 = .ok (.invokevirtual 82, 3) := by decide +kernel
theorem dL_pluck_5 : decode cL_pluck 5 = .ok (.i2l, 1) := by decide +kernel
theorem dL_pluck_6 : decode cL_pluck 6 = .ok (.putfield 13, 3) := by decide +kernel
theorem dL_pluck_9 : decode cL_pluck 9 = .ok (.goto 6, 3) := by decide +kernel
theorem dL_pluck_12 : decode cL_pluck 12 = .ok (.astore_n 2, 1) := by decide +kernel
theorem dL_pluck_13 : decode cL_pluck 13 = .ok (.iconst 1, 1) := by decide +kernel
theorem dL_pluck_14 : decode cL_pluck 14 = .ok (.ireturn, 1) := by decide +kernel
theorem dL_pluck_15 : decode cL_pluck 15 = .ok (.iconst 0, 1) := by decide +kernel
theorem dL_pluck_16 : decode cL_pluck 16 = .ok (.ireturn, 1) := by decide +kernel
theorem dL_insert_0 : decode cL_insert 0 = .ok (.aload 4, 2) := by decide +kernel
theorem dL_insert_2 : decode cL_insert 2 = .ok (.aload_n 0, 1) := by decide +kernel
theorem dL_insert_3 : decode cL_insert 3 = .ok (.iload_n 1, 1) := by decide +kernel
theorem dL_insert_4 : decode cL_insert 4 = .ok (.iload_n 2, 1) := by decide +kernel
theorem dL_insert_5 : decode cL_insert 5 = .ok (.iload_n 3, 1) := by decide +kernel
theorem dL_insert_6 : decode cL_insert 6 = .ok (.invokevirtual 85, 3) := by decide +kernel
theorem dL_insert_9 : decode cL_insert 9 = .ok (.i2l, 1) := by decide +kernel
theorem dL_insert_10 : decode cL_insert 10 = .ok (.putfield 13, 3) := by decide +kernel
theorem dL_insert_13 : decode cL_insert 13 = .ok (.goto 15, 3) := by decide +kernel
theorem dL_insert_16 : decode cL_insert 16 = .ok (.astore 5, 2) := by decide +kernel
theorem dL_insert_18 : decode cL_insert 18 = .ok (.iconst 1, 1) := by decide +kernel
theorem dL_insert_19 : decode cL_insert 19 = .ok (.ireturn, 1) := by decide +kernel
theorem dL_insert_20 : decode cL_insert 20 = .ok (.astore 5, 2) := by decide +kernel
theorem dL_insert_22 : decode cL_insert 22 = .ok (.iconst 2, 1) := by decide +kernel
theorem dL_insert_23 : decode cL_insert 23 = .ok (.ireturn, 1) := by decide +kernel
theorem dL_insert_24 : decode cL_insert 24 = .ok (.astore 5, 2) := by decide +kernel
theorem dL_insert_26 : decode cL_insert 26 = .ok (.iconst 3, 1) := by decide +kernel
theorem dL_insert_27 : decode cL_insert 27 = .ok (.ireturn, 1) := by decide +kernel
theorem dL_insert_28 : decode cL_insert 28 = .ok (.iconst 0, 1) := by decide +kernel
theorem dL_insert_29 : decode cL_insert 29 = .ok (.ireturn, 1) := by decide +kernel
theorem dL_cut_0 : decode cL_cut 0 = .ok (.aload_n 2, 1) := by decide +kernel
theorem dL_cut_1 : decode cL_cut 1 = .ok (.aload_n 0, 1) := by decide +kernel
theorem dL_cut_2 : decode cL_cut 2 = .ok (.iload_n 1, 1) := by decide +kernel
theorem dL_cut_3 : decode cL_cut 3 = .ok (.invokevirtual 88, 3) := by decide +kernel
theorem dL_cut_6 : decode cL_cut 6 = .ok (.i2l, 1) := by decide +kernel
theorem dL_cut_7 : decode cL_cut 7 = .ok (.putfield 13, 3) := by decide +kernel
theorem dL_cut_10 : decode cL_cut 10 = .ok (.goto 6, 3) := by decide +kernel
theorem dL_cut_13 : decode cL_cut 13 = .ok (.astore_n 3, 1) := by decide +kernel
theorem dL_cut_14 : decode cL_cut 14 = .ok (.iconst 1, 1) := by decide +kernel
theorem dL_cut_15 : decode cL_cut 15 = .ok (.ireturn, 1) := by decide +kernel
theorem dL_cut_16 : decode cL_cut 16 = .ok (.iconst 0, 1) := by decide +kernel
theorem dL_cut_17 : decode cL_cut 17 = .ok (.ireturn, 1) := by decide +kernel
theorem dL_replace_0 : decode cL_replace 0 = .ok (.aload 4, 2) := by decide +kernel
theorem dL_replace_2 : decode cL_replace 2 = .ok (.aload_n 0, 1) := by decide +kernel
theorem dL_replace_3 : decode cL_replace 3 = .ok (.iload_n 1, 1) := by decide +kernel
theorem dL_replace_4 : decode cL_replace 4 = .ok (.iload_n 2, 1) := by decide +kernel
theorem dL_replace_5 : decode cL_replace 5 = .ok (.iload_n 3, 1) := by decide +kernel
theorem dL_replace_6 : decode cL_replace 6 = .ok (.invokevirtual 91, 3) := by decide +kernel
theorem dL_replace_9 : decode cL_replace 9 = .ok (.i2l, 1) := by decide +kernel
theorem dL_replace_10 : decode cL_replace 10 = .ok (.putfield 13, 3) := by decide +kernel
theorem dL_replace_13 : decode cL_replace 13 = .ok (.goto 11, 3) := by decide +kernel
theorem dL_replace_16 : decode cL_replace 16 = .ok (.astore 5, 2) := by decide +kernel
theorem dL_replace_18 : decode cL_replace 18 = .ok (.iconst 1, 1) := by decide +kernel
theorem dL_replace_19 : decode cL_replace 19 = .ok (.ireturn, 1) := by decide +kernel
theorem dL_replace_20 : decode cL_replace 20 = .ok (.astore 5, 2) := by decide +kernel
theorem dL_replace_22 : decode cL_replace 22 = .ok (.iconst 2, 1) := by decide +kernel
theorem dL_replace_23 : decode cL_replace 23 = .ok (.ireturn, 1) := by decide +kernel
theorem dL_replace_24 : decode cL_replace 24 = .ok (.iconst 0, 1) := by decide +kernel
theorem dL_replace_25 : decode cL_replace 25 = .ok (.ireturn, 1) := by decide +kernel
theorem dL_at_0 : decode cL_at 0 = .ok (.aload_n 2, 1) := by decide +kernel
theorem dL_at_1 : decode cL_at 1 = .ok (.aload_n 0, 1) := by decide +kernel
theorem dL_at_2 : decode cL_at 2 = .ok (.iload_n 1, 1) := by decide +kernel
theorem dL_at_3 : decode cL_at 3 = .ok (.invokevirtual 94, 3) := by decide +kernel
theorem dL_at_6 : decode cL_at 6 = .ok (.i2l, 1) := by decide +kernel
theorem dL_at_7 : decode cL_at 7 = .ok (.putfield 13, 3) := by decide +kernel
theorem dL_at_10 : decode cL_at 10 = .ok (.goto 6, 3) := by decide +kernel
theorem dL_at_13 : decode cL_at 13 = .ok (.astore_n 3, 1) := by decide +kernel
theorem dL_at_14 : decode cL_at 14 = .ok (.iconst 1, 1) := by decide +kernel
theorem dL_at_15 : decode cL_at 15 = .ok (.ireturn, 1) := by decide +kernel
theorem dL_at_16 : decode cL_at 16 = .ok (.iconst 0, 1) := by decide +kernel
theorem dL_at_17 : decode cL_at 17 = .ok (.ireturn, 1) := by decide +kernel
theorem dL_find_0 : decode cL_find 0 = .ok (.aload_n 3, 1) := by decide +kernel
theorem dL_find_1 : decode cL_find 1 = .ok (.aload_n 0, 1) := by decide +kernel
theorem dL_find_2 : decode cL_find 2 = .ok (.iload_n 1, 1) := by decide +kernel
theorem dL_find_3 : decode cL_find 3 = .ok (.iload_n 2, 1) := by decide +kernel
theorem dL_find_4 : decode cL_find 4 = .ok (.invokevirtual 97, 3) := by decide +kernel
theorem dL_find_7 : decode cL_find 7 = .ok (.i2l, 1) := by decide +kernel
theorem dL_find_8 : decode cL_find 8 = .ok (.putfield 13, 3) := by decide +kernel
theorem dL_find_11 : decode cL_find 11 = .ok (.goto 7, 3) := by decide +kernel
theorem dL_find_14 : decode cL_find 14 = .ok (.astore 4, 2) := by decide +kernel
theorem dL_find_16 : decode cL_find 16 = .ok (.iconst 1, 1) := by decide +kernel
theorem dL_find_17 : decode cL_find 17 = .ok (.ireturn, 1) := by decide +kernel
theorem dL_find_18 : decode cL_find 18 = .ok (.iconst 0, 1) := by decide +kernel
theorem dL_find_19 : decode cL_find 19 = .ok (.ireturn, 1) := by decide +kernel
theorem dL_splice_0 : decode cL_splice 0 = .ok (.aload_n 2, 1) := by decide +kernel
theorem dL_splice_1 : decode cL_splice 1 = .ok (.aload_n 0, 1) := by decide +kernel
theorem dL_splice_2 : decode cL_splice 2 = .ok (.iload_n 1, 1) := by decide +kernel
theorem dL_splice_3 : decode cL_splice 3 = .ok (.invokevirtual 100, 3) := by decide +kernel
theorem dL_splice_6 : decode cL_splice 6 = .ok (.i2l, 1) := by decide +kernel
theorem dL_splice_7 : decode cL_splice 7 = .ok (.putfield 13, 3) := by decide +kernel
theorem dL_splice_10 : decode cL_splice 10 = .ok (.goto 9, 3) := by decide +kernel
theorem dL_splice_13 : decode cL_splice 13 = .ok (.astore_n 3, 1) := by decide +kernel
theorem dL_splice_14 : decode cL_splice 14 = .ok (.iconst 1, 1) := by decide +kernel
theorem dL_splice_15 : decode cL_splice 15 = .ok (.ireturn, 1) := by decide +kernel
theorem dL_splice_16 : decode cL_splice 16 = .ok (.astore_n 3, 1) := by decide +kernel
theorem dL_splice_17 : decode cL_splice 17 = .ok (.iconst 2, 1) := by decide +kernel
theorem dL_splice_18 : decode cL_splice 18 = .ok (.ireturn, 1) := by decide +kernel
theorem dL_splice_19 : decode cL_splice 19 = .ok (.iconst 0, 1) := by decide +kernel
theorem dL_splice_20 : decode cL_splice 20 = .ok (.ireturn, 1) := by decide +kernel
theorem dL_shunt_0 : decode cL_shunt 0 = .ok (.aload_n 3, 1) := by decide +kernel
theorem dL_shunt_1 : decode cL_shunt 1 = .ok (.aload_n 0, 1) := by decide +kernel
theorem dL_shunt_2 : decode cL_shunt 2 = .ok (.iload_n 1, 1) := by decide +kernel
theorem dL_shunt_3 : decode cL_shunt 3 = .ok (.iload_n 2, 1) := by decide +kernel
theorem dL_shunt_4 : decode cL_shunt 4 = .ok (.invokevirtual 103, 3) := by decide +kernel
theorem dL_shunt_7 : decode cL_shunt 7 = .ok (.i2l, 1) := by decide +kernel
theorem dL_shunt_8 : decode cL_shunt 8 = .ok (.putfield 13, 3) := by decide +kernel
theorem dL_shunt_11 : decode cL_shunt 11 = .ok (.goto 15, 3) := by decide +kernel
theorem dL_shunt_14 : decode cL_shunt 14 = .ok (.astore 4, 2) := by decide +kernel
theorem dL_shunt_16 : decode cL_shunt 16 = .ok (.iconst 1, 1) := by decide +kernel
theorem dL_shunt_17 : decode cL_shunt 17 = .ok (.ireturn, 1) := by decide +kernel
theorem dL_shunt_18 : decode cL_shunt 18 = .ok (.astore 4, 2) := by decide +kernel
theorem dL_shunt_20 : decode cL_shunt 20 = .ok (.iconst 2, 1) := by decide +kernel
theorem dL_shunt_21 : decode cL_shunt 21 = .ok (.ireturn, 1) := by decide +kernel
theorem dL_shunt_22 : decode cL_shunt 22 = .ok (.astore 4, 2) := by decide +kernel
theorem dL_shunt_24 : decode cL_shunt 24 = .ok (.iconst 3, 1) := by decide +kernel
theorem dL_shunt_25 : decode cL_shunt 25 = .ok (.ireturn, 1) := by decide +kernel
theorem dL_shunt_26 : decode cL_shunt 26 = .ok (.iconst 0, 1) := by decide +kernel
theorem dL_shunt_27 : decode cL_shunt 27 = .ok (.ireturn, 1) := by decide +kernel
theorem dL_stand_0 : decode cL_stand 0 = .ok (.aload_n 3, 1) := by decide +kernel
theorem dL_stand_1 : decode cL_stand 1 = .ok (.aload_n 0, 1) := by decide +kernel
theorem dL_stand_2 : decode cL_stand 2 = .ok (.iload_n 1, 1) := by decide +kernel
theorem dL_stand_3 : decode cL_stand 3 = .ok (.iload_n 2, 1) := by decide +kernel
theorem dL_stand_4 : decode cL_stand 4 = .ok (.invokevirtual 106, 3) := by decide +kernel
theorem dL_stand_7 : decode cL_stand 7 = .ok (.i2l, 1) := by decide +kernel
theorem dL_stand_8 : decode cL_stand 8 = .ok (.putfield 13, 3) := by decide +kernel
theorem dL_stand_11 : decode cL_stand 11 = .ok (.goto 7, 3) := by decide +kernel
theorem dL_stand_14 : decode cL_stand 14 = .ok (.astore 4, 2) := by decide +kernel
theorem dL_stand_16 : decode cL_stand 16 = .ok (.iconst 1, 1) := by decide +kernel
theorem dL_stand_17 : decode cL_stand 17 = .ok (.ireturn, 1) := by decide +kernel
theorem dL_stand_18 : decode cL_stand 18 = .ok (.iconst 0, 1) := by decide +kernel
theorem dL_stand_19 : decode cL_stand 19 = .ok (.ireturn, 1) := by decide +kernel
theorem dL_forth_0 : decode cL_forth 0 = .ok (.aload_n 2, 1) := by decide +kernel
theorem dL_forth_1 : decode cL_forth 1 = .ok (.aload_n 0, 1) := by decide +kernel
theorem dL_forth_2 : decode cL_forth 2 = .ok (.iload_n 1, 1) := by decide +kernel
theorem dL_forth_3 : decode cL_forth 3 = .ok (.invokevirtual 109, 3) := by decide +kernel
theorem dL_forth_6 : decode cL_forth 6 = .ok (.i2l, 1) := by decide +kernel
theorem dL_forth_7 : decode cL_forth 7 = .ok (.putfield 13, 3) := by decide +kernel
theorem dL_forth_10 : decode cL_forth 10 = .ok (.goto 9, 3) := by decide +kernel
theorem dL_forth_13 : decode cL_forth 13 = .ok (.astore_n 3, 1) := by decide +kernel
theorem dL_forth_14 : decode cL_forth 14 = .ok (.iconst 1, 1) := by decide +kernel
theorem dL_forth_15 : decode cL_forth 15 = .ok (.ireturn, 1) := by decide +kernel
theorem dL_forth_16 : decode cL_forth 16 = .ok (.astore_n 3, 1) := by decide +kernel
theorem dL_forth_17 : decode cL_forth 17 = .ok (.iconst 2, 1) := by decide +kernel
theorem dL_forth_18 : decode cL_forth 18 = .ok (.ireturn, 1) := by decide +kernel
theorem dL_forth_19 : decode cL_forth 19 = .ok (.iconst 0, 1) := by decide +kernel
theorem dL_forth_20 : decode cL_forth 20 = .ok (.ireturn, 1) := by decide +kernel
theorem dL_back_0 : decode cL_back 0 = .ok (.aload_n 2, 1) := by decide +kernel
theorem dL_back_1 : decode cL_back 1 = .ok (.aload_n 0, 1) := by decide +kernel
theorem dL_back_2 : decode cL_back 2 = .ok (.iload_n 1, 1) := by decide +kernel
theorem dL_back_3 : decode cL_back 3 = .ok (.invokevirtual 112, 3) := by decide +kernel
theorem dL_back_6 : decode cL_back 6 = .ok (.i2l, 1) := by decide +kernel
theorem dL_back_7 : decode cL_back 7 = .ok (.putfield 13, 3) := by decide +kernel
theorem dL_back_10 : decode cL_back 10 = .ok (.goto 9, 3) := by decide +kernel
theorem dL_back_13 : decode cL_back 13 = .ok (.astore_n 3, 1) := by decide +kernel
theorem dL_back_14 : decode cL_back 14 = .ok (.iconst 1, 1) := by decide +kernel
theorem dL_back_15 : decode cL_back 15 = .ok (.ireturn, 1) := by decide +kernel
theorem dL_back_16 : decode cL_back 16 = .ok (.astore_n 3, 1) := by decide +kernel
theorem dL_back_17 : decode cL_back 17 = .ok (.iconst 2, 1) := by decide +kernel
theorem dL_back_18 : decode cL_back 18 = .ok (.ireturn, 1) := by decide +kernel
theorem dL_back_19 : decode cL_back 19 = .ok (.iconst 0, 1) := by decide +kernel
theorem dL_back_20 : decode cL_back 20 = .ok (.ireturn, 1) := by decide +kernel
theorem dL_takeHeld_0 : decode cL_takeHeld 0 = .ok (.aload_n 2, 1) := by decide +kernel
theorem dL_takeHeld_1 : decode cL_takeHeld 1 = .ok (.aload_n 0, 1) := by decide +kernel
theorem dL_takeHeld_2 : decode cL_takeHeld 2 = .ok (.iload_n 1, 1) := by decide +kernel
theorem dL_takeHeld_3 : decode cL_takeHeld 3 = .ok (.invokevirtual 115, 3) := by decide +kernel
theorem dL_takeHeld_6 : decode cL_takeHeld 6 = .ok (.i2l, 1) := by decide +kernel
theorem dL_takeHeld_7 : decode cL_takeHeld 7 = .ok (.putfield 13, 3) := by decide +kernel
theorem dL_takeHeld_10 : decode cL_takeHeld 10 = .ok (.goto 9, 3) := by decide +kernel
theorem dL_takeHeld_13 : decode cL_takeHeld 13 = .ok (.astore_n 3, 1) := by decide +kernel
theorem dL_takeHeld_14 : decode cL_takeHeld 14 = .ok (.iconst 1, 1) := by decide +kernel
theorem dL_takeHeld_15 : decode cL_takeHeld 15 = .ok (.ireturn, 1) := by decide +kernel
theorem dL_takeHeld_16 : decode cL_takeHeld 16 = .ok (.astore_n 3, 1) := by decide +kernel
theorem dL_takeHeld_17 : decode cL_takeHeld 17 = .ok (.iconst 2, 1) := by decide +kernel
theorem dL_takeHeld_18 : decode cL_takeHeld 18 = .ok (.ireturn, 1) := by decide +kernel
theorem dL_takeHeld_19 : decode cL_takeHeld 19 = .ok (.iconst 0, 1) := by decide +kernel
theorem dL_takeHeld_20 : decode cL_takeHeld 20 = .ok (.ireturn, 1) := by decide +kernel
theorem dL_setHeld_0 : decode cL_setHeld 0 = .ok (.aload 4, 2) := by decide +kernel
theorem dL_setHeld_2 : decode cL_setHeld 2 = .ok (.aload_n 0, 1) := by decide +kernel
theorem dL_setHeld_3 : decode cL_setHeld 3 = .ok (.iload_n 1, 1) := by decide +kernel
theorem dL_setHeld_4 : decode cL_setHeld 4 = .ok (.iload_n 2, 1) := by decide +kernel
theorem dL_setHeld_5 : decode cL_setHeld 5 = .ok (.iload_n 3, 1) := by decide +kernel
theorem dL_setHeld_6 : decode cL_setHeld 6 = .ok (.invokevirtual 118, 3) := by decide +kernel
theorem dL_setHeld_9 : decode cL_setHeld 9 = .ok (.i2l, 1) := by decide +kernel
theorem dL_setHeld_10 : decode cL_setHeld 10 = .ok (.putfield 13, 3) := by decide +kernel
theorem dL_setHeld_13 : decode cL_setHeld 13 = .ok (.goto 15, 3) := by decide +kernel
theorem dL_setHeld_16 : decode cL_setHeld 16 = .ok (.astore 5, 2) := by decide +kernel
theorem dL_setHeld_18 : decode cL_setHeld 18 = .ok (.iconst 1, 1) := by decide +kernel
theorem dL_setHeld_19 : decode cL_setHeld 19 = .ok (.ireturn, 1) := by decide +kernel
theorem dL_setHeld_20 : decode cL_setHeld 20 = .ok (.astore 5, 2) := by decide +kernel
theorem dL_setHeld_22 : decode cL_setHeld 22 = .ok (.iconst 2, 1) := by decide +kernel
theorem dL_setHeld_23 : decode cL_setHeld 23 = .ok (.ireturn, 1) := by decide +kernel
theorem dL_setHeld_24 : decode cL_setHeld 24 = .ok (.astore 5, 2) := by decide +kernel
theorem dL_setHeld_26 : decode cL_setHeld 26 = .ok (.iconst 3, 1) := by decide +kernel
theorem dL_setHeld_27 : decode cL_setHeld 27 = .ok (.ireturn, 1) := by decide +kernel
theorem dL_setHeld_28 : decode cL_setHeld 28 = .ok (.iconst 0, 1) := by decide +kernel
theorem dL_setHeld_29 : decode cL_setHeld 29 = .ok (.ireturn, 1) := by decide +kernel
theorem dL_put_0 : decode cL_put 0 = .ok (.aload 4, 2) := by decide +kernel
theorem dL_put_2 : decode cL_put 2 = .ok (.aload_n 0, 1) := by decide +kernel
theorem dL_put_3 : decode cL_put 3 = .ok (.iload_n 1, 1) := by decide +kernel
theorem dL_put_4 : decode cL_put 4 = .ok (.iload_n 2, 1) := by decide +kernel
theorem dL_put_5 : decode cL_put 5 = .ok (.iload_n 3, 1) := by decide +kernel
theorem dL_put_6 : decode cL_put 6 = .ok (.invokevirtual 121, 3) := by decide +kernel
theorem dL_put_9 : decode cL_put 9 = .ok (.i2l, 1) := by decide +kernel
theorem dL_put_10 : decode cL_put 10 = .ok (.putfield 13, 3) := by decide +kernel
theorem dL_put_13 : decode cL_put 13 = .ok (.goto 15, 3) := by decide +kernel
theorem dL_put_16 : decode cL_put 16 = .ok (.astore 5, 2) := by decide +kernel
theorem dL_put_18 : decode cL_put 18 = .ok (.iconst 1, 1) := by decide +kernel
theorem dL_put_19 : decode cL_put 19 = .ok (.ireturn, 1) := by decide +kernel
theorem dL_put_20 : decode cL_put 20 = .ok (.astore 5, 2) := by decide +kernel
theorem dL_put_22 : decode cL_put 22 = .ok (.iconst 2, 1) := by decide +kernel
theorem dL_put_23 : decode cL_put 23 = .ok (.ireturn, 1) := by decide +kernel
theorem dL_put_24 : decode cL_put 24 = .ok (.astore 5, 2) := by decide +kernel
theorem dL_put_26 : decode cL_put 26 = .ok (.iconst 3, 1) := by decide +kernel
theorem dL_put_27 : decode cL_put 27 = .ok (.ireturn, 1) := by decide +kernel
theorem dL_put_28 : decode cL_put 28 = .ok (.iconst 0, 1) := by decide +kernel
theorem dL_put_29 : decode cL_put 29 = .ok (.ireturn, 1) := by decide +kernel
theorem dL_where_0 : decode cL_where 0 = .ok (.aload_n 3, 1) := by decide +kernel
theorem dL_where_1 : decode cL_where 1 = .ok (.aload_n 0, 1) := by decide +kernel
theorem dL_where_2 : decode cL_where 2 = .ok (.iload_n 1, 1) := by decide +kernel
theorem dL_where_3 : decode cL_where 3 = .ok (.iload_n 2, 1) := by decide +kernel
theorem dL_where_4 : decode cL_where 4 = .ok (.invokevirtual 124, 3) := by decide +kernel
theorem dL_where_7 : decode cL_where 7 = .ok (.i2l, 1) := by decide +kernel
theorem dL_where_8 : decode cL_where 8 = .ok (.putfield 13, 3) := by decide +kernel
theorem dL_where_11 : decode cL_where 11 = .ok (.goto 15, 3) := by decide +kernel
theorem dL_where_14 : decode cL_where 14 = .ok (.astore 4, 2) := by decide +kernel
theorem dL_where_16 : decode cL_where 16 = .ok (.iconst 1, 1) := by decide +kernel
theorem dL_where_17 : decode cL_where 17 = .ok (.ireturn, 1) := by decide +kernel
theorem dL_where_18 : decode cL_where 18 = .ok (.astore 4, 2) := by decide +kernel
theorem dL_where_20 : decode cL_where 20 = .ok (.iconst 2, 1) := by decide +kernel
theorem dL_where_21 : decode cL_where 21 = .ok (.ireturn, 1) := by decide +kernel
theorem dL_where_22 : decode cL_where 22 = .ok (.astore 4, 2) := by decide +kernel
theorem dL_where_24 : decode cL_where 24 = .ok (.iconst 3, 1) := by decide +kernel
theorem dL_where_25 : decode cL_where 25 = .ok (.ireturn, 1) := by decide +kernel
theorem dL_where_26 : decode cL_where 26 = .ok (.iconst 0, 1) := by decide +kernel
theorem dL_where_27 : decode cL_where 27 = .ok (.ireturn, 1) := by decide +kernel
theorem dL_order_0 : decode cL_order 0 = .ok (.aload_n 2, 1) := by decide +kernel
theorem dL_order_1 : decode cL_order 1 = .ok (.aload_n 0, 1) := by decide +kernel
theorem dL_order_2 : decode cL_order 2 = .ok (.iload_n 1, 1) := by decide +kernel
theorem dL_order_3 : decode cL_order 3 = .ok (.invokevirtual 127, 3) := by decide +kernel
theorem dL_order_6 : decode cL_order 6 = .ok (.i2l, 1) := by decide +kernel
theorem dL_order_7 : decode cL_order 7 = .ok (.putfield 13, 3) := by decide +kernel
theorem dL_order_10 : decode cL_order 10 = .ok (.goto 9, 3) := by decide +kernel
theorem dL_order_13 : decode cL_order 13 = .ok (.astore_n 3, 1) := by decide +kernel
theorem dL_order_14 : decode cL_order 14 = .ok (.iconst 1, 1) := by decide +kernel
theorem dL_order_15 : decode cL_order 15 = .ok (.ireturn, 1) := by decide +kernel
theorem dL_order_16 : decode cL_order 16 = .ok (.astore_n 3, 1) := by decide +kernel
theorem dL_order_17 : decode cL_order 17 = .ok (.iconst 2, 1) := by decide +kernel
theorem dL_order_18 : decode cL_order 18 = .ok (.ireturn, 1) := by decide +kernel
theorem dL_order_19 : decode cL_order 19 = .ok (.iconst 0, 1) := by decide +kernel
theorem dL_order_20 : decode cL_order 20 = .ok (.ireturn, 1) := by decide +kernel
theorem dL_work_0 : decode cL_work 0 = .ok (.aload_n 2, 1) := by decide +kernel
theorem dL_work_1 : decode cL_work 1 = .ok (.aload_n 0, 1) := by decide +kernel
theorem dL_work_2 : decode cL_work 2 = .ok (.iload_n 1, 1) := by decide +kernel
theorem dL_work_3 : decode cL_work 3 = .ok (.invokevirtual 130, 3) := by decide +kernel
theorem dL_work_6 : decode cL_work 6 = .ok (.i2l, 1) := by decide +kernel
theorem dL_work_7 : decode cL_work 7 = .ok (.putfield 13, 3) := by decide +kernel
theorem dL_work_10 : decode cL_work 10 = .ok (.goto 6, 3) := by decide +kernel
theorem dL_work_13 : decode cL_work 13 = .ok (.astore_n 3, 1) := by decide +kernel
theorem dL_work_14 : decode cL_work 14 = .ok (.iconst 1, 1) := by decide +kernel
theorem dL_work_15 : decode cL_work 15 = .ok (.ireturn, 1) := by decide +kernel
theorem dL_work_16 : decode cL_work 16 = .ok (.iconst 0, 1) := by decide +kernel
theorem dL_work_17 : decode cL_work 17 = .ok (.ireturn, 1) := by decide +kernel
theorem dL_cancel_0 : decode cL_cancel 0 = .ok (.aload_n 3, 1) := by decide +kernel
theorem dL_cancel_1 : decode cL_cancel 1 = .ok (.aload_n 0, 1) := by decide +kernel
theorem dL_cancel_2 : decode cL_cancel 2 = .ok (.iload_n 1, 1) := by decide +kernel
theorem dL_cancel_3 : decode cL_cancel 3 = .ok (.iload_n 2, 1) := by decide +kernel
theorem dL_cancel_4 : decode cL_cancel 4 = .ok (.invokevirtual 133, 3) := by decide +kernel
theorem dL_cancel_7 : decode cL_cancel 7 = .ok (.ifCond .eq 7, 3) := by decide +kernel
theorem dL_cancel_10 : decode cL_cancel 10 = .ok (.lconst 1, 1) := by decide +kernel
theorem dL_cancel_11 : decode cL_cancel 11 = .ok (.goto 4, 3) := by decide +kernel
theorem dL_cancel_14 : decode cL_cancel 14 = .ok (.lconst 0, 1) := by decide +kernel
theorem dL_cancel_15 : decode cL_cancel 15 = .ok (.putfield 13, 3) := by decide +kernel
theorem dL_cancel_18 : decode cL_cancel 18 = .ok (.goto 7, 3) := by decide +kernel
theorem dL_cancel_21 : decode cL_cancel 21 = .ok (.astore 4, 2) := by decide +kernel
theorem dL_cancel_23 : decode cL_cancel 23 = .ok (.iconst 1, 1) := by decide +kernel
theorem dL_cancel_24 : decode cL_cancel 24 = .ok (.ireturn, 1) := by decide +kernel
theorem dL_cancel_25 : decode cL_cancel 25 = .ok (.iconst 0, 1) := by decide +kernel
theorem dL_cancel_26 : decode cL_cancel 26 = .ok (.ireturn, 1) := by decide +kernel
theorem dL_ask_0 : decode cL_ask 0 = .ok (.aload_n 3, 1) := by decide +kernel
theorem dL_ask_1 : decode cL_ask 1 = .ok (.aload_n 0, 1) := by decide +kernel
theorem dL_ask_2 : decode cL_ask 2 = .ok (.iload_n 1, 1) := by decide +kernel
theorem dL_ask_3 : decode cL_ask 3 = .ok (.iload_n 2, 1) := by decide +kernel
theorem dL_ask_4 : decode cL_ask 4 = .ok (.invokevirtual 137, 3) := by decide +kernel
theorem dL_ask_7 : decode cL_ask 7 = .ok (.i2l, 1) := by decide +kernel
theorem dL_ask_8 : decode cL_ask 8 = .ok (.putfield 13, 3) := by decide +kernel
theorem dL_ask_11 : decode cL_ask 11 = .ok (.goto 11, 3) := by decide +kernel
theorem dL_ask_14 : decode cL_ask 14 = .ok (.astore 4, 2) := by decide +kernel
theorem dL_ask_16 : decode cL_ask 16 = .ok (.iconst 1, 1) := by decide +kernel
theorem dL_ask_17 : decode cL_ask 17 = .ok (.ireturn, 1) := by decide +kernel
theorem dL_ask_18 : decode cL_ask 18 = .ok (.astore 4, 2) := by decide +kernel
theorem dL_ask_20 : decode cL_ask 20 = .ok (.iconst 2, 1) := by decide +kernel
theorem dL_ask_21 : decode cL_ask 21 = .ok (.ireturn, 1) := by decide +kernel
theorem dL_ask_22 : decode cL_ask 22 = .ok (.iconst 0, 1) := by decide +kernel
theorem dL_ask_23 : decode cL_ask 23 = .ok (.ireturn, 1) := by decide +kernel
theorem dL_ofTrack_0 : decode cL_ofTrack 0 = .ok (.aload_n 3, 1) := by decide +kernel
theorem dL_ofTrack_1 : decode cL_ofTrack 1 = .ok (.aload_n 0, 1) := by decide +kernel
theorem dL_ofTrack_2 : decode cL_ofTrack 2 = .ok (.iload_n 1, 1) := by decide +kernel
theorem dL_ofTrack_3 : decode cL_ofTrack 3 = .ok (.iload_n 2, 1) := by decide +kernel
theorem dL_ofTrack_4 : decode cL_ofTrack 4 = .ok (.invokevirtual 140, 3) := by decide +kernel
theorem dL_ofTrack_7 : decode cL_ofTrack 7 = .ok (.i2l, 1) := by decide +kernel
theorem dL_ofTrack_8 : decode cL_ofTrack 8 = .ok (.putfield 13, 3) := by decide +kernel
theorem dL_ofTrack_11 : decode cL_ofTrack 11 = .ok (.goto 11, 3) := by decide +kernel
theorem dL_ofTrack_14 : decode cL_ofTrack 14 = .ok (.astore 4, 2) := by decide +kernel
theorem dL_ofTrack_16 : decode cL_ofTrack 16 = .ok (.iconst 1, 1) := by decide +kernel
theorem dL_ofTrack_17 : decode cL_ofTrack 17 = .ok (.ireturn, 1) := by decide +kernel
theorem dL_ofTrack_18 : decode cL_ofTrack 18 = .ok (.astore 4, 2) := by decide +kernel
theorem dL_ofTrack_20 : decode cL_ofTrack 20 = .ok (.iconst 2, 1) := by decide +kernel
theorem dL_ofTrack_21 : decode cL_ofTrack 21 = .ok (.ireturn, 1) := by decide +kernel
theorem dL_ofTrack_22 : decode cL_ofTrack 22 = .ok (.iconst 0, 1) := by decide +kernel
theorem dL_ofTrack_23 : decode cL_ofTrack 23 = .ok (.ireturn, 1) := by decide +kernel
theorem dL_has_0 : decode cL_has 0 = .ok (.aload_n 3, 1) := by decide +kernel
theorem dL_has_1 : decode cL_has 1 = .ok (.aload_n 0, 1) := by decide +kernel
theorem dL_has_2 : decode cL_has 2 = .ok (.iload_n 1, 1) := by decide +kernel
theorem dL_has_3 : decode cL_has 3 = .ok (.iload_n 2, 1) := by decide +kernel
theorem dL_has_4 : decode cL_has 4 = .ok (.invokevirtual 143, 3) := by decide +kernel
theorem dL_has_7 : decode cL_has 7 = .ok (.ifCond .eq 7, 3) := by decide +kernel
theorem dL_has_10 : decode cL_has 10 = .ok (.lconst 1, 1) := by decide +kernel
theorem dL_has_11 : decode cL_has 11 = .ok (.goto 4, 3) := by decide +kernel
theorem dL_has_14 : decode cL_has 14 = .ok (.lconst 0, 1) := by decide +kernel
theorem dL_has_15 : decode cL_has 15 = .ok (.putfield 13, 3) := by decide +kernel
theorem dL_has_18 : decode cL_has 18 = .ok (.goto 11, 3) := by decide +kernel
theorem dL_has_21 : decode cL_has 21 = .ok (.astore 4, 2) := by decide +kernel
theorem dL_has_23 : decode cL_has 23 = .ok (.iconst 1, 1) := by decide +kernel
theorem dL_has_24 : decode cL_has 24 = .ok (.ireturn, 1) := by decide +kernel
theorem dL_has_25 : decode cL_has 25 = .ok (.astore 4, 2) := by decide +kernel
theorem dL_has_27 : decode cL_has 27 = .ok (.iconst 2, 1) := by decide +kernel
theorem dL_has_28 : decode cL_has 28 = .ok (.ireturn, 1) := by decide +kernel
theorem dL_has_29 : decode cL_has 29 = .ok (.iconst 0, 1) := by decide +kernel
theorem dL_has_30 : decode cL_has 30 = .ok (.ireturn, 1) := by decide +kernel
theorem dL_text_0 : decode cL_text 0 = .ok (.aload_n 3, 1) := by decide +kernel
theorem dL_text_1 : decode cL_text 1 = .ok (.aload_n 0, 1) := by decide +kernel
theorem dL_text_2 : decode cL_text 2 = .ok (.iload_n 1, 1) := by decide +kernel
theorem dL_text_3 : decode cL_text 3 = .ok (.iload_n 2, 1) := by decide +kernel
theorem dL_text_4 : decode cL_text 4 = .ok (.invokevirtual 147, 3) := by decide +kernel
theorem dL_text_7 : decode cL_text 7 = .ok (.putfield 151, 3) := by decide +kernel
theorem dL_text_10 : decode cL_text 10 = .ok (.goto 7, 3) := by decide +kernel
theorem dL_text_13 : decode cL_text 13 = .ok (.astore 4, 2) := by decide +kernel
theorem dL_text_15 : decode cL_text 15 = .ok (.iconst 1, 1) := by decide +kernel
theorem dL_text_16 : decode cL_text 16 = .ok (.ireturn, 1) := by decide +kernel
theorem dL_text_17 : decode cL_text 17 = .ok (.iconst 0, 1) := by decide +kernel
theorem dL_text_18 : decode cL_text 18 = .ok (.ireturn, 1) := by decide +kernel
theorem dL_nested_0 : decode cL_nested 0 = .ok (.aload_n 2, 1) := by decide +kernel
theorem dL_nested_1 : decode cL_nested 1 = .ok (.aload_n 0, 1) := by decide +kernel
theorem dL_nested_2 : decode cL_nested 2 = .ok (.iload_n 1, 1) := by decide +kernel
theorem dL_nested_3 : decode cL_nested 3 = .ok (.invokevirtual 155, 3) := by decide +kernel
theorem dL_nested_6 : decode cL_nested 6 = .ok (.i2l, 1) := by decide +kernel
theorem dL_nested_7 : decode cL_nested 7 = .ok (.putfield 13, 3) := by decide +kernel
theorem dL_nested_10 : decode cL_nested 10 = .ok (.goto 6, 3) := by decide +kernel
theorem dL_nested_13 : decode cL_nested 13 = .ok (.astore_n 3, 1) := by decide +kernel
theorem dL_nested_14 : decode cL_nested 14 = .ok (.iconst 1, 1) := by decide +kernel
theorem dL_nested_15 : decode cL_nested 15 = .ok (.ireturn, 1) := by decide +kernel
theorem dL_nested_16 : decode cL_nested 16 = .ok (.iconst 0, 1) := by decide +kernel
theorem dL_nested_17 : decode cL_nested 17 = .ok (.ireturn, 1) := by decide +kernel
theorem dL_heaviest_0 : decode cL_heaviest 0 = .ok (.aload 4, 2) := by decide +kernel
theorem dL_heaviest_2 : decode cL_heaviest 2 = .ok (.aload_n 0, 1) := by decide +kernel
theorem dL_heaviest_3 : decode cL_heaviest 3 = .ok (.iload_n 1, 1) := by decide +kernel
theorem dL_heaviest_4 : decode cL_heaviest 4 = .ok (.iload_n 2, 1) := by decide +kernel
theorem dL_heaviest_5 : decode cL_heaviest 5 = .ok (.iload_n 3, 1) := by decide +kernel
theorem dL_heaviest_6 : decode cL_heaviest 6 = .ok (.invokevirtual 158, 3) := by decide +kernel
theorem dL_heaviest_9 : decode cL_heaviest 9 = .ok (.i2l, 1) := by decide +kernel
theorem dL_heaviest_10 : decode cL_heaviest 10 = .ok (.putfield 13, 3) := by decide +kernel
theorem dL_heaviest_13 : decode cL_heaviest 13 = .ok (.goto 11, 3) := by decide +kernel
theorem dL_heaviest_16 : decode cL_heaviest 16 = .ok (.astore 5, 2) := by decide +kernel
theorem dL_heaviest_18 : decode cL_heaviest 18 = .ok (.iconst 1, 1) := by decide +kernel
theorem dL_heaviest_19 : decode cL_heaviest 19 = .ok (.ireturn, 1) := by decide +kernel
theorem dL_heaviest_20 : decode cL_heaviest 20 = .ok (.astore 5, 2) := by decide +kernel
theorem dL_heaviest_22 : decode cL_heaviest 22 = .ok (.iconst 2, 1) := by decide +kernel
theorem dL_heaviest_23 : decode cL_heaviest 23 = .ok (.ireturn, 1) := by decide +kernel
theorem dL_heaviest_24 : decode cL_heaviest 24 = .ok (.iconst 0, 1) := by decide +kernel
theorem dL_heaviest_25 : decode cL_heaviest 25 = .ok (.ireturn, 1) := by decide +kernel
theorem dL_ahead_0 : decode cL_ahead 0 = .ok (.aload_n 3, 1) := by decide +kernel
theorem dL_ahead_1 : decode cL_ahead 1 = .ok (.aload_n 0, 1) := by decide +kernel
theorem dL_ahead_2 : decode cL_ahead 2 = .ok (.iload_n 1, 1) := by decide +kernel
theorem dL_ahead_3 : decode cL_ahead 3 = .ok (.iload_n 2, 1) := by decide +kernel
theorem dL_ahead_4 : decode cL_ahead 4 = .ok (.invokevirtual 161, 3) := by decide +kernel
theorem dL_ahead_7 : decode cL_ahead 7 = .ok (.i2l, 1) := by decide +kernel
theorem dL_ahead_8 : decode cL_ahead 8 = .ok (.putfield 13, 3) := by decide +kernel
theorem dL_ahead_11 : decode cL_ahead 11 = .ok (.goto 7, 3) := by decide +kernel
theorem dL_ahead_14 : decode cL_ahead 14 = .ok (.astore 4, 2) := by decide +kernel
theorem dL_ahead_16 : decode cL_ahead 16 = .ok (.iconst 1, 1) := by decide +kernel
theorem dL_ahead_17 : decode cL_ahead 17 = .ok (.ireturn, 1) := by decide +kernel
theorem dL_ahead_18 : decode cL_ahead 18 = .ok (.iconst 0, 1) := by decide +kernel
theorem dL_ahead_19 : decode cL_ahead 19 = .ok (.ireturn, 1) := by decide +kernel
theorem dL_yard_0 : decode cL_yard 0 = .ok (.aload_n 2, 1) := by decide +kernel
theorem dL_yard_1 : decode cL_yard 1 = .ok (.aload_n 0, 1) := by decide +kernel
theorem dL_yard_2 : decode cL_yard 2 = .ok (.iload_n 1, 1) := by decide +kernel
theorem dL_yard_3 : decode cL_yard 3 = .ok (.invokevirtual 164, 3) := by decide +kernel
theorem dL_yard_6 : decode cL_yard 6 = .ok (.i2l, 1) := by decide +kernel
theorem dL_yard_7 : decode cL_yard 7 = .ok (.putfield 13, 3) := by decide +kernel
theorem dL_yard_10 : decode cL_yard 10 = .ok (.goto 6, 3) := by decide +kernel
theorem dL_yard_13 : decode cL_yard 13 = .ok (.astore_n 3, 1) := by decide +kernel
theorem dL_yard_14 : decode cL_yard 14 = .ok (.iconst 1, 1) := by decide +kernel
theorem dL_yard_15 : decode cL_yard 15 = .ok (.ireturn, 1) := by decide +kernel
theorem dL_yard_16 : decode cL_yard 16 = .ok (.iconst 0, 1) := by decide +kernel
theorem dL_yard_17 : decode cL_yard 17 = .ok (.ireturn, 1) := by decide +kernel

