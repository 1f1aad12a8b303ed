theorem dX7_init_45 : decode cX7_init 45 = .ok (.putfield 22, 3) := by decide +kernel
theorem dX7_init_48 : decode cX7_init 48 = .ok (.aload_n 0, 1) := by decide +kernel
theorem dX7_init_49 : decode cX7_init 49 = .ok (.new 25, 3) := by decide +kernel
theorem dX7_init_52 : decode cX7_init 52 = .ok (.dup, 1) := by decide +kernel
theorem dX7_init_53 : decode cX7_init 53 = .ok (.invokespecial 27, 3) := by decide +kernel
theorem dX7_init_56 : decode cX7_init 56 = .ok (.putfield 28, 3) := by decide +kernel
theorem dX7_init_59 : decode cX7_init 59 = .ok (.aload_n 0, 1) := by decide +kernel
theorem dX7_init_60 : decode cX7_init 60 = .ok (.new 32, 3) := by decide +kernel
theorem dX7_init_63 : decode cX7_init 63 = .ok (.dup, 1) := by decide +kernel
theorem dX7_init_64 : decode cX7_init 64 = .ok (.invokespecial 34, 3) := by decide +kernel
theorem dX7_init_67 : decode cX7_init 67 = .ok (.putfield 35, 3) := by decide +kernel
theorem dX7_init_70 : decode cX7_init 70 = .ok (.return_, 1) := by decide +kernel
theorem dX7_come_0 : decode cX7_come 0 = .ok (.aload_n 0, 1) := by decide +kernel
theorem dX7_come_1 : decode cX7_come 1 = .ok (.getfield 16, 3) := by decide +kernel
theorem dX7_come_4 : decode cX7_come 4 = .ok (.aload_n 0, 1) := by decide +kernel
theorem dX7_come_5 : decode cX7_come 5 = .ok (.getfield 12, 3) := by decide +kernel
theorem dX7_come_8 : decode cX7_come 8 = .ok (.invokevirtual 39, 3) := by decide +kernel
theorem dX7_come_11 : decode cX7_come 11 = .ok (.aload_n 0, 1) := by decide +kernel
theorem dX7_come_12 : decode cX7_come 12 = .ok (.aload_n 0, 1) := by decide +kernel
theorem dX7_come_13 : decode cX7_come 13 = .ok (.getfield 12, 3) := by decide +kernel
theorem dX7_come_16 : decode cX7_come 16 = .ok (.iload_n 1, 1) := by decide +kernel
theorem dX7_come_17 : decode cX7_come 17 = .ok (.iload_n 2, 1) := by decide +kernel
theorem dX7_come_18 : decode cX7_come 18 = .ok (.invokevirtual 43, 3) := by decide +kernel
theorem dX7_come_21 : decode cX7_come 21 = .ok (.invokevirtual 47, 3) := by decide +kernel
theorem dX7_come_24 : decode cX7_come 24 = .ok (.ireturn, 1) := by decide +kernel
theorem dX7_move_0 : decode cX7_move 0 = .ok (.aload_n 0, 1) := by decide +kernel
theorem dX7_move_1 : decode cX7_move 1 = .ok (.getfield 16, 3) := by decide +kernel
theorem dX7_move_4 : decode cX7_move 4 = .ok (.aload_n 0, 1) := by decide +kernel
theorem dX7_move_5 : decode cX7_move 5 = .ok (.getfield 12, 3) := by decide +kernel
theorem dX7_move_8 : decode cX7_move 8 = .ok (.invokevirtual 39, 3) := by decide +kernel
theorem dX7_move_11 : decode cX7_move 11 = .ok (.aload_n 0, 1) := by decide +kernel
theorem dX7_move_12 : decode cX7_move 12 = .ok (.aload_n 0, 1) := by decide +kernel
theorem dX7_move_13 : decode cX7_move 13 = .ok (.getfield 12, 3) := by decide +kernel
theorem dX7_move_16 : decode cX7_move 16 = .ok (.iload_n 1, 1) := by decide +kernel
theorem dX7_move_17 : decode cX7_move 17 = .ok (.iload_n 2, 1) := by decide +kernel
theorem dX7_move_18 : decode cX7_move 18 = .ok (.invokevirtual 51, 3) := by decide +kernel
theorem dX7_move_21 : decode cX7_move 21 = .ok (.invokevirtual 47, 3) := by decide +kernel
theorem dX7_move_24 : decode cX7_move 24 = .ok (.ireturn, 1) := by decide +kernel
theorem dX7_petition_0 : decode cX7_petition 0 = .ok (.aload_n 0, 1) := by decide +kernel
theorem dX7_petition_1 : decode cX7_petition 1 = .ok (.getfield 16, 3) := by decide +kernel
theorem dX7_petition_4 : decode cX7_petition 4 = .ok (.aload_n 0, 1) := by decide +kernel
theorem dX7_petition_5 : decode cX7_petition 5 = .ok (.getfield 12, 3) := by decide +kernel
theorem dX7_petition_8 : decode cX7_petition 8 = .ok (.invokevirtual 39, 3) := by decide +kernel
theorem dX7_petition_11 : decode cX7_petition 11 = .ok (.aload_n 0, 1) := by decide +kernel
theorem dX7_petition_12 : decode cX7_petition 12 = .ok (.aload_n 0, 1) := by decide +kernel
theorem dX7_petition_13 : decode cX7_petition 13 = .ok (.getfield 12, 3) := by decide +kernel
theorem dX7_petition_16 : decode cX7_petition 16 = .ok (.iload_n 1, 1) := by decide +kernel
theorem dX7_petition_17 : decode cX7_petition 17 = .ok (.iload_n 2, 1) := by decide +kernel
theorem dX7_petition_18 : decode cX7_petition 18 = .ok (.iload_n 3, 1) := by decide +kernel
theorem dX7_petition_19 : decode cX7_petition 19 = .ok (.iload 4, 2) := by decide +kernel
theorem dX7_petition_21 : decode cX7_petition 21 = .ok (.invokevirtual 54, 3) := by decide +kernel
theorem dX7_petition_24 : decode cX7_petition 24 = .ok (.invokevirtual 47, 3) := by decide +kernel
theorem dX7_petition_27 : decode cX7_petition 27 = .ok (.ireturn, 1) := by decide +kernel
theorem dX7_second_0 : decode cX7_second 0 = .ok (.aload_n 0, 1) := by decide +kernel
theorem dX7_second_1 : decode cX7_second 1 = .ok (.getfield 16, 3) := by decide +kernel
theorem dX7_second_4 : decode cX7_second 4 = .ok (.aload_n 0, 1) := by decide +kernel
theorem dX7_second_5 : decode cX7_second 5 = .ok (.getfield 12, 3) := by decide +kernel
theorem dX7_second_8 : decode cX7_second 8 = .ok (.invokevirtual 39, 3) := by decide +kernel
theorem dX7_second_11 : decode cX7_second 11 = .ok (.aload_n 0, 1) := by decide +kernel
theorem dX7_second_12 : decode cX7_second 12 = .ok (.aload_n 0, 1) := by decide +kernel
theorem dX7_second_13 : decode cX7_second 13 = .ok (.getfield 12, 3) := by decide +kernel
theorem dX7_second_16 : decode cX7_second 16 = .ok (.iload_n 1, 1) := by decide +kernel
theorem dX7_second_17 : decode cX7_second 17 = .ok (.iload_n 2, 1) := by decide +kernel
theorem dX7_second_18 : decode cX7_second 18 = .ok (.invokevirtual 58, 3) := by decide +kernel
theorem dX7_second_21 : decode cX7_second 21 = .ok (.invokevirtual 47, 3) := by decide +kernel
theorem dX7_second_24 : decode cX7_second 24 = .ok (.ireturn, 1) := by decide +kernel
theorem dX7_pass_0 : decode cX7_pass 0 = .ok (.aload_n 0, 1) := by decide +kernel
theorem dX7_pass_1 : decode cX7_pass 1 = .ok (.getfield 16, 3) := by decide +kernel
theorem dX7_pass_4 : decode cX7_pass 4 = .ok (.aload_n 0, 1) := by decide +kernel
theorem dX7_pass_5 : decode cX7_pass 5 = .ok (.getfield 12, 3) := by decide +kernel
theorem dX7_pass_8 : decode cX7_pass 8 = .ok (.invokevirtual 39, 3) := by decide +kernel
theorem dX7_pass_11 : decode cX7_pass 11 = .ok (.aload_n 0, 1) := by decide +kernel
theorem dX7_pass_12 : decode cX7_pass 12 = .ok (.aload_n 0, 1) := by decide +kernel
theorem dX7_pass_13 : decode cX7_pass 13 = .ok (.getfield 12, 3) := by decide +kernel
theorem dX7_pass_16 : decode cX7_pass 16 = .ok (.iload_n 1, 1) := by decide +kernel
theorem dX7_pass_17 : decode cX7_pass 17 = .ok (.invokevirtual 61, 3) := by decide +kernel
theorem dX7_pass_20 : decode cX7_pass 20 = .ok (.invokevirtual 47, 3) := by decide +kernel
theorem dX7_pass_23 : decode cX7_pass 23 = .ok (.ireturn, 1) := by decide +kernel
theorem dX7_set_0 : decode cX7_set 0 = .ok (.aload_n 0, 1) := by decide +kernel
theorem dX7_set_1 : decode cX7_set 1 = .ok (.getfield 16, 3) := by decide +kernel
theorem dX7_set_4 : decode cX7_set 4 = .ok (.aload_n 0, 1) := by decide +kernel
theorem dX7_set_5 : decode cX7_set 5 = .ok (.getfield 12, 3) := by decide +kernel
theorem dX7_set_8 : decode cX7_set 8 = .ok (.invokevirtual 39, 3) := by decide +kernel
theorem dX7_set_11 : decode cX7_set 11 = .ok (.aload_n 0, 1) := by decide +kernel
theorem dX7_set_12 : decode cX7_set 12 = .ok (.aload_n 0, 1) := by decide +kernel
theorem dX7_set_13 : decode cX7_set 13 = .ok (.getfield 12, 3) := by decide +kernel
theorem dX7_set_16 : decode cX7_set 16 = .ok (.iload_n 1, 1) := by decide +kernel
theorem dX7_set_17 : decode cX7_set 17 = .ok (.iload_n 2, 1) := by decide +kernel
theorem dX7_set_18 : decode cX7_set 18 = .ok (.invokevirtual 64, 3) := by decide +kernel
theorem dX7_set_21 : decode cX7_set 21 = .ok (.invokevirtual 47, 3) := by decide +kernel
theorem dX7_set_24 : decode cX7_set 24 = .ok (.ireturn, 1) := by decide +kernel
theorem dX7_type_0 : decode cX7_type 0 = .ok (.aload_n 0, 1) := by decide +kernel
theorem dX7_type_1 : decode cX7_type 1 = .ok (.getfield 35, 3) := by decide +kernel
theorem dX7_type_4 : decode cX7_type 4 = .ok (.iload_n 1, 1) := by decide +kernel
theorem dX7_type_5 : decode cX7_type 5 = .ok (.invokevirtual 67, 3) := by decide +kernel
theorem dX7_type_8 : decode cX7_type 8 = .ok (.ireturn, 1) := by decide +kernel
theorem dX7_clearText_0 : decode cX7_clearText 0 = .ok (.aload_n 0, 1) := by decide +kernel
theorem dX7_clearText_1 : decode cX7_clearText 1 = .ok (.getfield 35, 3) := by decide +kernel
theorem dX7_clearText_4 : decode cX7_clearText 4 = .ok (.invokevirtual 71, 3) := by decide +kernel
theorem dX7_clearText_7 : decode cX7_clearText 7 = .ok (.ireturn, 1) := by decide +kernel
theorem dX7_perform_0 : decode cX7_perform 0 = .ok (.aload_n 0, 1) := by decide +kernel
theorem dX7_perform_1 : decode cX7_perform 1 = .ok (.getfield 35, 3) := by decide +kernel
theorem dX7_perform_4 : decode cX7_perform 4 = .ok (.invokevirtual 75, 3) := by decide +kernel
theorem dX7_perform_7 : decode cX7_perform 7 = .ok (.istore_n 1, 1) := by decide +kernel
theorem dX7_perform_8 : decode cX7_perform 8 = .ok (.iload_n 1, 1) := by decide +kernel
theorem dX7_perform_9 : decode cX7_perform 9 = .ok (.iconst (-1), 1) := by decide +kernel
theorem dX7_perform_10 : decode cX7_perform 10 = .ok (.if_icmp .eq 8, 3) := by decide +kernel
theorem dX7_perform_13 : decode cX7_perform 13 = .ok (.bipush (-100), 2) := by decide +kernel
theorem dX7_perform_15 : decode cX7_perform 15 = .ok (.iload_n 1, 1) := by decide +kernel
theorem dX7_perform_16 : decode cX7_perform 16 = .ok (.isub, 1) := by decide +kernel
theorem dX7_perform_17 : decode cX7_perform 17 = .ok (.ireturn, 1) := by decide +kernel
theorem dX7_perform_18 : decode cX7_perform 18 = .ok (.aload_n 0, 1) := by decide +kernel
theorem dX7_perform_19 : decode cX7_perform 19 = .ok (.getfield 16, 3) := by decide +kernel
theorem dX7_perform_22 : decode cX7_perform 22 = .ok (.aload_n 0, 1) := by decide +kernel
theorem dX7_perform_23 : decode cX7_perform 23 = .ok (.getfield 12, 3) := by decide +kernel
theorem dX7_perform_26 : decode cX7_perform 26 = .ok (.invokevirtual 39, 3) := by decide +kernel
theorem dX7_perform_29 : decode cX7_perform 29 = .ok (.iconst 0, 1) := by decide +kernel
theorem dX7_perform_30 : decode cX7_perform 30 = .ok (.istore_n 2, 1) := by decide +kernel
theorem dX7_perform_31 : decode cX7_perform 31 = .ok (.iload_n 2, 1) := by decide +kernel
theorem dX7_perform_32 : decode cX7_perform 32 = .ok (.aload_n 0, 1) := by decide +kernel
theorem dX7_perform_33 : decode cX7_perform 33 = .ok (.getfield 35, 3) := by decide +kernel
theorem dX7_perform_36 : decode cX7_perform 36 = .ok (.getfield 78, 3) := by decide +kernel
theorem dX7_perform_39 : decode cX7_perform 39 = .ok (.if_icmp .ge 49, 3) := by decide +kernel
theorem dX7_perform_42 : decode cX7_perform 42 = .ok (.aload_n 0, 1) := by decide +kernel
theorem dX7_perform_43 : decode cX7_perform 43 = .ok (.iload_n 2, 1) := by decide +kernel
theorem dX7_perform_44 : decode cX7_perform 44 = .ok (.invokevirtual 82, 3) := by decide +kernel
theorem dX7_perform_47 : decode cX7_perform 47 = .ok (.istore_n 3, 1) := by decide +kernel
theorem dX7_perform_48 : decode cX7_perform 48 = .ok (.iload_n 3, 1) := by decide +kernel
theorem dX7_perform_49 : decode cX7_perform 49 = .ok (.ifCond .ge 33, 3) := by decide +kernel
theorem dX7_perform_52 : decode cX7_perform 52 = .ok (.iload_n 3, 1) := by decide +kernel
theorem dX7_perform_53 : decode cX7_perform 53 = .ok (.bipush (-5), 2) := by decide +kernel
theorem dX7_perform_55 : decode cX7_perform 55 = .ok (.if_icmp .eq 27, 3) := by decide +kernel
theorem dX7_perform_58 : decode cX7_perform 58 = .ok (.aload_n 0, 1) := by decide +kernel
theorem dX7_perform_59 : decode cX7_perform 59 = .ok (.getfield 12, 3) := by decide +kernel
theorem dX7_perform_62 : decode cX7_perform 62 = .ok (.aload_n 0, 1) := by decide +kernel
theorem dX7_perform_63 : decode cX7_perform 63 = .ok (.getfield 16, 3) := by decide +kernel
theorem dX7_perform_66 : decode cX7_perform 66 = .ok (.invokevirtual 39, 3) := by decide +kernel
theorem dX7_perform_69 : decode cX7_perform 69 = .ok (.aload_n 0, 1) := by decide +kernel
theorem dX7_perform_70 : decode cX7_perform 70 = .ok (.iload_n 2, 1) := by decide +kernel
theorem dX7_perform_71 : decode cX7_perform 71 = .ok (.putfield 85, 3) := by decide +kernel
theorem dX7_perform_74 : decode cX7_perform 74 = .ok (.aload_n 0, 1) := by decide +kernel
theorem dX7_perform_75 : decode cX7_perform 75 = .ok (.iload_n 3, 1) := by decide +kernel
theorem dX7_perform_76 : decode cX7_perform 76 = .ok (.putfield 88, 3) := by decide +kernel
theorem dX7_perform_79 : decode cX7_perform 79 = .ok (.bipush (-4), 2) := by decide +kernel
theorem dX7_perform_81 : decode cX7_perform 81 = .ok (.ireturn, 1) := by decide +kernel
theorem dX7_perform_82 : decode cX7_perform 82 = .ok (.iinc 2 1, 3) := by decide +kernel
theorem dX7_perform_85 : decode cX7_perform 85 = .ok (.goto (-54), 3) := by decide +kernel
theorem dX7_perform_88 : decode cX7_perform 88 = .ok (.aload_n 0, 1) := by decide +kernel
theorem dX7_perform_89 : decode cX7_perform 89 = .ok (.aload_n 0, 1) := by decide +kernel
theorem dX7_perform_90 : decode cX7_perform 90 = .ok (.getfield 35, 3) := by decide +kernel
theorem dX7_perform_93 : decode cX7_perform 93 = .ok (.getfield 78, 3) := by decide +kernel
theorem dX7_perform_96 : decode cX7_perform 96 = .ok (.invokevirtual 47, 3) := by decide +kernel
theorem dX7_perform_99 : decode cX7_perform 99 = .ok (.ireturn, 1) := by decide +kernel
theorem dX7_stopped_0 : decode cX7_stopped 0 = .ok (.iload_n 1, 1) := by decide +kernel
theorem dX7_stopped_1 : decode cX7_stopped 1 = .ok (.ifCond .lt 8, 3) := by decide +kernel
theorem dX7_stopped_4 : decode cX7_stopped 4 = .ok (.iload_n 1, 1) := by decide +kernel
theorem dX7_stopped_5 : decode cX7_stopped 5 = .ok (.iconst 1, 1) := by decide +kernel
theorem dX7_stopped_6 : decode cX7_stopped 6 = .ok (.if_icmp .le 6, 3) := by decide +kernel
theorem dX7_stopped_9 : decode cX7_stopped 9 = .ok (.bipush (-2), 2) := by decide +kernel
theorem dX7_stopped_11 : decode cX7_stopped 11 = .ok (.ireturn, 1) := by decide +kernel
theorem dX7_stopped_12 : decode cX7_stopped 12 = .ok (.aload_n 0, 1) := by decide +kernel
theorem dX7_stopped_13 : decode cX7_stopped 13 = .ok (.getfield 88, 3) := by decide +kernel
theorem dX7_stopped_16 : decode cX7_stopped 16 = .ok (.ifCond .ne 6, 3) := by decide +kernel
theorem dX7_stopped_19 : decode cX7_stopped 19 = .ok (.bipush (-5), 2) := by decide +kernel
theorem dX7_stopped_21 : decode cX7_stopped 21 = .ok (.ireturn, 1) := by decide +kernel
theorem dX7_stopped_22 : decode cX7_stopped 22 = .ok (.iload_n 1, 1) := by decide +kernel
theorem dX7_stopped_23 : decode cX7_stopped 23 = .ok (.ifCond .ne 10, 3) := by decide +kernel
theorem dX7_stopped_26 : decode cX7_stopped 26 = .ok (.aload_n 0, 1) := by decide +kernel
theorem dX7_stopped_27 : decode cX7_stopped 27 = .ok (.getfield 85, 3) := by decide +kernel
theorem dX7_stopped_30 : decode cX7_stopped 30 = .ok (.goto 7, 3) := by decide +kernel
theorem dX7_stopped_33 : decode cX7_stopped 33 = .ok (.aload_n 0, 1) := by decide +kernel
theorem dX7_stopped_34 : decode cX7_stopped 34 = .ok (.getfield 88, 3) := by decide +kernel
theorem dX7_stopped_37 : decode cX7_stopped 37 = .ok (.ireturn, 1) := by decide +kernel
theorem dX7_undo_0 : decode cX7_undo 0 = .ok (.aload_n 0, 1) := by decide +kernel
theorem dX7_undo_1 : decode cX7_undo 1 = .ok (.getfield 28, 3) := by decide +kernel
theorem dX7_undo_4 : decode cX7_undo 4 = .ok (.aload_n 0, 1) := by decide +kernel
theorem dX7_undo_5 : decode cX7_undo 5 = .ok (.getfield 12, 3) := by decide +kernel
theorem dX7_undo_8 : decode cX7_undo 8 = .ok (.invokevirtual 91, 3) := by decide +kernel
theorem dX7_undo_11 : decode cX7_undo 11 = .ok (.ireturn, 1) := by decide +kernel
theorem dX7_keep_0 : decode cX7_keep 0 = .ok (.aload_n 0, 1) := by decide +kernel
theorem dX7_keep_1 : decode cX7_keep 1 = .ok (.getfield 22, 3) := by decide +kernel
theorem dX7_keep_4 : decode cX7_keep 4 = .ok (.aload_n 0, 1) := by decide +kernel
theorem dX7_keep_5 : decode cX7_keep 5 = .ok (.getfield 12, 3) := by decide +kernel
theorem dX7_keep_8 : decode cX7_keep 8 = .ok (.invokevirtual 39, 3) := by decide +kernel
theorem dX7_keep_11 : decode cX7_keep 11 = .ok (.aload_n 0, 1) := by decide +kernel
theorem dX7_keep_12 : decode cX7_keep 12 = .ok (.iconst 1, 1) := by decide +kernel
theorem dX7_keep_13 : decode cX7_keep 13 = .ok (.putfield 95, 3) := by decide +kernel
theorem dX7_keep_16 : decode cX7_keep 16 = .ok (.aload_n 0, 1) := by decide +kernel
theorem dX7_keep_17 : decode cX7_keep 17 = .ok (.getfield 12, 3) := by decide +kernel
theorem dX7_keep_20 : decode cX7_keep 20 = .ok (.getfield 99, 3) := by decide +kernel
theorem dX7_keep_23 : decode cX7_keep 23 = .ok (.invokevirtual 103, 3) := by decide +kernel
theorem dX7_keep_26 : decode cX7_keep 26 = .ok (.ireturn, 1) := by decide +kernel
theorem dX7_restore_0 : decode cX7_restore 0 = .ok (.aload_n 0, 1) := by decide +kernel
theorem dX7_restore_1 : decode cX7_restore 1 = .ok (.getfield 95, 3) := by decide +kernel
theorem dX7_restore_4 : decode cX7_restore 4 = .ok (.ifCond .ne 6, 3) := by decide +kernel
theorem dX7_restore_7 : decode cX7_restore 7 = .ok (.bipush (-5), 2) := by decide +kernel
theorem dX7_restore_9 : decode cX7_restore 9 = .ok (.ireturn, 1) := by decide +kernel
theorem dX7_restore_10 : decode cX7_restore 10 = .ok (.aload_n 0, 1) := by decide +kernel
theorem dX7_restore_11 : decode cX7_restore 11 = .ok (.getfield 16, 3) := by decide +kernel
theorem dX7_restore_14 : decode cX7_restore 14 = .ok (.aload_n 0, 1) := by decide +kernel
theorem dX7_restore_15 : decode cX7_restore 15 = .ok (.getfield 12, 3) := by decide +kernel
theorem dX7_restore_18 : decode cX7_restore 18 = .ok (.invokevirtual 39, 3) := by decide +kernel
theorem dX7_restore_21 : decode cX7_restore 21 = .ok (.aload_n 0, 1) := by decide +kernel
theorem dX7_restore_22 : decode cX7_restore 22 = .ok (.getfield 12, 3) := by decide +kernel
theorem dX7_restore_25 : decode cX7_restore 25 = .ok (.aload_n 0, 1) := by decide +kernel
theorem dX7_restore_26 : decode cX7_restore 26 = .ok (.getfield 22, 3) := by decide +kernel
theorem dX7_restore_29 : decode cX7_restore 29 = .ok (.invokevirtual 39, 3) := by decide +kernel
theorem dX7_restore_32 : decode cX7_restore 32 = .ok (.aload_n 0, 1) := by decide +kernel
theorem dX7_restore_33 : decode cX7_restore 33 = .ok (.aload_n 0, 1) := by decide +kernel
theorem dX7_restore_34 : decode cX7_restore 34 = .ok (.getfield 12, 3) := by decide +kernel
theorem dX7_restore_37 : decode cX7_restore 37 = .ok (.getfield 99, 3) := by decide +kernel
theorem dX7_restore_40 : decode cX7_restore 40 = .ok (.invokevirtual 103, 3) := by decide +kernel
theorem dX7_restore_43 : decode cX7_restore 43 = .ok (.invokevirtual 47, 3) := by decide +kernel
theorem dX7_restore_46 : decode cX7_restore 46 = .ok (.ireturn, 1) := by decide +kernel
theorem dX7_drone_0 : decode cX7_drone 0 = .ok (.aload_n 0, 1) := by decide +kernel
theorem dX7_drone_1 : decode cX7_drone 1 = .ok (.getfield 12, 3) := by decide +kernel
theorem dX7_drone_4 : decode cX7_drone 4 = .ok (.getfield 108, 3) := by decide +kernel
theorem dX7_drone_7 : decode cX7_drone 7 = .ok (.astore_n 3, 1) := by decide +kernel
theorem dX7_drone_8 : decode cX7_drone 8 = .ok (.aload_n 3, 1) := by decide +kernel
theorem dX7_drone_9 : decode cX7_drone 9 = .ok (.iload_n 1, 1) := by decide +kernel
theorem dX7_drone_10 : decode cX7_drone 10 = .ok (.invokevirtual 112, 3) := by decide +kernel
theorem dX7_drone_13 : decode cX7_drone 13 = .ok (.ifCond .ne 5, 3) := by decide +kernel
theorem dX7_drone_16 : decode cX7_drone 16 = .ok (.iconst (-1), 1) := by decide +kernel
theorem dX7_drone_17 : decode cX7_drone 17 = .ok (.ireturn, 1) := by decide +kernel
theorem dX7_drone_18 : decode cX7_drone 18 = .ok (.iload_n 2, 1) := by decide +kernel
theorem dX7_drone_19 : decode cX7_drone 19 = .ok (.tableswitch 100 0 6 #[41, 48, 55, 67, 79, 86, 93], 41) := by decide +kernel
theorem dX7_drone_60 : decode cX7_drone 60 = .ok (.aload_n 3, 1) := by decide +kernel
theorem dX7_drone_61 : decode cX7_drone 61 = .ok (.getfield 118, 3) := by decide +kernel
theorem dX7_drone_64 : decode cX7_drone 64 = .ok (.iload_n 1, 1) := by decide +kernel
theorem dX7_drone_65 : decode cX7_drone 65 = .ok (.iaload, 1) := by decide +kernel
theorem dX7_drone_66 : decode cX7_drone 66 = .ok (.ireturn, 1) := by decide +kernel
theorem dX7_drone_67 : decode cX7_drone 67 = .ok (.aload_n 3, 1) := by decide +kernel
theorem dX7_drone_68 : decode cX7_drone 68 = .ok (.getfield 122, 3) := by decide +kernel
theorem dX7_drone_71 : decode cX7_drone 71 = .ok (.iload_n 1, 1) := by decide +kernel
theorem dX7_drone_72 : decode cX7_drone 72 = .ok (.iaload, 1) := by decide +kernel
theorem dX7_drone_73 : decode cX7_drone 73 = .ok (.ireturn, 1) := by decide +kernel
theorem dX7_drone_74 : decode cX7_drone 74 = .ok (.aload_n 0, 1) := by decide +kernel
theorem dX7_drone_75 : decode cX7_drone 75 = .ok (.getfield 12, 3) := by decide +kernel
theorem dX7_drone_78 : decode cX7_drone 78 = .ok (.getfield 125, 3) := by decide +kernel
theorem dX7_drone_81 : decode cX7_drone 81 = .ok (.iload_n 1, 1) := by decide +kernel
theorem dX7_drone_82 : decode cX7_drone 82 = .ok (.invokevirtual 129, 3) := by decide +kernel
theorem dX7_drone_85 : decode cX7_drone 85 = .ok (.ireturn, 1) := by decide +kernel
theorem dX7_drone_86 : decode cX7_drone 86 = .ok (.aload_n 0, 1) := by decide +kernel
theorem dX7_drone_87 : decode cX7_drone 87 = .ok (.getfield 12, 3) := by decide +kernel
theorem dX7_drone_90 : decode cX7_drone 90 = .ok (.getfield 125, 3) := by decide +kernel
theorem dX7_drone_93 : decode cX7_drone 93 = .ok (.iload_n 1, 1) := by decide +kernel
theorem dX7_drone_94 : decode cX7_drone 94 = .ok (.invokevirtual 134, 3) := by decide +kernel
theorem dX7_drone_97 : decode cX7_drone 97 = .ok (.ireturn, 1) := by decide +kernel
theorem dX7_drone_98 : decode cX7_drone 98 = .ok (.aload_n 3, 1) := by decide +kernel
theorem dX7_drone_99 : decode cX7_drone 99 = .ok (.getfield 137, 3) := by decide +kernel
theorem dX7_drone_102 : decode cX7_drone 102 = .ok (.iload_n 1, 1) := by decide +kernel
theorem dX7_drone_103 : decode cX7_drone 103 = .ok (.iaload, 1) := by decide +kernel
theorem dX7_drone_104 : decode cX7_drone 104 = .ok (.ireturn, 1) := by decide +kernel
theorem dX7_drone_105 : decode cX7_drone 105 = .ok (.aload_n 3, 1) := by decide +kernel
theorem dX7_drone_106 : decode cX7_drone 106 = .ok (.getfield 140, 3) := by decide +kernel
theorem dX7_drone_109 : decode cX7_drone 109 = .ok (.iload_n 1, 1) := by decide +kernel
theorem dX7_drone_110 : decode cX7_drone 110 = .ok (.iaload, 1) := by decide +kernel
theorem dX7_drone_111 : decode cX7_drone 111 = .ok (.ireturn, 1) := by decide +kernel
theorem dX7_drone_112 : decode cX7_drone 112 = .ok (.aload_n 3, 1) := by decide +kernel
theorem dX7_drone_113 : decode cX7_drone 113 = .ok (.getfield 143, 3) := by decide +kernel
theorem dX7_drone_116 : decode cX7_drone 116 = .ok (.iload_n 1, 1) := by decide +kernel
theorem dX7_drone_117 : decode cX7_drone 117 = .ok (.iaload, 1) := by decide +kernel
theorem dX7_drone_118 : decode cX7_drone 118 = .ok (.ireturn, 1) := by decide +kernel
theorem dX7_drone_119 : decode cX7_drone 119 = .ok (.bipush (-2), 2) := by decide +kernel
theorem dX7_drone_121 : decode cX7_drone 121 = .ok (.ireturn, 1) := by decide +kernel
theorem dX7_bylaw_0 : decode cX7_bylaw 0 = .ok (.iload_n 1, 1) := by decide +kernel
theorem dX7_bylaw_1 : decode cX7_bylaw 1 = .ok (.ifCond .lt 12, 3) := by decide +kernel
theorem dX7_bylaw_4 : decode cX7_bylaw 4 = .ok (.iload_n 2, 1) := by decide +kernel
theorem dX7_bylaw_5 : decode cX7_bylaw 5 = .ok (.ifCond .lt 8, 3) := by decide +kernel
theorem dX7_bylaw_8 : decode cX7_bylaw 8 = .ok (.iload_n 2, 1) := by decide +kernel
theorem dX7_bylaw_9 : decode cX7_bylaw 9 = .ok (.iconst 5, 1) := by decide +kernel
theorem dX7_bylaw_10 : decode cX7_bylaw 10 = .ok (.if_icmp .le 6, 3) := by decide +kernel
theorem dX7_bylaw_13 : decode cX7_bylaw 13 = .ok (.bipush (-2), 2) := by decide +kernel
theorem dX7_bylaw_15 : decode cX7_bylaw 15 = .ok (.ireturn, 1) := by decide +kernel
theorem dX7_bylaw_16 : decode cX7_bylaw 16 = .ok (.aload_n 0, 1) := by decide +kernel
theorem dX7_bylaw_17 : decode cX7_bylaw 17 = .ok (.getfield 12, 3) := by decide +kernel
theorem dX7_bylaw_20 : decode cX7_bylaw 20 = .ok (.getfield 99, 3) := by decide +kernel
theorem dX7_bylaw_23 : decode cX7_bylaw 23 = .ok (.astore_n 3, 1) := by decide +kernel
theorem dX7_bylaw_24 : decode cX7_bylaw 24 = .ok (.aload_n 3, 1) := by decide +kernel
theorem dX7_bylaw_25 : decode cX7_bylaw 25 = .ok (.iload_n 1, 1) := by decide +kernel
theorem dX7_bylaw_26 : decode cX7_bylaw 26 = .ok (.invokevirtual 146, 3) := by decide +kernel
theorem dX7_bylaw_29 : decode cX7_bylaw 29 = .ok (.istore 4, 2) := by decide +kernel
theorem dX7_bylaw_31 : decode cX7_bylaw 31 = .ok (.iload 4, 2) := by decide +kernel
theorem dX7_bylaw_33 : decode cX7_bylaw 33 = .ok (.bipush (-5), 2) := by decide +kernel
theorem dX7_bylaw_35 : decode cX7_bylaw 35 = .ok (.if_icmp .ne 6, 3) := by decide +kernel
theorem dX7_bylaw_38 : decode cX7_bylaw 38 = .ok (.bipush (-5), 2) := by decide +kernel
theorem dX7_bylaw_40 : decode cX7_bylaw 40 = .ok (.ireturn, 1) := by decide +kernel
theorem dX7_bylaw_41 : decode cX7_bylaw 41 = .ok (.iload_n 2, 1) := by decide +kernel
theorem dX7_bylaw_42 : decode cX7_bylaw 42 = .ok (.tableswitch 70 0 4 #[34, 40, 46, 54, 62], 34) := by decide +kernel
theorem dX7_bylaw_76 : decode cX7_bylaw 76 = .ok (.iload 4, 2) := by decide +kernel
theorem dX7_bylaw_78 : decode cX7_bylaw 78 = .ok (.bipush 20, 2) := by decide +kernel
theorem dX7_bylaw_80 : decode cX7_bylaw 80 = .ok (.idiv, 1) := by decide +kernel
theorem dX7_bylaw_81 : decode cX7_bylaw 81 = .ok (.ireturn, 1) := by decide +kernel
theorem dX7_bylaw_82 : decode cX7_bylaw 82 = .ok (.iload 4, 2) := by decide +kernel
theorem dX7_bylaw_84 : decode cX7_bylaw 84 = .ok (.bipush 20, 2) := by decide +kernel
theorem dX7_bylaw_86 : decode cX7_bylaw 86 = .ok (.irem, 1) := by decide +kernel
theorem dX7_bylaw_87 : decode cX7_bylaw 87 = .ok (.ireturn, 1) := by decide +kernel
theorem dX7_bylaw_88 : decode cX7_bylaw 88 = .ok (.aload_n 3, 1) := by decide +kernel
theorem dX7_bylaw_89 : decode cX7_bylaw 89 = .ok (.getfield 149, 3) := by decide +kernel
theorem dX7_bylaw_92 : decode cX7_bylaw 92 = .ok (.iload 4, 2) := by decide +kernel
theorem dX7_bylaw_94 : decode cX7_bylaw 94 = .ok (.iaload, 1) := by decide +kernel
theorem dX7_bylaw_95 : decode cX7_bylaw 95 = .ok (.ireturn, 1) := by decide +kernel
theorem dX7_bylaw_96 : decode cX7_bylaw 96 = .ok (.aload_n 3, 1) := by decide +kernel
theorem dX7_bylaw_97 : decode cX7_bylaw 97 = .ok (.getfield 152, 3) := by decide +kernel
theorem dX7_bylaw_100 : decode cX7_bylaw 100 = .ok (.iload 4, 2) := by decide +kernel
theorem dX7_bylaw_102 : decode cX7_bylaw 102 = .ok (.iaload, 1) := by decide +kernel
theorem dX7_bylaw_103 : decode cX7_bylaw 103 = .ok (.ireturn, 1) := by decide +kernel
theorem dX7_bylaw_104 : decode cX7_bylaw 104 = .ok (.aload_n 3, 1) := by decide +kernel
theorem dX7_bylaw_105 : decode cX7_bylaw 105 = .ok (.getfield 155, 3) := by decide +kernel
theorem dX7_bylaw_108 : decode cX7_bylaw 108 = .ok (.iload 4, 2) := by decide +kernel
theorem dX7_bylaw_110 : decode cX7_bylaw 110 = .ok (.iaload, 1) := by decide +kernel
theorem dX7_bylaw_111 : decode cX7_bylaw 111 = .ok (.ireturn, 1) := by decide +kernel
theorem dX7_bylaw_112 : decode cX7_bylaw 112 = .ok (.aload_n 0, 1) := by decide +kernel
theorem dX7_bylaw_113 : decode cX7_bylaw 113 = .ok (.getfield 12, 3) := by decide +kernel
theorem dX7_bylaw_116 : decode cX7_bylaw 116 = .ok (.getfield 108, 3) := by decide +kernel
theorem dX7_bylaw_119 : decode cX7_bylaw 119 = .ok (.iload 4, 2) := by decide +kernel
theorem dX7_bylaw_121 : decode cX7_bylaw 121 = .ok (.bipush 20, 2) := by decide +kernel
theorem dX7_bylaw_123 : decode cX7_bylaw 123 = .ok (.idiv, 1) := by decide +kernel
theorem dX7_bylaw_124 : decode cX7_bylaw 124 = .ok (.invokevirtual 158, 3) := by decide +kernel
theorem dX7_bylaw_127 : decode cX7_bylaw 127 = .ok (.ireturn, 1) := by decide +kernel
theorem dX7_petitionOf_0 : decode cX7_petitionOf 0 = .ok (.aload_n 0, 1) := by decide +kernel
theorem dX7_petitionOf_1 : decode cX7_petitionOf 1 = .ok (.getfield 12, 3) := by decide +kernel
theorem dX7_petitionOf_4 : decode cX7_petitionOf 4 = .ok (.getfield 125, 3) := by decide +kernel
theorem dX7_petitionOf_7 : decode cX7_petitionOf 7 = .ok (.astore_n 3, 1) := by decide +kernel
theorem dX7_petitionOf_8 : decode cX7_petitionOf 8 = .ok (.aload_n 3, 1) := by decide +kernel
theorem dX7_petitionOf_9 : decode cX7_petitionOf 9 = .ok (.iload_n 1, 1) := by decide +kernel
theorem dX7_petitionOf_10 : decode cX7_petitionOf 10 = .ok (.invokevirtual 161, 3) := by decide +kernel
theorem dX7_petitionOf_13 : decode cX7_petitionOf 13 = .ok (.ifCond .ne 5, 3) := by decide +kernel
theorem dX7_petitionOf_16 : decode cX7_petitionOf 16 = .ok (.iconst (-1), 1) := by decide +kernel
theorem dX7_petitionOf_17 : decode cX7_petitionOf 17 = .ok (.ireturn, 1) := by decide +kernel
theorem dX7_petitionOf_18 : decode cX7_petitionOf 18 = .ok (.iload_n 2, 1) := by decide +kernel
theorem dX7_petitionOf_19 : decode cX7_petitionOf 19 = .ok (.tableswitch 79 0 5 #[37, 44, 51, 58, 65, 72], 37) := by decide +kernel
theorem dX7_petitionOf_56 : decode cX7_petitionOf 56 = .ok (.aload_n 3, 1) := by decide +kernel
theorem dX7_petitionOf_57 : decode cX7_petitionOf 57 = .ok (.getfield 164, 3) := by decide +kernel
theorem dX7_petitionOf_60 : decode cX7_petitionOf 60 = .ok (.iload_n 1, 1) := by decide +kernel
theorem dX7_petitionOf_61 : decode cX7_petitionOf 61 = .ok (.iaload, 1) := by decide +kernel
theorem dX7_petitionOf_62 : decode cX7_petitionOf 62 = .ok (.ireturn, 1) := by decide +kernel
theorem dX7_petitionOf_63 : decode cX7_petitionOf 63 = .ok (.aload_n 3, 1) := by decide +kernel
theorem dX7_petitionOf_64 : decode cX7_petitionOf 64 = .ok (.getfield 167, 3) := by decide +kernel
theorem dX7_petitionOf_67 : decode cX7_petitionOf 67 = .ok (.iload_n 1, 1) := by decide +kernel
theorem dX7_petitionOf_68 : decode cX7_petitionOf 68 = .ok (.iaload, 1) := by decide +kernel
theorem dX7_petitionOf_69 : decode cX7_petitionOf 69 = .ok (.ireturn, 1) := by decide +kernel
theorem dX7_petitionOf_70 : decode cX7_petitionOf 70 = .ok (.aload_n 3, 1) := by decide +kernel
theorem dX7_petitionOf_71 : decode cX7_petitionOf 71 = .ok (.getfield 170, 3) := by decide +kernel
theorem dX7_petitionOf_74 : decode cX7_petitionOf 74 = .ok (.iload_n 1, 1) := by decide +kernel
theorem dX7_petitionOf_75 : decode cX7_petitionOf 75 = .ok (.iaload, 1) := by decide +kernel
theorem dX7_petitionOf_76 : decode cX7_petitionOf 76 = .ok (.ireturn, 1) := by decide +kernel
theorem dX7_petitionOf_77 : decode cX7_petitionOf 77 = .ok (.aload_n 3, 1) := by decide +kernel
theorem dX7_petitionOf_78 : decode cX7_petitionOf 78 = .ok (.getfield 173, 3) := by decide +kernel
theorem dX7_petitionOf_81 : decode cX7_petitionOf 81 = .ok (.iload_n 1, 1) := by decide +kernel
theorem dX7_petitionOf_82 : decode cX7_petitionOf 82 = .ok (.iaload, 1) := by decide +kernel
theorem dX7_petitionOf_83 : decode cX7_petitionOf 83 = .ok (.ireturn, 1) := by decide +kernel
theorem dX7_petitionOf_84 : decode cX7_petitionOf 84 = .ok (.aload_n 3, 1) := by decide +kernel
theorem dX7_petitionOf_85 : decode cX7_petitionOf 85 = .ok (.getfield 176, 3) := by decide +kernel
theorem dX7_petitionOf_88 : decode cX7_petitionOf 88 = .ok (.iload_n 1, 1) := by decide +kernel
theorem dX7_petitionOf_89 : decode cX7_petitionOf 89 = .ok (.iaload, 1) := by decide +kernel
theorem dX7_petitionOf_90 : decode cX7_petitionOf 90 = .ok (.ireturn, 1) := by decide +kernel
theorem dX7_petitionOf_91 : decode cX7_petitionOf 91 = .ok (.aload_n 3, 1) := by decide +kernel
theorem dX7_petitionOf_92 : decode cX7_petitionOf 92 = .ok (.getfield 179, 3) := by decide +kernel
theorem dX7_petitionOf_95 : decode cX7_petitionOf 95 = .ok (.iload_n 1, 1) := by decide +kernel
theorem dX7_petitionOf_96 : decode cX7_petitionOf 96 = .ok (.iaload, 1) := by decide +kernel
theorem dX7_petitionOf_97 : decode cX7_petitionOf 97 = .ok (.ireturn, 1) := by decide +kernel
theorem dX7_petitionOf_98 : decode cX7_petitionOf 98 = .ok (.bipush (-2), 2) := by decide +kernel
theorem dX7_petitionOf_100 : decode cX7_petitionOf 100 = .ok (.ireturn, 1) := by decide +kernel
theorem dX7_heard_0 : decode cX7_heard 0 = .ok (.iload_n 1, 1) := by decide +kernel
theorem dX7_heard_1 : decode cX7_heard 1 = .ok (.ifCond .ge 8, 3) := by decide +kernel
theorem dX7_heard_4 : decode cX7_heard 4 = .ok (.bipush (-2), 2) := by decide +kernel
theorem dX7_heard_6 : decode cX7_heard 6 = .ok (.goto 14, 3) := by decide +kernel
theorem dX7_heard_9 : decode cX7_heard 9 = .ok (.aload_n 0, 1) := by decide +kernel
theorem dX7_heard_10 : decode cX7_heard 10 = .ok (.getfield 12, 3) := by decide +kernel
theorem dX7_heard_13 : decode cX7_heard 13 = .ok (.getfield 125, 3) := by decide +kernel
theorem dX7_heard_16 : decode cX7_heard 16 = .ok (.iload_n 1, 1) := by decide +kernel
theorem dX7_heard_17 : decode cX7_heard 17 = .ok (.invokevirtual 182, 3) := by decide +kernel
theorem dX7_heard_20 : decode cX7_heard 20 = .ok (.ireturn, 1) := by decide +kernel
theorem dX7_rule_0 : decode cX7_rule 0 = .ok (.iload_n 1, 1) := by decide +kernel
theorem dX7_rule_1 : decode cX7_rule 1 = .ok (.invokestatic 185, 3) := by decide +kernel
theorem dX7_rule_4 : decode cX7_rule 4 = .ok (.ifCond .eq 10, 3) := by decide +kernel
theorem dX7_rule_7 : decode cX7_rule 7 = .ok (.iload_n 2, 1) := by decide +kernel
theorem dX7_rule_8 : decode cX7_rule 8 = .ok (.invokestatic 188, 3) := by decide +kernel
theorem dX7_rule_11 : decode cX7_rule 11 = .ok (.ifCond .ne 5, 3) := by decide +kernel
theorem dX7_rule_14 : decode cX7_rule 14 = .ok (.iconst (-1), 1) := by decide +kernel
theorem dX7_rule_15 : decode cX7_rule 15 = .ok (.ireturn, 1) := by decide +kernel
theorem dX7_rule_16 : decode cX7_rule 16 = .ok (.iload_n 3, 1) := by decide +kernel
theorem dX7_rule_17 : decode cX7_rule 17 = .ok (.ifCond .lt 8, 3) := by decide +kernel
theorem dX7_rule_20 : decode cX7_rule 20 = .ok (.iload_n 3, 1) := by decide +kernel
theorem dX7_rule_21 : decode cX7_rule 21 = .ok (.iconst 2, 1) := by decide +kernel
theorem dX7_rule_22 : decode cX7_rule 22 = .ok (.if_icmp .le 6, 3) := by decide +kernel
theorem dX7_rule_25 : decode cX7_rule 25 = .ok (.bipush (-2), 2) := by decide +kernel
theorem dX7_rule_27 : decode cX7_rule 27 = .ok (.ireturn, 1) := by decide +kernel
theorem dX7_rule_28 : decode cX7_rule 28 = .ok (.aload_n 0, 1) := by decide +kernel
theorem dX7_rule_29 : decode cX7_rule 29 = .ok (.getfield 12, 3) := by decide +kernel
theorem dX7_rule_32 : decode cX7_rule 32 = .ok (.getfield 99, 3) := by decide +kernel
theorem dX7_rule_35 : decode cX7_rule 35 = .ok (.iload_n 1, 1) := by decide +kernel
theorem dX7_rule_36 : decode cX7_rule 36 = .ok (.iload_n 2, 1) := by decide +kernel
theorem dX7_rule_37 : decode cX7_rule 37 = .ok (.invokevirtual 191, 3) := by decide +kernel
theorem dX7_rule_40 : decode cX7_rule 40 = .ok (.istore 4, 2) := by decide +kernel
theorem dX7_rule_42 : decode cX7_rule 42 = .ok (.iload_n 3, 1) := by decide +kernel
theorem dX7_rule_43 : decode cX7_rule 43 = .ok (.ifCond .ne 24, 3) := by decide +kernel
theorem dX7_rule_46 : decode cX7_rule 46 = .ok (.aload_n 0, 1) := by decide +kernel
theorem dX7_rule_47 : decode cX7_rule 47 = .ok (.getfield 12, 3) := by decide +kernel
theorem dX7_rule_50 : decode cX7_rule 50 = .ok (.getfield 99, 3) := by decide +kernel
theorem dX7_rule_53 : decode cX7_rule 53 = .ok (.iload_n 1, 1) := by decide +kernel
theorem dX7_rule_54 : decode cX7_rule 54 = .ok (.iload_n 2, 1) := by decide +kernel
theorem dX7_rule_55 : decode cX7_rule 55 = .ok (.invokevirtual 194, 3) := by decide +kernel
theorem dX7_rule_58 : decode cX7_rule 58 = .ok (.ifCond .eq 7, 3) := by decide +kernel
theorem dX7_rule_61 : decode cX7_rule 61 = .ok (.iconst 0, 1) := by decide +kernel
theorem dX7_rule_62 : decode cX7_rule 62 = .ok (.goto 4, 3) := by decide +kernel
theorem dX7_rule_65 : decode cX7_rule 65 = .ok (.iconst 1, 1) := by decide +kernel
theorem dX7_rule_66 : decode cX7_rule 66 = .ok (.ireturn, 1) := by decide +kernel
theorem dX7_rule_67 : decode cX7_rule 67 = .ok (.iload_n 3, 1) := by decide +kernel
theorem dX7_rule_68 : decode cX7_rule 68 = .ok (.iconst 1, 1) := by decide +kernel
theorem dX7_rule_69 : decode cX7_rule 69 = .ok (.if_icmp .eq 10, 3) := by decide +kernel
theorem dX7_rule_72 : decode cX7_rule 72 = .ok (.iload 4, 2) := by decide +kernel
theorem dX7_rule_74 : decode cX7_rule 74 = .ok (.bipush (-5), 2) := by decide +kernel
theorem dX7_rule_76 : decode cX7_rule 76 = .ok (.if_icmp .ne 6, 3) := by decide +kernel
theorem dX7_rule_79 : decode cX7_rule 79 = .ok (.iload 4, 2) := by decide +kernel
theorem dX7_rule_81 : decode cX7_rule 81 = .ok (.ireturn, 1) := by decide +kernel
theorem dX7_rule_82 : decode cX7_rule 82 = .ok (.aload_n 0, 1) := by decide +kernel
theorem dX7_rule_83 : decode cX7_rule 83 = .ok (.getfield 12, 3) := by decide +kernel
theorem dX7_rule_86 : decode cX7_rule 86 = .ok (.getfield 99, 3) := by decide +kernel
theorem dX7_rule_89 : decode cX7_rule 89 = .ok (.iload 4, 2) := by decide +kernel
theorem dX7_rule_91 : decode cX7_rule 91 = .ok (.iload_n 2, 1) := by decide +kernel
theorem dX7_rule_92 : decode cX7_rule 92 = .ok (.invokevirtual 198, 3) := by decide +kernel
theorem dX7_rule_95 : decode cX7_rule 95 = .ok (.ireturn, 1) := by decide +kernel
theorem dX7_reason_0 : decode cX7_reason 0 = .ok (.aload_n 0, 1) := by decide +kernel
theorem dX7_reason_1 : decode cX7_reason 1 = .ok (.getfield 12, 3) := by decide +kernel
theorem dX7_reason_4 : decode cX7_reason 4 = .ok (.getfield 125, 3) := by decide +kernel
theorem dX7_reason_7 : decode cX7_reason 7 = .ok (.iload_n 1, 1) := by decide +kernel
theorem dX7_reason_8 : decode cX7_reason 8 = .ok (.invokevirtual 161, 3) := by decide +kernel
theorem dX7_reason_11 : decode cX7_reason 11 = .ok (.ifCond .ne 5, 3) := by decide +kernel
theorem dX7_reason_14 : decode cX7_reason 14 = .ok (.iconst (-1), 1) := by decide +kernel
theorem dX7_reason_15 : decode cX7_reason 15 = .ok (.ireturn, 1) := by decide +kernel
theorem dX7_reason_16 : decode cX7_reason 16 = .ok (.aload_n 0, 1) := by decide +kernel
theorem dX7_reason_17 : decode cX7_reason 17 = .ok (.getfield 19, 3) := by decide +kernel
theorem dX7_reason_20 : decode cX7_reason 20 = .ok (.aload_n 0, 1) := by decide +kernel
theorem dX7_reason_21 : decode cX7_reason 21 = .ok (.getfield 12, 3) := by decide +kernel
theorem dX7_reason_24 : decode cX7_reason 24 = .ok (.invokevirtual 39, 3) := by decide +kernel
theorem dX7_reason_27 : decode cX7_reason 27 = .ok (.aload_n 0, 1) := by decide +kernel
theorem dX7_reason_28 : decode cX7_reason 28 = .ok (.getfield 19, 3) := by decide +kernel
theorem dX7_reason_31 : decode cX7_reason 31 = .ok (.invokevirtual 201, 3) := by decide +kernel
theorem dX7_reason_34 : decode cX7_reason 34 = .ok (.pop, 1) := by decide +kernel
theorem dX7_reason_35 : decode cX7_reason 35 = .ok (.aload_n 0, 1) := by decide +kernel
theorem dX7_reason_36 : decode cX7_reason 36 = .ok (.getfield 19, 3) := by decide +kernel
theorem dX7_reason_39 : decode cX7_reason 39 = .ok (.getfield 204, 3) := by decide +kernel
theorem dX7_reason_42 : decode cX7_reason 42 = .ok (.iload_n 1, 1) := by decide +kernel
theorem dX7_reason_43 : decode cX7_reason 43 = .ok (.iaload, 1) := by decide +kernel
theorem dX7_reason_44 : decode cX7_reason 44 = .ok (.ireturn, 1) := by decide +kernel
theorem dX7_wouldPass_0 : decode cX7_wouldPass 0 = .ok (.aload_n 0, 1) := by decide +kernel
theorem dX7_wouldPass_1 : decode cX7_wouldPass 1 = .ok (.getfield 19, 3) := by decide +kernel
theorem dX7_wouldPass_4 : decode cX7_wouldPass 4 = .ok (.aload_n 0, 1) := by decide +kernel
theorem dX7_wouldPass_5 : decode cX7_wouldPass 5 = .ok (.getfield 12, 3) := by decide +kernel
theorem dX7_wouldPass_8 : decode cX7_wouldPass 8 = .ok (.invokevirtual 39, 3) := by decide +kernel
theorem dX7_wouldPass_11 : decode cX7_wouldPass 11 = .ok (.aload_n 0, 1) := by decide +kernel
theorem dX7_wouldPass_12 : decode cX7_wouldPass 12 = .ok (.getfield 19, 3) := by decide +kernel
theorem dX7_wouldPass_15 : decode cX7_wouldPass 15 = .ok (.invokevirtual 201, 3) := by decide +kernel
theorem dX7_wouldPass_18 : decode cX7_wouldPass 18 = .ok (.pop, 1) := by decide +kernel
theorem dX7_wouldPass_19 : decode cX7_wouldPass 19 = .ok (.iconst 0, 1) := by decide +kernel
theorem dX7_wouldPass_20 : decode cX7_wouldPass 20 = .ok (.istore_n 1, 1) := by decide +kernel
theorem dX7_wouldPass_21 : decode cX7_wouldPass 21 = .ok (.iconst 0, 1) := by decide +kernel
theorem dX7_wouldPass_22 : decode cX7_wouldPass 22 = .ok (.istore_n 2, 1) := by decide +kernel
theorem dX7_wouldPass_23 : decode cX7_wouldPass 23 = .ok (.iload_n 2, 1) := by decide +kernel
theorem dX7_wouldPass_24 : decode cX7_wouldPass 24 = .ok (.aload_n 0, 1) := by decide +kernel
theorem dX7_wouldPass_25 : decode cX7_wouldPass 25 = .ok (.getfield 12, 3) := by decide +kernel
theorem dX7_wouldPass_28 : decode cX7_wouldPass 28 = .ok (.getfield 125, 3) := by decide +kernel
theorem dX7_wouldPass_31 : decode cX7_wouldPass 31 = .ok (.getfield 207, 3) := by decide +kernel
theorem dX7_wouldPass_34 : decode cX7_wouldPass 34 = .ok (.if_icmp .ge 27, 3) := by decide +kernel
theorem dX7_wouldPass_37 : decode cX7_wouldPass 37 = .ok (.aload_n 0, 1) := by decide +kernel
theorem dX7_wouldPass_38 : decode cX7_wouldPass 38 = .ok (.getfield 19, 3) := by decide +kernel
theorem dX7_wouldPass_41 : decode cX7_wouldPass 41 = .ok (.getfield 204, 3) := by decide +kernel
theorem dX7_wouldPass_44 : decode cX7_wouldPass 44 = .ok (.iload_n 2, 1) := by decide +kernel
theorem dX7_wouldPass_45 : decode cX7_wouldPass 45 = .ok (.iaload, 1) := by decide +kernel
theorem dX7_wouldPass_46 : decode cX7_wouldPass 46 = .ok (.ifCond .ne 9, 3) := by decide +kernel
theorem dX7_wouldPass_49 : decode cX7_wouldPass 49 = .ok (.iload_n 1, 1) := by decide +kernel
theorem dX7_wouldPass_50 : decode cX7_wouldPass 50 = .ok (.iconst 1, 1) := by decide +kernel
theorem dX7_wouldPass_51 : decode cX7_wouldPass 51 = .ok (.iload_n 2, 1) := by decide +kernel
theorem dX7_wouldPass_52 : decode cX7_wouldPass 52 = .ok (.ishl, 1) := by decide +kernel
theorem dX7_wouldPass_53 : decode cX7_wouldPass 53 = .ok (.ior, 1) := by decide +kernel
theorem dX7_wouldPass_54 : decode cX7_wouldPass 54 = .ok (.istore_n 1, 1) := by decide +kernel
theorem dX7_wouldPass_55 : decode cX7_wouldPass 55 = .ok (.iinc 2 1, 3) := by decide +kernel
theorem dX7_wouldPass_58 : decode cX7_wouldPass 58 = .ok (.goto (-35), 3) := by decide +kernel
theorem dX7_wouldPass_61 : decode cX7_wouldPass 61 = .ok (.iload_n 1, 1) := by decide +kernel
theorem dX7_wouldPass_62 : decode cX7_wouldPass 62 = .ok (.ireturn, 1) := by decide +kernel
theorem dX7_lacks_0 : decode cX7_lacks 0 = .ok (.aload_n 0, 1) := by decide +kernel
theorem dX7_lacks_1 : decode cX7_lacks 1 = .ok (.getfield 12, 3) := by decide +kernel
theorem dX7_lacks_4 : decode cX7_lacks 4 = .ok (.getfield 125, 3) := by decide +kernel
theorem dX7_lacks_7 : decode cX7_lacks 7 = .ok (.iload_n 1, 1) := by decide +kernel
theorem dX7_lacks_8 : decode cX7_lacks 8 = .ok (.invokevirtual 161, 3) := by decide +kernel
theorem dX7_lacks_11 : decode cX7_lacks 11 = .ok (.ifCond .ne 5, 3) := by decide +kernel
theorem dX7_lacks_14 : decode cX7_lacks 14 = .ok (.iconst (-1), 1) := by decide +kernel
theorem dX7_lacks_15 : decode cX7_lacks 15 = .ok (.ireturn, 1) := by decide +kernel
theorem dX7_lacks_16 : decode cX7_lacks 16 = .ok (.aload_n 0, 1) := by decide +kernel
theorem dX7_lacks_17 : decode cX7_lacks 17 = .ok (.getfield 12, 3) := by decide +kernel
theorem dX7_lacks_20 : decode cX7_lacks 20 = .ok (.getfield 125, 3) := by decide +kernel
theorem dX7_lacks_23 : decode cX7_lacks 23 = .ok (.getfield 176, 3) := by decide +kernel
theorem dX7_lacks_26 : decode cX7_lacks 26 = .ok (.iload_n 1, 1) := by decide +kernel
theorem dX7_lacks_27 : decode cX7_lacks 27 = .ok (.iaload, 1) := by decide +kernel
theorem dX7_lacks_28 : decode cX7_lacks 28 = .ok (.istore_n 2, 1) := by decide +kernel
theorem dX7_lacks_29 : decode cX7_lacks 29 = .ok (.iconst 0, 1) := by decide +kernel
theorem dX7_lacks_30 : decode cX7_lacks 30 = .ok (.istore_n 3, 1) := by decide +kernel
theorem dX7_lacks_31 : decode cX7_lacks 31 = .ok (.iload_n 3, 1) := by decide +kernel
theorem dX7_lacks_32 : decode cX7_lacks 32 = .ok (.bipush 120, 2) := by decide +kernel
theorem dX7_lacks_34 : decode cX7_lacks 34 = .ok (.if_icmp .gt 25, 3) := by decide +kernel
theorem dX7_lacks_37 : decode cX7_lacks 37 = .ok (.aload_n 0, 1) := by decide +kernel
theorem dX7_lacks_38 : decode cX7_lacks 38 = .ok (.getfield 12, 3) := by decide +kernel
theorem dX7_lacks_41 : decode cX7_lacks 41 = .ok (.iload_n 1, 1) := by decide +kernel
theorem dX7_lacks_42 : decode cX7_lacks 42 = .ok (.iload_n 2, 1) := by decide +kernel
theorem dX7_lacks_43 : decode cX7_lacks 43 = .ok (.iload_n 3, 1) := by decide +kernel
theorem dX7_lacks_44 : decode cX7_lacks 44 = .ok (.iadd, 1) := by decide +kernel
theorem dX7_lacks_45 : decode cX7_lacks 45 = .ok (.invokevirtual 209, 3) := by decide +kernel
theorem dX7_lacks_48 : decode cX7_lacks 48 = .ok (.ifCond .ne 5, 3) := by decide +kernel
theorem dX7_lacks_51 : decode cX7_lacks 51 = .ok (.iload_n 3, 1) := by decide +kernel
theorem dX7_lacks_52 : decode cX7_lacks 52 = .ok (.ireturn, 1) := by decide +kernel
theorem dX7_lacks_53 : decode cX7_lacks 53 = .ok (.iinc 3 1, 3) := by decide +kernel
theorem dX7_lacks_56 : decode cX7_lacks 56 = .ok (.goto (-25), 3) := by decide +kernel
theorem dX7_lacks_59 : decode cX7_lacks 59 = .ok (.bipush (-5), 2) := by decide +kernel
theorem dX7_lacks_61 : decode cX7_lacks 61 = .ok (.ireturn, 1) := by decide +kernel
theorem dX7_free_0 : decode cX7_free 0 = .ok (.iconst 1, 1) := by decide +kernel
theorem dX7_free_1 : decode cX7_free 1 = .ok (.aload_n 0, 1) := by decide +kernel
theorem dX7_free_2 : decode cX7_free 2 = .ok (.getfield 12, 3) := by decide +kernel
theorem dX7_free_5 : decode cX7_free 5 = .ok (.getfield 108, 3) := by decide +kernel
theorem dX7_free_8 : decode cX7_free 8 = .ok (.getfield 212, 3) := by decide +kernel
theorem dX7_free_11 : decode cX7_free 11 = .ok (.ishl, 1) := by decide +kernel
theorem dX7_free_12 : decode cX7_free 12 = .ok (.iconst 1, 1) := by decide +kernel
theorem dX7_free_13 : decode cX7_free 13 = .ok (.isub, 1) := by decide +kernel
theorem dX7_free_14 : decode cX7_free 14 = .ok (.istore_n 1, 1) := by decide +kernel
theorem dX7_free_15 : decode cX7_free 15 = .ok (.iload_n 1, 1) := by decide +kernel
theorem dX7_free_16 : decode cX7_free 16 = .ok (.aload_n 0, 1) := by decide +kernel
theorem dX7_free_17 : decode cX7_free 17 = .ok (.getfield 12, 3) := by decide +kernel
theorem dX7_free_20 : decode cX7_free 20 = .ok (.getfield 125, 3) := by decide +kernel
theorem dX7_free_23 : decode cX7_free 23 = .ok (.invokevirtual 213, 3) := by decide +kernel
theorem dX7_free_26 : decode cX7_free 26 = .ok (.iconst (-1), 1) := by decide +kernel
theorem dX7_free_27 : decode cX7_free 27 = .ok (.ixor, 1) := by decide +kernel
theorem dX7_free_28 : decode cX7_free 28 = .ok (.iand, 1) := by decide +kernel
theorem dX7_free_29 : decode cX7_free 29 = .ok (.ireturn, 1) := by decide +kernel
theorem dX7_oldest_0 : decode cX7_oldest 0 = .ok (.aload_n 0, 1) := by decide +kernel
theorem dX7_oldest_1 : decode cX7_oldest 1 = .ok (.getfield 12, 3) := by decide +kernel
theorem dX7_oldest_4 : decode cX7_oldest 4 = .ok (.getfield 108, 3) := by decide +kernel
theorem dX7_oldest_7 : decode cX7_oldest 7 = .ok (.iload_n 1, 1) := by decide +kernel
theorem dX7_oldest_8 : decode cX7_oldest 8 = .ok (.invokevirtual 112, 3) := by decide +kernel
theorem dX7_oldest_11 : decode cX7_oldest 11 = .ok (.ifCond .ne 5, 3) := by decide +kernel
theorem dX7_oldest_14 : decode cX7_oldest 14 = .ok (.iconst (-1), 1) := by decide +kernel
theorem dX7_oldest_15 : decode cX7_oldest 15 = .ok (.ireturn, 1) := by decide +kernel
theorem dX7_oldest_16 : decode cX7_oldest 16 = .ok (.iload_n 2, 1) := by decide +kernel
theorem dX7_oldest_17 : decode cX7_oldest 17 = .ok (.ifCond .lt 8, 3) := by decide +kernel
theorem dX7_oldest_20 : decode cX7_oldest 20 = .ok (.iload_n 2, 1) := by decide +kernel
theorem dX7_oldest_21 : decode cX7_oldest 21 = .ok (.iconst 1, 1) := by decide +kernel
theorem dX7_oldest_22 : decode cX7_oldest 22 = .ok (.if_icmp .le 6, 3) := by decide +kernel
theorem dX7_oldest_25 : decode cX7_oldest 25 = .ok (.bipush (-2), 2) := by decide +kernel
theorem dX7_oldest_27 : decode cX7_oldest 27 = .ok (.ireturn, 1) := by decide +kernel
theorem dX7_oldest_28 : decode cX7_oldest 28 = .ok (.aload_n 0, 1) := by decide +kernel
theorem dX7_oldest_29 : decode cX7_oldest 29 = .ok (.getfield 12, 3) := by decide +kernel
theorem dX7_oldest_32 : decode cX7_oldest 32 = .ok (.getfield 99, 3) := by decide +kernel
theorem dX7_oldest_35 : decode cX7_oldest 35 = .ok (.aload_n 0, 1) := by decide +kernel
theorem dX7_oldest_36 : decode cX7_oldest 36 = .ok (.getfield 12, 3) := by decide +kernel
theorem dX7_oldest_39 : decode cX7_oldest 39 = .ok (.getfield 108, 3) := by decide +kernel
theorem dX7_oldest_42 : decode cX7_oldest 42 = .ok (.getfield 118, 3) := by decide +kernel
theorem dX7_oldest_45 : decode cX7_oldest 45 = .ok (.iload_n 1, 1) := by decide +kernel
theorem dX7_oldest_46 : decode cX7_oldest 46 = .ok (.iaload, 1) := by decide +kernel
theorem dX7_oldest_47 : decode cX7_oldest 47 = .ok (.invokevirtual 216, 3) := by decide +kernel
theorem dX7_oldest_50 : decode cX7_oldest 50 = .ok (.istore_n 3, 1) := by decide +kernel
theorem dX7_oldest_51 : decode cX7_oldest 51 = .ok (.iload_n 3, 1) := by decide +kernel
theorem dX7_oldest_52 : decode cX7_oldest 52 = .ok (.bipush (-5), 2) := by decide +kernel
theorem dX7_oldest_54 : decode cX7_oldest 54 = .ok (.if_icmp .ne 6, 3) := by decide +kernel
theorem dX7_oldest_57 : decode cX7_oldest 57 = .ok (.bipush (-5), 2) := by decide +kernel
theorem dX7_oldest_59 : decode cX7_oldest 59 = .ok (.ireturn, 1) := by decide +kernel
theorem dX7_oldest_60 : decode cX7_oldest 60 = .ok (.iload_n 2, 1) := by decide +kernel
theorem dX7_oldest_61 : decode cX7_oldest 61 = .ok (.ifCond .ne 17, 3) := by decide +kernel
theorem dX7_oldest_64 : decode cX7_oldest 64 = .ok (.aload_n 0, 1) := by decide +kernel
theorem dX7_oldest_65 : decode cX7_oldest 65 = .ok (.getfield 12, 3) := by decide +kernel
theorem dX7_oldest_68 : decode cX7_oldest 68 = .ok (.getfield 99, 3) := by decide +kernel
theorem dX7_oldest_71 : decode cX7_oldest 71 = .ok (.iload_n 3, 1) := by decide +kernel
theorem dX7_oldest_72 : decode cX7_oldest 72 = .ok (.invokevirtual 219, 3) := by decide +kernel
theorem dX7_oldest_75 : decode cX7_oldest 75 = .ok (.goto 15, 3) := by decide +kernel
theorem dX7_oldest_78 : decode cX7_oldest 78 = .ok (.aload_n 0, 1) := by decide +kernel
theorem dX7_oldest_79 : decode cX7_oldest 79 = .ok (.getfield 12, 3) := by decide +kernel
theorem dX7_oldest_82 : decode cX7_oldest 82 = .ok (.getfield 99, 3) := by decide +kernel
theorem dX7_oldest_85 : decode cX7_oldest 85 = .ok (.getfield 155, 3) := by decide +kernel
theorem dX7_oldest_88 : decode cX7_oldest 88 = .ok (.iload_n 3, 1) := by decide +kernel
theorem dX7_oldest_89 : decode cX7_oldest 89 = .ok (.iaload, 1) := by decide +kernel
theorem dX7_oldest_90 : decode cX7_oldest 90 = .ok (.ireturn, 1) := by decide +kernel
theorem dX7_count_0 : decode cX7_count 0 = .ok (.iload_n 1, 1) := by decide +kernel
theorem dX7_count_1 : decode cX7_count 1 = .ok (.tableswitch 244 0 15 #[79, 87, 95, 103, 114, 125, 136, 147, 161, 175, 189, 197, 208, 218, 228, 236], 79) := by decide +kernel
theorem dX7_count_80 : decode cX7_count 80 = .ok (.aload_n 0, 1) := by decide +kernel
theorem dX7_count_81 : decode cX7_count 81 = .ok (.getfield 12, 3) := by decide +kernel
theorem dX7_count_84 : decode cX7_count 84 = .ok (.getfield 222, 3) := by decide +kernel
theorem dX7_count_87 : decode cX7_count 87 = .ok (.ireturn, 1) := by decide +kernel
theorem dX7_count_88 : decode cX7_count 88 = .ok (.aload_n 0, 1) := by decide +kernel
theorem dX7_count_89 : decode cX7_count 89 = .ok (.getfield 12, 3) := by decide +kernel
theorem dX7_count_92 : decode cX7_count 92 = .ok (.getfield 225, 3) := by decide +kernel
theorem dX7_count_95 : decode cX7_count 95 = .ok (.ireturn, 1) := by decide +kernel
theorem dX7_count_96 : decode cX7_count 96 = .ok (.aload_n 0, 1) := by decide +kernel
theorem dX7_count_97 : decode cX7_count 97 = .ok (.getfield 12, 3) := by decide +kernel
theorem dX7_count_100 : decode cX7_count 100 = .ok (.getfield 227, 3) := by decide +kernel
theorem dX7_count_103 : decode cX7_count 103 = .ok (.ireturn, 1) := by decide +kernel
theorem dX7_count_104 : decode cX7_count 104 = .ok (.aload_n 0, 1) := by decide +kernel
theorem dX7_count_105 : decode cX7_count 105 = .ok (.getfield 12, 3) := by decide +kernel
theorem dX7_count_108 : decode cX7_count 108 = .ok (.getfield 108, 3) := by decide +kernel
theorem dX7_count_111 : decode cX7_count 111 = .ok (.getfield 212, 3) := by decide +kernel
theorem dX7_count_114 : decode cX7_count 114 = .ok (.ireturn, 1) := by decide +kernel
theorem dX7_count_115 : decode cX7_count 115 = .ok (.aload_n 0, 1) := by decide +kernel
theorem dX7_count_116 : decode cX7_count 116 = .ok (.getfield 12, 3) := by decide +kernel
theorem dX7_count_119 : decode cX7_count 119 = .ok (.getfield 99, 3) := by decide +kernel
theorem dX7_count_122 : decode cX7_count 122 = .ok (.invokevirtual 103, 3) := by decide +kernel
theorem dX7_count_125 : decode cX7_count 125 = .ok (.ireturn, 1) := by decide +kernel
theorem dX7_count_126 : decode cX7_count 126 = .ok (.aload_n 0, 1) := by decide +kernel
theorem dX7_count_127 : decode cX7_count 127 = .ok (.getfield 12, 3) := by decide +kernel
theorem dX7_count_130 : decode cX7_count 130 = .ok (.getfield 99, 3) := by decide +kernel
theorem dX7_count_133 : decode cX7_count 133 = .ok (.invokevirtual 230, 3) := by decide +kernel
theorem dX7_count_136 : decode cX7_count 136 = .ok (.ireturn, 1) := by decide +kernel
theorem dX7_count_137 : decode cX7_count 137 = .ok (.aload_n 0, 1) := by decide +kernel
theorem dX7_count_138 : decode cX7_count 138 = .ok (.getfield 12, 3) := by decide +kernel
theorem dX7_count_141 : decode cX7_count 141 = .ok (.getfield 125, 3) := by decide +kernel
theorem dX7_count_144 : decode cX7_count 144 = .ok (.getfield 207, 3) := by decide +kernel
theorem dX7_count_147 : decode cX7_count 147 = .ok (.ireturn, 1) := by decide +kernel
theorem dX7_count_148 : decode cX7_count 148 = .ok (.aload_n 0, 1) := by decide +kernel
theorem dX7_count_149 : decode cX7_count 149 = .ok (.getfield 12, 3) := by decide +kernel
theorem dX7_count_152 : decode cX7_count 152 = .ok (.getfield 108, 3) := by decide +kernel
theorem dX7_count_155 : decode cX7_count 155 = .ok (.getfield 137, 3) := by decide +kernel
theorem dX7_count_158 : decode cX7_count 158 = .ok (.invokestatic 233, 3) := by decide +kernel
theorem dX7_count_161 : decode cX7_count 161 = .ok (.ireturn, 1) := by decide +kernel
theorem dX7_count_162 : decode cX7_count 162 = .ok (.aload_n 0, 1) := by decide +kernel
theorem dX7_count_163 : decode cX7_count 163 = .ok (.getfield 12, 3) := by decide +kernel
theorem dX7_count_166 : decode cX7_count 166 = .ok (.getfield 108, 3) := by decide +kernel
theorem dX7_count_169 : decode cX7_count 169 = .ok (.getfield 140, 3) := by decide +kernel
theorem dX7_count_172 : decode cX7_count 172 = .ok (.invokestatic 233, 3) := by decide +kernel
theorem dX7_count_175 : decode cX7_count 175 = .ok (.ireturn, 1) := by decide +kernel
theorem dX7_count_176 : decode cX7_count 176 = .ok (.aload_n 0, 1) := by decide +kernel
theorem dX7_count_177 : decode cX7_count 177 = .ok (.getfield 12, 3) := by decide +kernel
theorem dX7_count_180 : decode cX7_count 180 = .ok (.getfield 108, 3) := by decide +kernel
theorem dX7_count_183 : decode cX7_count 183 = .ok (.getfield 143, 3) := by decide +kernel
theorem dX7_count_186 : decode cX7_count 186 = .ok (.invokestatic 233, 3) := by decide +kernel
theorem dX7_count_189 : decode cX7_count 189 = .ok (.ireturn, 1) := by decide +kernel
theorem dX7_count_190 : decode cX7_count 190 = .ok (.aload_n 0, 1) := by decide +kernel
theorem dX7_count_191 : decode cX7_count 191 = .ok (.getfield 12, 3) := by decide +kernel
theorem dX7_count_194 : decode cX7_count 194 = .ok (.getfield 237, 3) := by decide +kernel
theorem dX7_count_197 : decode cX7_count 197 = .ok (.ireturn, 1) := by decide +kernel
theorem dX7_count_198 : decode cX7_count 198 = .ok (.aload_n 0, 1) := by decide +kernel
theorem dX7_count_199 : decode cX7_count 199 = .ok (.getfield 12, 3) := by decide +kernel
theorem dX7_count_202 : decode cX7_count 202 = .ok (.getfield 99, 3) := by decide +kernel
theorem dX7_count_205 : decode cX7_count 205 = .ok (.invokevirtual 240, 3) := by decide +kernel
theorem dX7_count_208 : decode cX7_count 208 = .ok (.ireturn, 1) := by decide +kernel
theorem dX7_count_209 : decode cX7_count 209 = .ok (.aload_n 0, 1) := by decide +kernel
theorem dX7_count_210 : decode cX7_count 210 = .ok (.getfield 12, 3) := by decide +kernel
theorem dX7_count_213 : decode cX7_count 213 = .ok (.getfield 243, 3) := by decide +kernel
theorem dX7_count_216 : decode cX7_count 216 = .ok (.iconst 0, 1) := by decide +kernel
theorem dX7_count_217 : decode cX7_count 217 = .ok (.iaload, 1) := by decide +kernel
theorem dX7_count_218 : decode cX7_count 218 = .ok (.ireturn, 1) := by decide +kernel
theorem dX7_count_219 : decode cX7_count 219 = .ok (.aload_n 0, 1) := by decide +kernel
theorem dX7_count_220 : decode cX7_count 220 = .ok (.getfield 12, 3) := by decide +kernel
theorem dX7_count_223 : decode cX7_count 223 = .ok (.getfield 243, 3) := by decide +kernel
theorem dX7_count_226 : decode cX7_count 226 = .ok (.iconst 1, 1) := by decide +kernel
theorem dX7_count_227 : decode cX7_count 227 = .ok (.iaload, 1) := by decide +kernel
theorem dX7_count_228 : decode cX7_count 228 = .ok (.ireturn, 1) := by decide +kernel
theorem dX7_count_229 : decode cX7_count 229 = .ok (.aload_n 0, 1) := by decide +kernel
theorem dX7_count_230 : decode cX7_count 230 = .ok (.getfield 28, 3) := by decide +kernel
theorem dX7_count_233 : decode cX7_count 233 = .ok (.getfield 246, 3) := by decide +kernel
theorem dX7_count_236 : decode cX7_count 236 = .ok (.ireturn, 1) := by decide +kernel
theorem dX7_count_237 : decode cX7_count 237 = .ok (.aload_n 0, 1) := by decide +kernel
theorem dX7_count_238 : decode cX7_count 238 = .ok (.getfield 35, 3) := by decide +kernel
theorem dX7_count_241 : decode cX7_count 241 = .ok (.getfield 247, 3) := by decide +kernel
theorem dX7_count_244 : decode cX7_count 244 = .ok (.ireturn, 1) := by decide +kernel
theorem dX7_count_245 : decode cX7_count 245 = .ok (.bipush (-2), 2) := by decide +kernel
theorem dX7_count_247 : decode cX7_count 247 = .ok (.ireturn, 1) := by decide +kernel
theorem dX7_isComb_0 : decode cX7_isComb 0 = .ok (.iload_n 0, 1) := by decide +kernel
theorem dX7_isComb_1 : decode cX7_isComb 1 = .ok (.ifCond .lt 13, 3) := by decide +kernel
theorem dX7_isComb_4 : decode cX7_isComb 4 = .ok (.iload_n 0, 1) := by decide +kernel
theorem dX7_isComb_5 : decode cX7_isComb 5 = .ok (.bipush 6, 2) := by decide +kernel
theorem dX7_isComb_7 : decode cX7_isComb 7 = .ok (.if_icmp .ge 7, 3) := by decide +kernel
theorem dX7_isComb_10 : decode cX7_isComb 10 = .ok (.iconst 1, 1) := by decide +kernel
theorem dX7_isComb_11 : decode cX7_isComb 11 = .ok (.goto 4, 3) := by decide +kernel
theorem dX7_isComb_14 : decode cX7_isComb 14 = .ok (.iconst 0, 1) := by decide +kernel
theorem dX7_isComb_15 : decode cX7_isComb 15 = .ok (.ireturn, 1) := by decide +kernel
theorem dX7_isPlace_0 : decode cX7_isPlace 0 = .ok (.iload_n 0, 1) := by decide +kernel
theorem dX7_isPlace_1 : decode cX7_isPlace 1 = .ok (.ifCond .lt 13, 3) := by decide +kernel
theorem dX7_isPlace_4 : decode cX7_isPlace 4 = .ok (.iload_n 0, 1) := by decide +kernel
theorem dX7_isPlace_5 : decode cX7_isPlace 5 = .ok (.bipush 7, 2) := by decide +kernel
theorem dX7_isPlace_7 : decode cX7_isPlace 7 = .ok (.if_icmp .ge 7, 3) := by decide +kernel
theorem dX7_isPlace_10 : decode cX7_isPlace 10 = .ok (.iconst 1, 1) := by decide +kernel
theorem dX7_isPlace_11 : decode cX7_isPlace 11 = .ok (.goto 4, 3) := by decide +kernel
theorem dX7_isPlace_14 : decode cX7_isPlace 14 = .ok (.iconst 0, 1) := by decide +kernel
theorem dX7_isPlace_15 : decode cX7_isPlace 15 = .ok (.ireturn, 1) := by decide +kernel
theorem dX7_isDoing_0 : decode cX7_isDoing 0 = .ok (.iload_n 0, 1) := by decide +kernel
theorem dX7_isDoing_1 : decode cX7_isDoing 1 = .ok (.ifCond .lt 13, 3) := by decide +kernel
theorem dX7_isDoing_4 : decode cX7_isDoing 4 = .ok (.iload_n 0, 1) := by decide +kernel
theorem dX7_isDoing_5 : decode cX7_isDoing 5 = .ok (.bipush 20, 2) := by decide +kernel
theorem dX7_isDoing_7 : decode cX7_isDoing 7 = .ok (.if_icmp .ge 7, 3) := by decide +kernel
theorem dX7_isDoing_10 : decode cX7_isDoing 10 = .ok (.iconst 1, 1) := by decide +kernel
theorem dX7_isDoing_11 : decode cX7_isDoing 11 = .ok (.goto 4, 3) := by decide +kernel
theorem dX7_isDoing_14 : decode cX7_isDoing 14 = .ok (.iconst 0, 1) := by decide +kernel
theorem dX7_isDoing_15 : decode cX7_isDoing 15 = .ok (.ireturn, 1) := by decide +kernel
theorem dX7_sum_0 : decode cX7_sum 0 = .ok (.iconst 0, 1) := by decide +kernel
theorem dX7_sum_1 : decode cX7_sum 1 = .ok (.istore_n 1, 1) := by decide +kernel
theorem dX7_sum_2 : decode cX7_sum 2 = .ok (.aload_n 0, 1) := by decide +kernel
theorem dX7_sum_3 : decode cX7_sum 3 = .ok (.astore_n 2, 1) := by decide +kernel
theorem dX7_sum_4 : decode cX7_sum 4 = .ok (.aload_n 2, 1) := by decide +kernel
theorem dX7_sum_5 : decode cX7_sum 5 = .ok (.arraylength, 1) := by decide +kernel
theorem dX7_sum_6 : decode cX7_sum 6 = .ok (.istore_n 3, 1) := by decide +kernel
theorem dX7_sum_7 : decode cX7_sum 7 = .ok (.iconst 0, 1) := by decide +kernel
theorem dX7_sum_8 : decode cX7_sum 8 = .ok (.istore 4, 2) := by decide +kernel
theorem dX7_sum_10 : decode cX7_sum 10 = .ok (.iload 4, 2) := by decide +kernel
theorem dX7_sum_12 : decode cX7_sum 12 = .ok (.iload_n 3, 1) := by decide +kernel
theorem dX7_sum_13 : decode cX7_sum 13 = .ok (.if_icmp .ge 20, 3) := by decide +kernel
theorem dX7_sum_16 : decode cX7_sum 16 = .ok (.aload_n 2, 1) := by decide +kernel
theorem dX7_sum_17 : decode cX7_sum 17 = .ok (.iload 4, 2) := by decide +kernel
theorem dX7_sum_19 : decode cX7_sum 19 = .ok (.iaload, 1) := by decide +kernel
theorem dX7_sum_20 : decode cX7_sum 20 = .ok (.istore 5, 2) := by decide +kernel
theorem dX7_sum_22 : decode cX7_sum 22 = .ok (.iload_n 1, 1) := by decide +kernel
theorem dX7_sum_23 : decode cX7_sum 23 = .ok (.iload 5, 2) := by decide +kernel
theorem dX7_sum_25 : decode cX7_sum 25 = .ok (.iadd, 1) := by decide +kernel
theorem dX7_sum_26 : decode cX7_sum 26 = .ok (.istore_n 1, 1) := by decide +kernel
theorem dX7_sum_27 : decode cX7_sum 27 = .ok (.iinc 4 1, 3) := by decide +kernel
theorem dX7_sum_30 : decode cX7_sum 30 = .ok (.goto (-20), 3) := by decide +kernel
theorem dX7_sum_33 : decode cX7_sum 33 = .ok (.iload_n 1, 1) := by decide +kernel
theorem dX7_sum_34 : decode cX7_sum 34 = .ok (.ireturn, 1) := by decide +kernel
theorem dX7_recorded_0 : decode cX7_recorded 0 = .ok (.iload_n 1, 1) := by decide +kernel
theorem dX7_recorded_1 : decode cX7_recorded 1 = .ok (.ifCond .lt 14, 3) := by decide +kernel
theorem dX7_recorded_4 : decode cX7_recorded 4 = .ok (.aload_n 0, 1) := by decide +kernel
theorem dX7_recorded_5 : decode cX7_recorded 5 = .ok (.getfield 28, 3) := by decide +kernel
theorem dX7_recorded_8 : decode cX7_recorded 8 = .ok (.aload_n 0, 1) := by decide +kernel
theorem dX7_recorded_9 : decode cX7_recorded 9 = .ok (.getfield 16, 3) := by decide +kernel
theorem dX7_recorded_12 : decode cX7_recorded 12 = .ok (.invokevirtual 250, 3) := by decide +kernel
theorem dX7_recorded_15 : decode cX7_recorded 15 = .ok (.iload_n 1, 1) := by decide +kernel
theorem dX7_recorded_16 : decode cX7_recorded 16 = .ok (.ireturn, 1) := by decide +kernel
theorem dX7_doThing_0 : decode cX7_doThing 0 = .ok (.aload_n 0, 1) := by decide +kernel
theorem dX7_doThing_1 : decode cX7_doThing 1 = .ok (.getfield 35, 3) := by decide +kernel
theorem dX7_doThing_4 : decode cX7_doThing 4 = .ok (.getfield 253, 3) := by decide +kernel
theorem dX7_doThing_7 : decode cX7_doThing 7 = .ok (.iload_n 1, 1) := by decide +kernel
theorem dX7_doThing_8 : decode cX7_doThing 8 = .ok (.iaload, 1) := by decide +kernel
theorem dX7_doThing_9 : decode cX7_doThing 9 = .ok (.lookupswitch 97 #[(0, 27), (1, 71)], 27) := by decide +kernel
theorem dX7_doThing_36 : decode cX7_doThing 36 = .ok (.aload_n 0, 1) := by decide +kernel
theorem dX7_doThing_37 : decode cX7_doThing 37 = .ok (.getfield 12, 3) := by decide +kernel
theorem dX7_doThing_40 : decode cX7_doThing 40 = .ok (.aload_n 0, 1) := by decide +kernel
theorem dX7_doThing_41 : decode cX7_doThing 41 = .ok (.getfield 35, 3) := by decide +kernel
theorem dX7_doThing_44 : decode cX7_doThing 44 = .ok (.getfield 256, 3) := by decide +kernel
theorem dX7_doThing_47 : decode cX7_doThing 47 = .ok (.iload_n 1, 1) := by decide +kernel
theorem dX7_doThing_48 : decode cX7_doThing 48 = .ok (.iaload, 1) := by decide +kernel
theorem dX7_doThing_49 : decode cX7_doThing 49 = .ok (.aload_n 0, 1) := by decide +kernel
theorem dX7_doThing_50 : decode cX7_doThing 50 = .ok (.getfield 35, 3) := by decide +kernel
theorem dX7_doThing_53 : decode cX7_doThing 53 = .ok (.getfield 257, 3) := by decide +kernel
theorem dX7_doThing_56 : decode cX7_doThing 56 = .ok (.iload_n 1, 1) := by decide +kernel
theorem dX7_doThing_57 : decode cX7_doThing 57 = .ok (.iaload, 1) := by decide +kernel
theorem dX7_doThing_58 : decode cX7_doThing 58 = .ok (.aload_n 0, 1) := by decide +kernel
theorem dX7_doThing_59 : decode cX7_doThing 59 = .ok (.getfield 35, 3) := by decide +kernel
theorem dX7_doThing_62 : decode cX7_doThing 62 = .ok (.getfield 260, 3) := by decide +kernel
theorem dX7_doThing_65 : decode cX7_doThing 65 = .ok (.iload_n 1, 1) := by decide +kernel
theorem dX7_doThing_66 : decode cX7_doThing 66 = .ok (.iaload, 1) := by decide +kernel
theorem dX7_doThing_67 : decode cX7_doThing 67 = .ok (.aload_n 0, 1) := by decide +kernel
theorem dX7_doThing_68 : decode cX7_doThing 68 = .ok (.getfield 35, 3) := by decide +kernel
theorem dX7_doThing_71 : decode cX7_doThing 71 = .ok (.getfield 261, 3) := by decide +kernel
theorem dX7_doThing_74 : decode cX7_doThing 74 = .ok (.iload_n 1, 1) := by decide +kernel
theorem dX7_doThing_75 : decode cX7_doThing 75 = .ok (.iaload, 1) := by decide +kernel
theorem dX7_doThing_76 : decode cX7_doThing 76 = .ok (.invokevirtual 54, 3) := by decide +kernel
theorem dX7_doThing_79 : decode cX7_doThing 79 = .ok (.ireturn, 1) := by decide +kernel
theorem dX7_doThing_80 : decode cX7_doThing 80 = .ok (.aload_n 0, 1) := by decide +kernel
theorem dX7_doThing_81 : decode cX7_doThing 81 = .ok (.getfield 12, 3) := by decide +kernel
theorem dX7_doThing_84 : decode cX7_doThing 84 = .ok (.aload_n 0, 1) := by decide +kernel
theorem dX7_doThing_85 : decode cX7_doThing 85 = .ok (.getfield 35, 3) := by decide +kernel
theorem dX7_doThing_88 : decode cX7_doThing 88 = .ok (.getfield 256, 3) := by decide +kernel
theorem dX7_doThing_91 : decode cX7_doThing 91 = .ok (.iload_n 1, 1) := by decide +kernel
theorem dX7_doThing_92 : decode cX7_doThing 92 = .ok (.iaload, 1) := by decide +kernel
theorem dX7_doThing_93 : decode cX7_doThing 93 = .ok (.aload_n 0, 1) := by decide +kernel
theorem dX7_doThing_94 : decode cX7_doThing 94 = .ok (.getfield 35, 3) := by decide +kernel
theorem dX7_doThing_97 : decode cX7_doThing 97 = .ok (.getfield 257, 3) := by decide +kernel
theorem dX7_doThing_100 : decode cX7_doThing 100 = .ok (.iload_n 1, 1) := by decide +kernel
theorem dX7_doThing_101 : decode cX7_doThing 101 = .ok (.iaload, 1) := by decide +kernel
theorem dX7_doThing_102 : decode cX7_doThing 102 = .ok (.invokevirtual 58, 3) := by decide +kernel
theorem dX7_doThing_105 : decode cX7_doThing 105 = .ok (.ireturn, 1) := by decide +kernel
theorem dX7_doThing_106 : decode cX7_doThing 106 = .ok (.aload_n 0, 1) := by decide +kernel
theorem dX7_doThing_107 : decode cX7_doThing 107 = .ok (.getfield 12, 3) := by decide +kernel
theorem dX7_doThing_110 : decode cX7_doThing 110 = .ok (.aload_n 0, 1) := by decide +kernel
theorem dX7_doThing_111 : decode cX7_doThing 111 = .ok (.getfield 35, 3) := by decide +kernel
theorem dX7_doThing_114 : decode cX7_doThing 114 = .ok (.getfield 257, 3) := by decide +kernel
theorem dX7_doThing_117 : decode cX7_doThing 117 = .ok (.iload_n 1, 1) := by decide +kernel
theorem dX7_doThing_118 : decode cX7_doThing 118 = .ok (.iaload, 1) := by decide +kernel
theorem dX7_doThing_119 : decode cX7_doThing 119 = .ok (.invokevirtual 61, 3) := by decide +kernel
theorem dX7_doThing_122 : decode cX7_doThing 122 = .ok (.ireturn, 1) := by decide +kernel
theorem dX8_init_0 : decode cX8_init 0 = .ok (.aload_n 0, 1) := by decide +kernel
theorem dX8_init_1 : decode cX8_init 1 = .ok (.invokespecial 1, 3) := by decide +kernel
theorem dX8_init_4 : decode cX8_init 4 = .ok (.aload_n 0, 1) := by decide +kernel
theorem dX8_init_5 : decode cX8_init 5 = .ok (.sipush 4896, 3) := by decide +kernel
theorem dX8_init_8 : decode cX8_init 8 = .ok (.newarray .int, 2) := by decide +kernel
theorem dX8_init_10 : decode cX8_init 10 = .ok (.putfield 7, 3) := by decide +kernel
theorem dX8_init_13 : decode cX8_init 13 = .ok (.aload_n 0, 1) := by decide +kernel
theorem dX8_init_14 : decode cX8_init 14 = .ok (.bipush 60, 2) := by decide +kernel
theorem dX8_init_16 : decode cX8_init 16 = .ok (.newarray .int, 2) := by decide +kernel
theorem dX8_init_18 : decode cX8_init 18 = .ok (.putfield 13, 3) := by decide +kernel
theorem dX8_init_21 : decode cX8_init 21 = .ok (.aload_n 0, 1) := by decide +kernel
theorem dX8_init_22 : decode cX8_init 22 = .ok (.bipush (-5), 2) := by decide +kernel
theorem dX8_init_24 : decode cX8_init 24 = .ok (.putfield 16, 3) := by decide +kernel
theorem dX8_init_27 : decode cX8_init 27 = .ok (.aload_n 0, 1) := by decide +kernel
theorem dX8_init_28 : decode cX8_init 28 = .ok (.bipush (-5), 2) := by decide +kernel
theorem dX8_init_30 : decode cX8_init 30 = .ok (.putfield 20, 3) := by decide +kernel
theorem dX8_init_33 : decode cX8_init 33 = .ok (.aload_n 0, 1) := by decide +kernel
theorem dX8_init_34 : decode cX8_init 34 = .ok (.bipush 12, 2) := by decide +kernel
theorem dX8_init_36 : decode cX8_init 36 = .ok (.newarray .int, 2) := by decide +kernel
theorem dX8_init_38 : decode cX8_init 38 = .ok (.putfield 23, 3) := by decide +kernel
theorem dX8_init_41 : decode cX8_init 41 = .ok (.aload_n 0, 1) := by decide +kernel
theorem dX8_init_42 : decode cX8_init 42 = .ok (.bipush 12, 2) := by decide +kernel
theorem dX8_init_44 : decode cX8_init 44 = .ok (.newarray .int, 2) := by decide +kernel
theorem dX8_init_46 : decode cX8_init 46 = .ok (.putfield 26, 3) := by decide +kernel
theorem dX8_init_49 : decode cX8_init 49 = .ok (.aload_n 0, 1) := by decide +kernel
theorem dX8_init_50 : decode cX8_init 50 = .ok (.getfield 7, 3) := by decide +kernel
theorem dX8_init_53 : decode cX8_init 53 = .ok (.iconst 0, 1) := by decide +kernel
theorem dX8_init_54 : decode cX8_init 54 = .ok (.iconst 5, 1) := by decide +kernel
theorem dX8_init_55 : decode cX8_init 55 = .ok (.iastore, 1) := by decide +kernel
theorem dX8_init_56 : decode cX8_init 56 = .ok (.aload_n 0, 1) := by decide +kernel
theorem dX8_init_57 : decode cX8_init 57 = .ok (.getfield 7, 3) := by decide +kernel
theorem dX8_init_60 : decode cX8_init 60 = .ok (.iconst 1, 1) := by decide +kernel
theorem dX8_init_61 : decode cX8_init 61 = .ok (.bipush 10, 2) := by decide +kernel
theorem dX8_init_63 : decode cX8_init 63 = .ok (.iastore, 1) := by decide +kernel
theorem dX8_init_64 : decode cX8_init 64 = .ok (.iconst 0, 1) := by decide +kernel
theorem dX8_init_65 : decode cX8_init 65 = .ok (.istore_n 1, 1) := by decide +kernel
theorem dX8_init_66 : decode cX8_init 66 = .ok (.iload_n 1, 1) := by decide +kernel
theorem dX8_init_67 : decode cX8_init 67 = .ok (.sipush 140, 3) := by decide +kernel
theorem dX8_init_70 : decode cX8_init 70 = .ok (.if_icmp .ge 23, 3) := by decide +kernel
theorem dX8_init_73 : decode cX8_init 73 = .ok (.aload_n 0, 1) := by decide +kernel
theorem dX8_init_74 : decode cX8_init 74 = .ok (.getfield 7, 3) := by decide +kernel
theorem dX8_init_77 : decode cX8_init 77 = .ok (.sipush 192, 3) := by decide +kernel
theorem dX8_init_80 : decode cX8_init 80 = .ok (.iconst 3, 1) := by decide +kernel
theorem dX8_init_81 : decode cX8_init 81 = .ok (.iload_n 1, 1) := by decide +kernel
theorem dX8_init_82 : decode cX8_init 82 = .ok (.imul, 1) := by decide +kernel
theorem dX8_init_83 : decode cX8_init 83 = .ok (.iadd, 1) := by decide +kernel
theorem dX8_init_84 : decode cX8_init 84 = .ok (.bipush (-5), 2) := by decide +kernel
theorem dX8_init_86 : decode cX8_init 86 = .ok (.iastore, 1) := by decide +kernel
theorem dX8_init_87 : decode cX8_init 87 = .ok (.iinc 1 1, 3) := by decide +kernel
theorem dX8_init_90 : decode cX8_init 90 = .ok (.goto (-24), 3) := by decide +kernel
theorem dX8_init_93 : decode cX8_init 93 = .ok (.return_, 1) := by decide +kernel
theorem dX8_in_0 : decode cX8_in 0 = .ok (.iload_n 0, 1) := by decide +kernel
theorem dX8_in_1 : decode cX8_in 1 = .ok (.iload_n 1, 1) := by decide +kernel
theorem dX8_in_2 : decode cX8_in 2 = .ok (.if_icmp .lt 12, 3) := by decide +kernel
theorem dX8_in_5 : decode cX8_in 5 = .ok (.iload_n 0, 1) := by decide +kernel
theorem dX8_in_6 : decode cX8_in 6 = .ok (.iload_n 2, 1) := by decide +kernel
theorem dX8_in_7 : decode cX8_in 7 = .ok (.if_icmp .gt 7, 3) := by decide +kernel
theorem dX8_in_10 : decode cX8_in 10 = .ok (.iconst 1, 1) := by decide +kernel
theorem dX8_in_11 : decode cX8_in 11 = .ok (.goto 4, 3) := by decide +kernel
theorem dX8_in_14 : decode cX8_in 14 = .ok (.iconst 0, 1) := by decide +kernel
theorem dX8_in_15 : decode cX8_in 15 = .ok (.ireturn, 1) := by decide +kernel
theorem dX8_flag_0 : decode cX8_flag 0 = .ok (.iload_n 0, 1) := by decide +kernel
theorem dX8_flag_1 : decode cX8_flag 1 = .ok (.ifCond .eq 7, 3) := by decide +kernel
theorem dX8_flag_4 : decode cX8_flag 4 = .ok (.iconst 1, 1) := by decide +kernel
theorem dX8_flag_5 : decode cX8_flag 5 = .ok (.goto 4, 3) := by decide +kernel
theorem dX8_flag_8 : decode cX8_flag 8 = .ok (.iconst 0, 1) := by decide +kernel
theorem dX8_flag_9 : decode cX8_flag 9 = .ok (.ireturn, 1) := by decide +kernel
theorem dX8_copies_0 : decode cX8_copies 0 = .ok (.iconst 0, 1) := by decide +kernel
theorem dX8_copies_1 : decode cX8_copies 1 = .ok (.istore_n 3, 1) := by decide +kernel
theorem dX8_copies_2 : decode cX8_copies 2 = .ok (.iload_n 3, 1) := by decide +kernel
theorem dX8_copies_3 : decode cX8_copies 3 = .ok (.sipush 612, 3) := by decide +kernel
theorem dX8_copies_6 : decode cX8_copies 6 = .ok (.if_icmp .ge 33, 3) := by decide +kernel
theorem dX8_copies_9 : decode cX8_copies 9 = .ok (.aload_n 0, 1) := by decide +kernel
theorem dX8_copies_10 : decode cX8_copies 10 = .ok (.getfield 7, 3) := by decide +kernel
theorem dX8_copies_13 : decode cX8_copies 13 = .ok (.sipush 612, 3) := by decide +kernel
theorem dX8_copies_16 : decode cX8_copies 16 = .ok (.iload_n 2, 1) := by decide +kernel
theorem dX8_copies_17 : decode cX8_copies 17 = .ok (.imul, 1) := by decide +kernel
theorem dX8_copies_18 : decode cX8_copies 18 = .ok (.iload_n 3, 1) := by decide +kernel
theorem dX8_copies_19 : decode cX8_copies 19 = .ok (.iadd, 1) := by decide +kernel
theorem dX8_copies_20 : decode cX8_copies 20 = .ok (.aload_n 0, 1) := by decide +kernel
theorem dX8_copies_21 : decode cX8_copies 21 = .ok (.getfield 7, 3) := by decide +kernel
theorem dX8_copies_24 : decode cX8_copies 24 = .ok (.sipush 612, 3) := by decide +kernel
theorem dX8_copies_27 : decode cX8_copies 27 = .ok (.iload_n 1, 1) := by decide +kernel
theorem dX8_copies_28 : decode cX8_copies 28 = .ok (.imul, 1) := by decide +kernel
theorem dX8_copies_29 : decode cX8_copies 29 = .ok (.iload_n 3, 1) := by decide +kernel
theorem dX8_copies_30 : decode cX8_copies 30 = .ok (.iadd, 1) := by decide +kernel
theorem dX8_copies_31 : decode cX8_copies 31 = .ok (.iaload, 1) := by decide +kernel
theorem dX8_copies_32 : decode cX8_copies 32 = .ok (.iastore, 1) := by decide +kernel
theorem dX8_copies_33 : decode cX8_copies 33 = .ok (.iinc 3 1, 3) := by decide +kernel
theorem dX8_copies_36 : decode cX8_copies 36 = .ok (.goto (-34), 3) := by decide +kernel
theorem dX8_copies_39 : decode cX8_copies 39 = .ok (.return_, 1) := by decide +kernel
theorem dX8_records_0 : decode cX8_records 0 = .ok (.aload_n 0, 1) := by decide +kernel
theorem dX8_records_1 : decode cX8_records 1 = .ok (.getfield 29, 3) := by decide +kernel
theorem dX8_records_4 : decode cX8_records 4 = .ok (.iconst 4, 1) := by decide +kernel
theorem dX8_records_5 : decode cX8_records 5 = .ok (.if_icmp .ne 34, 3) := by decide +kernel
theorem dX8_records_8 : decode cX8_records 8 = .ok (.iconst 1, 1) := by decide +kernel
theorem dX8_records_9 : decode cX8_records 9 = .ok (.istore_n 2, 1) := by decide +kernel
theorem dX8_records_10 : decode cX8_records 10 = .ok (.iload_n 2, 1) := by decide +kernel
theorem dX8_records_11 : decode cX8_records 11 = .ok (.iconst 4, 1) := by decide +kernel
theorem dX8_records_12 : decode cX8_records 12 = .ok (.if_icmp .ge 17, 3) := by decide +kernel
theorem dX8_records_15 : decode cX8_records 15 = .ok (.aload_n 0, 1) := by decide +kernel
theorem dX8_records_16 : decode cX8_records 16 = .ok (.iload_n 2, 1) := by decide +kernel
theorem dX8_records_17 : decode cX8_records 17 = .ok (.iconst 1, 1) := by decide +kernel
theorem dX8_records_18 : decode cX8_records 18 = .ok (.iadd, 1) := by decide +kernel
theorem dX8_records_19 : decode cX8_records 19 = .ok (.iload_n 2, 1) := by decide +kernel
theorem dX8_records_20 : decode cX8_records 20 = .ok (.invokevirtual 32, 3) := by decide +kernel
theorem dX8_records_23 : decode cX8_records 23 = .ok (.iinc 2 1, 3) := by decide +kernel
theorem dX8_records_26 : decode cX8_records 26 = .ok (.goto (-16), 3) := by decide +kernel
theorem dX8_records_29 : decode cX8_records 29 = .ok (.aload_n 0, 1) := by decide +kernel
theorem dX8_records_30 : decode cX8_records 30 = .ok (.dup, 1) := by decide +kernel
theorem dX8_records_31 : decode cX8_records 31 = .ok (.getfield 29, 3) := by decide +kernel
theorem dX8_records_34 : decode cX8_records 34 = .ok (.iconst 1, 1) := by decide +kernel
theorem dX8_records_35 : decode cX8_records 35 = .ok (.isub, 1) := by decide +kernel
theorem dX8_records_36 : decode cX8_records 36 = .ok (.putfield 29, 3) := by decide +kernel
theorem dX8_records_39 : decode cX8_records 39 = .ok (.aload_n 0, 1) := by decide +kernel
theorem dX8_records_40 : decode cX8_records 40 = .ok (.dup, 1) := by decide +kernel
theorem dX8_records_41 : decode cX8_records 41 = .ok (.getfield 29, 3) := by decide +kernel
theorem dX8_records_44 : decode cX8_records 44 = .ok (.iconst 1, 1) := by decide +kernel
theorem dX8_records_45 : decode cX8_records 45 = .ok (.iadd, 1) := by decide +kernel
theorem dX8_records_46 : decode cX8_records 46 = .ok (.putfield 29, 3) := by decide +kernel
theorem dX8_records_49 : decode cX8_records 49 = .ok (.aload_n 0, 1) := by decide +kernel
theorem dX8_records_50 : decode cX8_records 50 = .ok (.iload_n 1, 1) := by decide +kernel
theorem dX8_records_51 : decode cX8_records 51 = .ok (.aload_n 0, 1) := by decide +kernel
theorem dX8_records_52 : decode cX8_records 52 = .ok (.getfield 29, 3) := by decide +kernel
theorem dX8_records_55 : decode cX8_records 55 = .ok (.invokevirtual 32, 3) := by decide +kernel
theorem dX8_records_58 : decode cX8_records 58 = .ok (.return_, 1) := by decide +kernel
theorem dX8_droneAt_0 : decode cX8_droneAt 0 = .ok (.iload_n 0, 1) := by decide +kernel
theorem dX8_droneAt_1 : decode cX8_droneAt 1 = .ok (.bipush 12, 2) := by decide +kernel
theorem dX8_droneAt_3 : decode cX8_droneAt 3 = .ok (.iadd, 1) := by decide +kernel
theorem dX8_droneAt_4 : decode cX8_droneAt 4 = .ok (.bipush 6, 2) := by decide +kernel
theorem dX8_droneAt_6 : decode cX8_droneAt 6 = .ok (.iload_n 1, 1) := by decide +kernel
theorem dX8_droneAt_7 : decode cX8_droneAt 7 = .ok (.imul, 1) := by decide +kernel
theorem dX8_droneAt_8 : decode cX8_droneAt 8 = .ok (.iadd, 1) := by decide +kernel
theorem dX8_droneAt_9 : decode cX8_droneAt 9 = .ok (.ireturn, 1) := by decide +kernel
theorem dX8_petitionAt_0 : decode cX8_petitionAt 0 = .ok (.iload_n 0, 1) := by decide +kernel
theorem dX8_petitionAt_1 : decode cX8_petitionAt 1 = .ok (.bipush 84, 2) := by decide +kernel
theorem dX8_petitionAt_3 : decode cX8_petitionAt 3 = .ok (.iadd, 1) := by decide +kernel
theorem dX8_petitionAt_4 : decode cX8_petitionAt 4 = .ok (.iconst 5, 1) := by decide +kernel
theorem dX8_petitionAt_5 : decode cX8_petitionAt 5 = .ok (.iload_n 1, 1) := by decide +kernel
theorem dX8_petitionAt_6 : decode cX8_petitionAt 6 = .ok (.imul, 1) := by decide +kernel
theorem dX8_petitionAt_7 : decode cX8_petitionAt 7 = .ok (.iadd, 1) := by decide +kernel
theorem dX8_petitionAt_8 : decode cX8_petitionAt 8 = .ok (.ireturn, 1) := by decide +kernel
theorem dX8_bylawAt_0 : decode cX8_bylawAt 0 = .ok (.iload_n 0, 1) := by decide +kernel
theorem dX8_bylawAt_1 : decode cX8_bylawAt 1 = .ok (.sipush 192, 3) := by decide +kernel
theorem dX8_bylawAt_4 : decode cX8_bylawAt 4 = .ok (.iadd, 1) := by decide +kernel
theorem dX8_bylawAt_5 : decode cX8_bylawAt 5 = .ok (.iconst 3, 1) := by decide +kernel
theorem dX8_bylawAt_6 : decode cX8_bylawAt 6 = .ok (.bipush 20, 2) := by decide +kernel
theorem dX8_bylawAt_8 : decode cX8_bylawAt 8 = .ok (.iload_n 1, 1) := by decide +kernel
theorem dX8_bylawAt_9 : decode cX8_bylawAt 9 = .ok (.imul, 1) := by decide +kernel
theorem dX8_bylawAt_10 : decode cX8_bylawAt 10 = .ok (.iload_n 2, 1) := by decide +kernel
theorem dX8_bylawAt_11 : decode cX8_bylawAt 11 = .ok (.iadd, 1) := by decide +kernel
theorem dX8_bylawAt_12 : decode cX8_bylawAt 12 = .ok (.imul, 1) := by decide +kernel
theorem dX8_bylawAt_13 : decode cX8_bylawAt 13 = .ok (.iadd, 1) := by decide +kernel
theorem dX8_bylawAt_14 : decode cX8_bylawAt 14 = .ok (.ireturn, 1) := by decide +kernel
theorem dX8_support_0 : decode cX8_support 0 = .ok (.iload_n 1, 1) := by decide +kernel
theorem dX8_support_1 : decode cX8_support 1 = .ok (.iload_n 2, 1) := by decide +kernel
theorem dX8_support_2 : decode cX8_support 2 = .ok (.invokestatic 36, 3) := by decide +kernel
theorem dX8_support_5 : decode cX8_support 5 = .ok (.istore_n 3, 1) := by decide +kernel
theorem dX8_support_6 : decode cX8_support 6 = .ok (.aload_n 0, 1) := by decide +kernel
theorem dX8_support_7 : decode cX8_support 7 = .ok (.getfield 7, 3) := by decide +kernel
theorem dX8_support_10 : decode cX8_support 10 = .ok (.iload_n 1, 1) := by decide +kernel
theorem dX8_support_11 : decode cX8_support 11 = .ok (.aload_n 0, 1) := by decide +kernel
theorem dX8_support_12 : decode cX8_support 12 = .ok (.getfield 7, 3) := by decide +kernel
theorem dX8_support_15 : decode cX8_support 15 = .ok (.iload_n 3, 1) := by decide +kernel
theorem dX8_support_16 : decode cX8_support 16 = .ok (.iaload, 1) := by decide +kernel
theorem dX8_support_17 : decode cX8_support 17 = .ok (.invokestatic 40, 3) := by decide +kernel
theorem dX8_support_20 : decode cX8_support 20 = .ok (.iconst 1, 1) := by decide +kernel
theorem dX8_support_21 : decode cX8_support 21 = .ok (.iadd, 1) := by decide +kernel
theorem dX8_support_22 : decode cX8_support 22 = .ok (.iaload, 1) := by decide +kernel
theorem dX8_support_23 : decode cX8_support 23 = .ok (.istore 4, 2) := by decide +kernel
theorem dX8_support_25 : decode cX8_support 25 = .ok (.iconst 0, 1) := by decide +kernel
theorem dX8_support_26 : decode cX8_support 26 = .ok (.istore 5, 2) := by decide +kernel
theorem dX8_support_28 : decode cX8_support 28 = .ok (.iload 5, 2) := by decide +kernel
theorem dX8_support_30 : decode cX8_support 30 = .ok (.aload_n 0, 1) := by decide +kernel
theorem dX8_support_31 : decode cX8_support 31 = .ok (.getfield 7, 3) := by decide +kernel
theorem dX8_support_34 : decode cX8_support 34 = .ok (.iload_n 1, 1) := by decide +kernel
theorem dX8_support_35 : decode cX8_support 35 = .ok (.iconst 5, 1) := by decide +kernel
theorem dX8_support_36 : decode cX8_support 36 = .ok (.iadd, 1) := by decide +kernel
theorem dX8_support_37 : decode cX8_support 37 = .ok (.iaload, 1) := by decide +kernel
theorem dX8_support_38 : decode cX8_support 38 = .ok (.if_icmp .ge 41, 3) := by decide +kernel
theorem dX8_support_41 : decode cX8_support 41 = .ok (.iload 4, 2) := by decide +kernel
theorem dX8_support_43 : decode cX8_support 43 = .ok (.aload_n 0, 1) := by decide +kernel
theorem dX8_support_44 : decode cX8_support 44 = .ok (.getfield 7, 3) := by decide +kernel
theorem dX8_support_47 : decode cX8_support 47 = .ok (.iload_n 3, 1) := by decide +kernel
theorem dX8_support_48 : decode cX8_support 48 = .ok (.iconst 4, 1) := by decide +kernel
theorem dX8_support_49 : decode cX8_support 49 = .ok (.iadd, 1) := by decide +kernel
theorem dX8_support_50 : decode cX8_support 50 = .ok (.iaload, 1) := by decide +kernel
theorem dX8_support_51 : decode cX8_support 51 = .ok (.iload 5, 2) := by decide +kernel
theorem dX8_support_53 : decode cX8_support 53 = .ok (.ishr, 1) := by decide +kernel
theorem dX8_support_54 : decode cX8_support 54 = .ok (.iconst 1, 1) := by decide +kernel
theorem dX8_support_55 : decode cX8_support 55 = .ok (.iand, 1) := by decide +kernel
theorem dX8_support_56 : decode cX8_support 56 = .ok (.aload_n 0, 1) := by decide +kernel
theorem dX8_support_57 : decode cX8_support 57 = .ok (.getfield 7, 3) := by decide +kernel
theorem dX8_support_60 : decode cX8_support 60 = .ok (.iload_n 1, 1) := by decide +kernel
theorem dX8_support_61 : decode cX8_support 61 = .ok (.iload 5, 2) := by decide +kernel
theorem dX8_support_63 : decode cX8_support 63 = .ok (.invokestatic 40, 3) := by decide +kernel
theorem dX8_support_66 : decode cX8_support 66 = .ok (.iconst 1, 1) := by decide +kernel
theorem dX8_support_67 : decode cX8_support 67 = .ok (.iadd, 1) := by decide +kernel
theorem dX8_support_68 : decode cX8_support 68 = .ok (.iaload, 1) := by decide +kernel
theorem dX8_support_69 : decode cX8_support 69 = .ok (.imul, 1) := by decide +kernel
theorem dX8_support_70 : decode cX8_support 70 = .ok (.iadd, 1) := by decide +kernel
theorem dX8_support_71 : decode cX8_support 71 = .ok (.istore 4, 2) := by decide +kernel
theorem dX8_support_73 : decode cX8_support 73 = .ok (.iinc 5 1, 3) := by decide +kernel
theorem dX8_support_76 : decode cX8_support 76 = .ok (.goto (-48), 3) := by decide +kernel
theorem dX8_support_79 : decode cX8_support 79 = .ok (.iload 4, 2) := by decide +kernel
theorem dX8_support_81 : decode cX8_support 81 = .ok (.ireturn, 1) := by decide +kernel
theorem dX8_weightAt_0 : decode cX8_weightAt 0 = .ok (.iconst 0, 1) := by decide +kernel
theorem dX8_weightAt_1 : decode cX8_weightAt 1 = .ok (.istore_n 3, 1) := by decide +kernel
theorem dX8_weightAt_2 : decode cX8_weightAt 2 = .ok (.iconst 0, 1) := by decide +kernel
theorem dX8_weightAt_3 : decode cX8_weightAt 3 = .ok (.istore 4, 2) := by decide +kernel
theorem dX8_weightAt_5 : decode cX8_weightAt 5 = .ok (.iload 4, 2) := by decide +kernel
theorem dX8_weightAt_7 : decode cX8_weightAt 7 = .ok (.aload_n 0, 1) := by decide +kernel
theorem dX8_weightAt_8 : decode cX8_weightAt 8 = .ok (.getfield 7, 3) := by decide +kernel
theorem dX8_weightAt_11 : decode cX8_weightAt 11 = .ok (.iload_n 1, 1) := by decide +kernel
theorem dX8_weightAt_12 : decode cX8_weightAt 12 = .ok (.iconst 5, 1) := by decide +kernel
theorem dX8_weightAt_13 : decode cX8_weightAt 13 = .ok (.iadd, 1) := by decide +kernel
theorem dX8_weightAt_14 : decode cX8_weightAt 14 = .ok (.iaload, 1) := by decide +kernel
theorem dX8_weightAt_15 : decode cX8_weightAt 15 = .ok (.if_icmp .ge 50, 3) := by decide +kernel
theorem dX8_weightAt_18 : decode cX8_weightAt 18 = .ok (.iload_n 1, 1) := by decide +kernel
theorem dX8_weightAt_19 : decode cX8_weightAt 19 = .ok (.iload 4, 2) := by decide +kernel
theorem dX8_weightAt_21 : decode cX8_weightAt 21 = .ok (.invokestatic 40, 3) := by decide +kernel
theorem dX8_weightAt_24 : decode cX8_weightAt 24 = .ok (.istore 5, 2) := by decide +kernel
theorem dX8_weightAt_26 : decode cX8_weightAt 26 = .ok (.iload_n 3, 1) := by decide +kernel
theorem dX8_weightAt_27 : decode cX8_weightAt 27 = .ok (.iload_n 2, 1) := by decide +kernel
theorem dX8_weightAt_28 : decode cX8_weightAt 28 = .ok (.bipush 6, 2) := by decide +kernel
theorem dX8_weightAt_30 : decode cX8_weightAt 30 = .ok (.if_icmp .eq 14, 3) := by decide +kernel
theorem dX8_weightAt_33 : decode cX8_weightAt 33 = .ok (.aload_n 0, 1) := by decide +kernel
theorem dX8_weightAt_34 : decode cX8_weightAt 34 = .ok (.getfield 7, 3) := by decide +kernel
theorem dX8_weightAt_37 : decode cX8_weightAt 37 = .ok (.iload 5, 2) := by decide +kernel
theorem dX8_weightAt_39 : decode cX8_weightAt 39 = .ok (.iaload, 1) := by decide +kernel
theorem dX8_weightAt_40 : decode cX8_weightAt 40 = .ok (.iload_n 2, 1) := by decide +kernel
theorem dX8_weightAt_41 : decode cX8_weightAt 41 = .ok (.if_icmp .ne 15, 3) := by decide +kernel
theorem dX8_weightAt_44 : decode cX8_weightAt 44 = .ok (.aload_n 0, 1) := by decide +kernel
theorem dX8_weightAt_45 : decode cX8_weightAt 45 = .ok (.getfield 7, 3) := by decide +kernel
theorem dX8_weightAt_48 : decode cX8_weightAt 48 = .ok (.iload 5, 2) := by decide +kernel
theorem dX8_weightAt_50 : decode cX8_weightAt 50 = .ok (.iconst 1, 1) := by decide +kernel
theorem dX8_weightAt_51 : decode cX8_weightAt 51 = .ok (.iadd, 1) := by decide +kernel
theorem dX8_weightAt_52 : decode cX8_weightAt 52 = .ok (.iaload, 1) := by decide +kernel
theorem dX8_weightAt_53 : decode cX8_weightAt 53 = .ok (.goto 4, 3) := by decide +kernel
theorem dX8_weightAt_56 : decode cX8_weightAt 56 = .ok (.iconst 0, 1) := by decide +kernel
theorem dX8_weightAt_57 : decode cX8_weightAt 57 = .ok (.iadd, 1) := by decide +kernel
theorem dX8_weightAt_58 : decode cX8_weightAt 58 = .ok (.istore_n 3, 1) := by decide +kernel
theorem dX8_weightAt_59 : decode cX8_weightAt 59 = .ok (.iinc 4 1, 3) := by decide +kernel
theorem dX8_weightAt_62 : decode cX8_weightAt 62 = .ok (.goto (-57), 3) := by decide +kernel
theorem dX8_weightAt_65 : decode cX8_weightAt 65 = .ok (.iload_n 3, 1) := by decide +kernel
theorem dX8_weightAt_66 : decode cX8_weightAt 66 = .ok (.ireturn, 1) := by decide +kernel
theorem dX8_refusedWith_0 : decode cX8_refusedWith 0 = .ok (.bipush (-5), 2) := by decide +kernel
theorem dX8_refusedWith_2 : decode cX8_refusedWith 2 = .ok (.istore 5, 2) := by decide +kernel
theorem dX8_refusedWith_4 : decode cX8_refusedWith 4 = .ok (.iconst 0, 1) := by decide +kernel
theorem dX8_refusedWith_5 : decode cX8_refusedWith 5 = .ok (.istore 6, 2) := by decide +kernel
theorem dX8_refusedWith_7 : decode cX8_refusedWith 7 = .ok (.iload 6, 2) := by decide +kernel
theorem dX8_refusedWith_9 : decode cX8_refusedWith 9 = .ok (.aload_n 0, 1) := by decide +kernel
theorem dX8_refusedWith_10 : decode cX8_refusedWith 10 = .ok (.getfield 7, 3) := by decide +kernel
theorem dX8_refusedWith_13 : decode cX8_refusedWith 13 = .ok (.iload_n 1, 1) := by decide +kernel
theorem dX8_refusedWith_14 : decode cX8_refusedWith 14 = .ok (.bipush 11, 2) := by decide +kernel
theorem dX8_refusedWith_16 : decode cX8_refusedWith 16 = .ok (.iadd, 1) := by decide +kernel
theorem dX8_refusedWith_17 : decode cX8_refusedWith 17 = .ok (.iaload, 1) := by decide +kernel
theorem dX8_refusedWith_18 : decode cX8_refusedWith 18 = .ok (.if_icmp .ge 101, 3) := by decide +kernel
theorem dX8_refusedWith_21 : decode cX8_refusedWith 21 = .ok (.iload_n 1, 1) := by decide +kernel
theorem dX8_refusedWith_22 : decode cX8_refusedWith 22 = .ok (.sipush 144, 3) := by decide +kernel
theorem dX8_refusedWith_25 : decode cX8_refusedWith 25 = .ok (.iadd, 1) := by decide +kernel
theorem dX8_refusedWith_26 : decode cX8_refusedWith 26 = .ok (.iconst 4, 1) := by decide +kernel
theorem dX8_refusedWith_27 : decode cX8_refusedWith 27 = .ok (.iload 6, 2) := by decide +kernel
theorem dX8_refusedWith_29 : decode cX8_refusedWith 29 = .ok (.imul, 1) := by decide +kernel
theorem dX8_refusedWith_30 : decode cX8_refusedWith 30 = .ok (.iadd, 1) := by decide +kernel
theorem dX8_refusedWith_31 : decode cX8_refusedWith 31 = .ok (.istore 7, 2) := by decide +kernel
theorem dX8_refusedWith_33 : decode cX8_refusedWith 33 = .ok (.aload_n 0, 1) := by decide +kernel
theorem dX8_refusedWith_34 : decode cX8_refusedWith 34 = .ok (.getfield 7, 3) := by decide +kernel
theorem dX8_refusedWith_37 : decode cX8_refusedWith 37 = .ok (.iload 7, 2) := by decide +kernel
theorem dX8_refusedWith_39 : decode cX8_refusedWith 39 = .ok (.iaload, 1) := by decide +kernel
theorem dX8_refusedWith_40 : decode cX8_refusedWith 40 = .ok (.iload_n 2, 1) := by decide +kernel
theorem dX8_refusedWith_41 : decode cX8_refusedWith 41 = .ok (.if_icmp .ne 34, 3) := by decide +kernel
theorem dX8_refusedWith_44 : decode cX8_refusedWith 44 = .ok (.aload_n 0, 1) := by decide +kernel
theorem dX8_refusedWith_45 : decode cX8_refusedWith 45 = .ok (.getfield 7, 3) := by decide +kernel
theorem dX8_refusedWith_48 : decode cX8_refusedWith 48 = .ok (.iload 7, 2) := by decide +kernel
theorem dX8_refusedWith_50 : decode cX8_refusedWith 50 = .ok (.iconst 1, 1) := by decide +kernel
theorem dX8_refusedWith_51 : decode cX8_refusedWith 51 = .ok (.iadd, 1) := by decide +kernel
theorem dX8_refusedWith_52 : decode cX8_refusedWith 52 = .ok (.iaload, 1) := by decide +kernel
theorem dX8_refusedWith_53 : decode cX8_refusedWith 53 = .ok (.iload_n 3, 1) := by decide +kernel
theorem dX8_refusedWith_54 : decode cX8_refusedWith 54 = .ok (.if_icmp .ne 21, 3) := by decide +kernel
theorem dX8_refusedWith_57 : decode cX8_refusedWith 57 = .ok (.aload_n 0, 1) := by decide +kernel
theorem dX8_refusedWith_58 : decode cX8_refusedWith 58 = .ok (.getfield 7, 3) := by decide +kernel
theorem dX8_refusedWith_61 : decode cX8_refusedWith 61 = .ok (.iload 7, 2) := by decide +kernel
theorem dX8_refusedWith_63 : decode cX8_refusedWith 63 = .ok (.iconst 2, 1) := by decide +kernel
theorem dX8_refusedWith_64 : decode cX8_refusedWith 64 = .ok (.iadd, 1) := by decide +kernel
theorem dX8_refusedWith_65 : decode cX8_refusedWith 65 = .ok (.iaload, 1) := by decide +kernel
theorem dX8_refusedWith_66 : decode cX8_refusedWith 66 = .ok (.iload 4, 2) := by decide +kernel
theorem dX8_refusedWith_68 : decode cX8_refusedWith 68 = .ok (.if_icmp .ne 7, 3) := by decide +kernel
theorem dX8_refusedWith_71 : decode cX8_refusedWith 71 = .ok (.iconst 1, 1) := by decide +kernel
theorem dX8_refusedWith_72 : decode cX8_refusedWith 72 = .ok (.goto 4, 3) := by decide +kernel
theorem dX8_refusedWith_75 : decode cX8_refusedWith 75 = .ok (.iconst 0, 1) := by decide +kernel
theorem dX8_refusedWith_76 : decode cX8_refusedWith 76 = .ok (.istore 8, 2) := by decide +kernel
theorem dX8_refusedWith_78 : decode cX8_refusedWith 78 = .ok (.iload 8, 2) := by decide +kernel
theorem dX8_refusedWith_80 : decode cX8_refusedWith 80 = .ok (.ifCond .eq 29, 3) := by decide +kernel
theorem dX8_refusedWith_83 : decode cX8_refusedWith 83 = .ok (.aload_n 0, 1) := by decide +kernel
theorem dX8_refusedWith_84 : decode cX8_refusedWith 84 = .ok (.getfield 7, 3) := by decide +kernel
theorem dX8_refusedWith_87 : decode cX8_refusedWith 87 = .ok (.iload 7, 2) := by decide +kernel
theorem dX8_refusedWith_89 : decode cX8_refusedWith 89 = .ok (.iconst 3, 1) := by decide +kernel
theorem dX8_refusedWith_90 : decode cX8_refusedWith 90 = .ok (.iadd, 1) := by decide +kernel
theorem dX8_refusedWith_91 : decode cX8_refusedWith 91 = .ok (.iaload, 1) := by decide +kernel
theorem dX8_refusedWith_92 : decode cX8_refusedWith 92 = .ok (.iload 5, 2) := by decide +kernel
theorem dX8_refusedWith_94 : decode cX8_refusedWith 94 = .ok (.if_icmp .le 15, 3) := by decide +kernel
theorem dX8_refusedWith_97 : decode cX8_refusedWith 97 = .ok (.aload_n 0, 1) := by decide +kernel
theorem dX8_refusedWith_98 : decode cX8_refusedWith 98 = .ok (.getfield 7, 3) := by decide +kernel
theorem dX8_refusedWith_101 : decode cX8_refusedWith 101 = .ok (.iload 7, 2) := by decide +kernel
theorem dX8_refusedWith_103 : decode cX8_refusedWith 103 = .ok (.iconst 3, 1) := by decide +kernel
theorem dX8_refusedWith_104 : decode cX8_refusedWith 104 = .ok (.iadd, 1) := by decide +kernel
theorem dX8_refusedWith_105 : decode cX8_refusedWith 105 = .ok (.iaload, 1) := by decide +kernel
theorem dX8_refusedWith_106 : decode cX8_refusedWith 106 = .ok (.goto 5, 3) := by decide +kernel
theorem dX8_refusedWith_109 : decode cX8_refusedWith 109 = .ok (.iload 5, 2) := by decide +kernel
theorem dX8_refusedWith_111 : decode cX8_refusedWith 111 = .ok (.istore 5, 2) := by decide +kernel
theorem dX8_refusedWith_113 : decode cX8_refusedWith 113 = .ok (.iinc 6 1, 3) := by decide +kernel
theorem dX8_refusedWith_116 : decode cX8_refusedWith 116 = .ok (.goto (-109), 3) := by decide +kernel
theorem dX8_refusedWith_119 : decode cX8_refusedWith 119 = .ok (.iload 5, 2) := by decide +kernel
theorem dX8_refusedWith_121 : decode cX8_refusedWith 121 = .ok (.ireturn, 1) := by decide +kernel
theorem dX8_refusal_0 : decode cX8_refusal 0 = .ok (.iload_n 1, 1) := by decide +kernel
theorem dX8_refusal_1 : decode cX8_refusal 1 = .ok (.iload_n 2, 1) := by decide +kernel
theorem dX8_refusal_2 : decode cX8_refusal 2 = .ok (.invokestatic 36, 3) := by decide +kernel
theorem dX8_refusal_5 : decode cX8_refusal 5 = .ok (.istore 4, 2) := by decide +kernel
theorem dX8_refusal_7 : decode cX8_refusal 7 = .ok (.aload_n 0, 1) := by decide +kernel
theorem dX8_refusal_8 : decode cX8_refusal 8 = .ok (.getfield 7, 3) := by decide +kernel
theorem dX8_refusal_11 : decode cX8_refusal 11 = .ok (.iload 4, 2) := by decide +kernel
theorem dX8_refusal_13 : decode cX8_refusal 13 = .ok (.iconst 1, 1) := by decide +kernel
theorem dX8_refusal_14 : decode cX8_refusal 14 = .ok (.iadd, 1) := by decide +kernel
theorem dX8_refusal_15 : decode cX8_refusal 15 = .ok (.iaload, 1) := by decide +kernel
theorem dX8_refusal_16 : decode cX8_refusal 16 = .ok (.istore 5, 2) := by decide +kernel
theorem dX8_refusal_18 : decode cX8_refusal 18 = .ok (.aload_n 0, 1) := by decide +kernel
theorem dX8_refusal_19 : decode cX8_refusal 19 = .ok (.getfield 7, 3) := by decide +kernel
theorem dX8_refusal_22 : decode cX8_refusal 22 = .ok (.iload 4, 2) := by decide +kernel
theorem dX8_refusal_24 : decode cX8_refusal 24 = .ok (.iconst 2, 1) := by decide +kernel
theorem dX8_refusal_25 : decode cX8_refusal 25 = .ok (.iadd, 1) := by decide +kernel
theorem dX8_refusal_26 : decode cX8_refusal 26 = .ok (.iaload, 1) := by decide +kernel
theorem dX8_refusal_27 : decode cX8_refusal 27 = .ok (.istore 6, 2) := by decide +kernel
theorem dX8_refusal_29 : decode cX8_refusal 29 = .ok (.aload_n 0, 1) := by decide +kernel
theorem dX8_refusal_30 : decode cX8_refusal 30 = .ok (.getfield 7, 3) := by decide +kernel
theorem dX8_refusal_33 : decode cX8_refusal 33 = .ok (.iload 4, 2) := by decide +kernel
theorem dX8_refusal_35 : decode cX8_refusal 35 = .ok (.iconst 3, 1) := by decide +kernel
theorem dX8_refusal_36 : decode cX8_refusal 36 = .ok (.iadd, 1) := by decide +kernel
theorem dX8_refusal_37 : decode cX8_refusal 37 = .ok (.iaload, 1) := by decide +kernel
theorem dX8_refusal_38 : decode cX8_refusal 38 = .ok (.istore 7, 2) := by decide +kernel
theorem dX8_refusal_40 : decode cX8_refusal 40 = .ok (.iload_n 1, 1) := by decide +kernel
theorem dX8_refusal_41 : decode cX8_refusal 41 = .ok (.iload 5, 2) := by decide +kernel
theorem dX8_refusal_43 : decode cX8_refusal 43 = .ok (.iload 6, 2) := by decide +kernel
theorem dX8_refusal_45 : decode cX8_refusal 45 = .ok (.invokestatic 43, 3) := by decide +kernel
theorem dX8_refusal_48 : decode cX8_refusal 48 = .ok (.istore 8, 2) := by decide +kernel
theorem dX8_refusal_50 : decode cX8_refusal 50 = .ok (.iload_n 1, 1) := by decide +kernel
theorem dX8_refusal_51 : decode cX8_refusal 51 = .ok (.bipush 6, 2) := by decide +kernel
theorem dX8_refusal_53 : decode cX8_refusal 53 = .ok (.iload 6, 2) := by decide +kernel
theorem dX8_refusal_55 : decode cX8_refusal 55 = .ok (.invokestatic 43, 3) := by decide +kernel
theorem dX8_refusal_58 : decode cX8_refusal 58 = .ok (.istore 9, 2) := by decide +kernel
theorem dX8_refusal_60 : decode cX8_refusal 60 = .ok (.iload 7, 2) := by decide +kernel
theorem dX8_refusal_62 : decode cX8_refusal 62 = .ok (.iconst 2, 1) := by decide +kernel
theorem dX8_refusal_63 : decode cX8_refusal 63 = .ok (.if_icmp .ne 7, 3) := by decide +kernel
theorem dX8_refusal_66 : decode cX8_refusal 66 = .ok (.iconst 1, 1) := by decide +kernel
theorem dX8_refusal_67 : decode cX8_refusal 67 = .ok (.goto 4, 3) := by decide +kernel
theorem dX8_refusal_70 : decode cX8_refusal 70 = .ok (.iconst 0, 1) := by decide +kernel
theorem dX8_refusal_71 : decode cX8_refusal 71 = .ok (.istore 10, 2) := by decide +kernel
theorem dX8_refusal_73 : decode cX8_refusal 73 = .ok (.iload_n 3, 1) := by decide +kernel
theorem dX8_refusal_74 : decode cX8_refusal 74 = .ok (.aload_n 0, 1) := by decide +kernel
theorem dX8_refusal_75 : decode cX8_refusal 75 = .ok (.getfield 7, 3) := by decide +kernel
theorem dX8_refusal_78 : decode cX8_refusal 78 = .ok (.iload_n 1, 1) := by decide +kernel
theorem dX8_refusal_79 : decode cX8_refusal 79 = .ok (.iconst 0, 1) := by decide +kernel
theorem dX8_refusal_80 : decode cX8_refusal 80 = .ok (.iadd, 1) := by decide +kernel
theorem dX8_refusal_81 : decode cX8_refusal 81 = .ok (.iaload, 1) := by decide +kernel
theorem dX8_refusal_82 : decode cX8_refusal 82 = .ok (.if_icmp .ge 5, 3) := by decide +kernel
theorem dX8_refusal_85 : decode cX8_refusal 85 = .ok (.iconst 1, 1) := by decide +kernel
theorem dX8_refusal_86 : decode cX8_refusal 86 = .ok (.ireturn, 1) := by decide +kernel
theorem dX8_refusal_87 : decode cX8_refusal 87 = .ok (.iload_n 3, 1) := by decide +kernel
theorem dX8_refusal_88 : decode cX8_refusal 88 = .ok (.aload_n 0, 1) := by decide +kernel
theorem dX8_refusal_89 : decode cX8_refusal 89 = .ok (.iload_n 1, 1) := by decide +kernel
theorem dX8_refusal_90 : decode cX8_refusal 90 = .ok (.iload 5, 2) := by decide +kernel
theorem dX8_refusal_92 : decode cX8_refusal 92 = .ok (.iload 6, 2) := by decide +kernel
theorem dX8_refusal_94 : decode cX8_refusal 94 = .ok (.iload 7, 2) := by decide +kernel
theorem dX8_refusal_96 : decode cX8_refusal 96 = .ok (.invokevirtual 47, 3) := by decide +kernel
theorem dX8_refusal_99 : decode cX8_refusal 99 = .ok (.if_icmp .gt 5, 3) := by decide +kernel
theorem dX8_refusal_102 : decode cX8_refusal 102 = .ok (.iconst 2, 1) := by decide +kernel
theorem dX8_refusal_103 : decode cX8_refusal 103 = .ok (.ireturn, 1) := by decide +kernel
theorem dX8_refusal_104 : decode cX8_refusal 104 = .ok (.iload 5, 2) := by decide +kernel
theorem dX8_refusal_106 : decode cX8_refusal 106 = .ok (.bipush 6, 2) := by decide +kernel
theorem dX8_refusal_108 : decode cX8_refusal 108 = .ok (.if_icmp .eq 47, 3) := by decide +kernel
theorem dX8_refusal_111 : decode cX8_refusal 111 = .ok (.iload 10, 2) := by decide +kernel
theorem dX8_refusal_113 : decode cX8_refusal 113 = .ok (.ifCond .ne 42, 3) := by decide +kernel
theorem dX8_refusal_116 : decode cX8_refusal 116 = .ok (.aload_n 0, 1) := by decide +kernel
theorem dX8_refusal_117 : decode cX8_refusal 117 = .ok (.getfield 7, 3) := by decide +kernel
theorem dX8_refusal_120 : decode cX8_refusal 120 = .ok (.iload 9, 2) := by decide +kernel
theorem dX8_refusal_122 : decode cX8_refusal 122 = .ok (.iaload, 1) := by decide +kernel
theorem dX8_refusal_123 : decode cX8_refusal 123 = .ok (.bipush (-5), 2) := by decide +kernel
theorem dX8_refusal_125 : decode cX8_refusal 125 = .ok (.if_icmp .eq 30, 3) := by decide +kernel
theorem dX8_refusal_128 : decode cX8_refusal 128 = .ok (.aload_n 0, 1) := by decide +kernel
theorem dX8_refusal_129 : decode cX8_refusal 129 = .ok (.getfield 7, 3) := by decide +kernel
theorem dX8_refusal_132 : decode cX8_refusal 132 = .ok (.iload 9, 2) := by decide +kernel
theorem dX8_refusal_134 : decode cX8_refusal 134 = .ok (.iaload, 1) := by decide +kernel
theorem dX8_refusal_135 : decode cX8_refusal 135 = .ok (.iload 7, 2) := by decide +kernel
theorem dX8_refusal_137 : decode cX8_refusal 137 = .ok (.if_icmp .eq 18, 3) := by decide +kernel
theorem dX8_refusal_140 : decode cX8_refusal 140 = .ok (.aload_n 0, 1) := by decide +kernel
theorem dX8_refusal_141 : decode cX8_refusal 141 = .ok (.getfield 7, 3) := by decide +kernel
theorem dX8_refusal_144 : decode cX8_refusal 144 = .ok (.iload 9, 2) := by decide +kernel
theorem dX8_refusal_146 : decode cX8_refusal 146 = .ok (.iconst 1, 1) := by decide +kernel
theorem dX8_refusal_147 : decode cX8_refusal 147 = .ok (.iadd, 1) := by decide +kernel
theorem dX8_refusal_148 : decode cX8_refusal 148 = .ok (.iaload, 1) := by decide +kernel
theorem dX8_refusal_149 : decode cX8_refusal 149 = .ok (.iload_n 3, 1) := by decide +kernel
theorem dX8_refusal_150 : decode cX8_refusal 150 = .ok (.if_icmp .le 5, 3) := by decide +kernel
theorem dX8_refusal_153 : decode cX8_refusal 153 = .ok (.iconst 3, 1) := by decide +kernel
theorem dX8_refusal_154 : decode cX8_refusal 154 = .ok (.ireturn, 1) := by decide +kernel
theorem dX8_refusal_155 : decode cX8_refusal 155 = .ok (.iload 10, 2) := by decide +kernel
theorem dX8_refusal_157 : decode cX8_refusal 157 = .ok (.ifCond .eq 18, 3) := by decide +kernel
theorem dX8_refusal_160 : decode cX8_refusal 160 = .ok (.aload_n 0, 1) := by decide +kernel
theorem dX8_refusal_161 : decode cX8_refusal 161 = .ok (.getfield 7, 3) := by decide +kernel
theorem dX8_refusal_164 : decode cX8_refusal 164 = .ok (.iload 8, 2) := by decide +kernel
theorem dX8_refusal_166 : decode cX8_refusal 166 = .ok (.iaload, 1) := by decide +kernel
theorem dX8_refusal_167 : decode cX8_refusal 167 = .ok (.bipush (-5), 2) := by decide +kernel
theorem dX8_refusal_169 : decode cX8_refusal 169 = .ok (.if_icmp .ne 33, 3) := by decide +kernel
theorem dX8_refusal_172 : decode cX8_refusal 172 = .ok (.goto 28, 3) := by decide +kernel
theorem dX8_refusal_175 : decode cX8_refusal 175 = .ok (.aload_n 0, 1) := by decide +kernel
theorem dX8_refusal_176 : decode cX8_refusal 176 = .ok (.getfield 7, 3) := by decide +kernel
theorem dX8_refusal_179 : decode cX8_refusal 179 = .ok (.iload 8, 2) := by decide +kernel
theorem dX8_refusal_181 : decode cX8_refusal 181 = .ok (.iaload, 1) := by decide +kernel
theorem dX8_refusal_182 : decode cX8_refusal 182 = .ok (.iload 7, 2) := by decide +kernel
theorem dX8_refusal_184 : decode cX8_refusal 184 = .ok (.if_icmp .ne 18, 3) := by decide +kernel
theorem dX8_refusal_187 : decode cX8_refusal 187 = .ok (.aload_n 0, 1) := by decide +kernel
theorem dX8_refusal_188 : decode cX8_refusal 188 = .ok (.getfield 7, 3) := by decide +kernel
theorem dX8_refusal_191 : decode cX8_refusal 191 = .ok (.iload 8, 2) := by decide +kernel
theorem dX8_refusal_193 : decode cX8_refusal 193 = .ok (.iconst 1, 1) := by decide +kernel
theorem dX8_refusal_194 : decode cX8_refusal 194 = .ok (.iadd, 1) := by decide +kernel
theorem dX8_refusal_195 : decode cX8_refusal 195 = .ok (.iaload, 1) := by decide +kernel
theorem dX8_refusal_196 : decode cX8_refusal 196 = .ok (.iload_n 3, 1) := by decide +kernel
theorem dX8_refusal_197 : decode cX8_refusal 197 = .ok (.if_icmp .lt 5, 3) := by decide +kernel
theorem dX8_refusal_200 : decode cX8_refusal 200 = .ok (.iconst 4, 1) := by decide +kernel
theorem dX8_refusal_201 : decode cX8_refusal 201 = .ok (.ireturn, 1) := by decide +kernel
theorem dX8_refusal_202 : decode cX8_refusal 202 = .ok (.iload 10, 2) := by decide +kernel
theorem dX8_refusal_204 : decode cX8_refusal 204 = .ok (.ifCond .eq 20, 3) := by decide +kernel
theorem dX8_refusal_207 : decode cX8_refusal 207 = .ok (.iconst 2, 1) := by decide +kernel
theorem dX8_refusal_208 : decode cX8_refusal 208 = .ok (.iload_n 3, 1) := by decide +kernel
theorem dX8_refusal_209 : decode cX8_refusal 209 = .ok (.imul, 1) := by decide +kernel
theorem dX8_refusal_210 : decode cX8_refusal 210 = .ok (.aload_n 0, 1) := by decide +kernel
theorem dX8_refusal_211 : decode cX8_refusal 211 = .ok (.iload_n 1, 1) := by decide +kernel
theorem dX8_refusal_212 : decode cX8_refusal 212 = .ok (.iload 5, 2) := by decide +kernel
theorem dX8_refusal_214 : decode cX8_refusal 214 = .ok (.invokevirtual 51, 3) := by decide +kernel
theorem dX8_refusal_217 : decode cX8_refusal 217 = .ok (.if_icmp .gt 7, 3) := by decide +kernel
theorem dX8_refusal_220 : decode cX8_refusal 220 = .ok (.iconst 5, 1) := by decide +kernel
theorem dX8_refusal_221 : decode cX8_refusal 221 = .ok (.goto 4, 3) := by decide +kernel
theorem dX8_refusal_224 : decode cX8_refusal 224 = .ok (.iconst 0, 1) := by decide +kernel
theorem dX8_refusal_225 : decode cX8_refusal 225 = .ok (.ireturn, 1) := by decide +kernel
theorem dX8_passes_0 : decode cX8_passes 0 = .ok (.iload_n 1, 1) := by decide +kernel
theorem dX8_passes_1 : decode cX8_passes 1 = .ok (.iload_n 2, 1) := by decide +kernel
theorem dX8_passes_2 : decode cX8_passes 2 = .ok (.invokestatic 36, 3) := by decide +kernel
theorem dX8_passes_5 : decode cX8_passes 5 = .ok (.istore 4, 2) := by decide +kernel
theorem dX8_passes_7 : decode cX8_passes 7 = .ok (.iload_n 1, 1) := by decide +kernel
theorem dX8_passes_8 : decode cX8_passes 8 = .ok (.aload_n 0, 1) := by decide +kernel
theorem dX8_passes_9 : decode cX8_passes 9 = .ok (.getfield 7, 3) := by decide +kernel
theorem dX8_passes_12 : decode cX8_passes 12 = .ok (.iload 4, 2) := by decide +kernel
theorem dX8_passes_14 : decode cX8_passes 14 = .ok (.iconst 1, 1) := by decide +kernel
theorem dX8_passes_15 : decode cX8_passes 15 = .ok (.iadd, 1) := by decide +kernel
theorem dX8_passes_16 : decode cX8_passes 16 = .ok (.iaload, 1) := by decide +kernel
theorem dX8_passes_17 : decode cX8_passes 17 = .ok (.aload_n 0, 1) := by decide +kernel
theorem dX8_passes_18 : decode cX8_passes 18 = .ok (.getfield 7, 3) := by decide +kernel
theorem dX8_passes_21 : decode cX8_passes 21 = .ok (.iload 4, 2) := by decide +kernel
theorem dX8_passes_23 : decode cX8_passes 23 = .ok (.iconst 2, 1) := by decide +kernel
theorem dX8_passes_24 : decode cX8_passes 24 = .ok (.iadd, 1) := by decide +kernel
theorem dX8_passes_25 : decode cX8_passes 25 = .ok (.iaload, 1) := by decide +kernel
theorem dX8_passes_26 : decode cX8_passes 26 = .ok (.invokestatic 43, 3) := by decide +kernel
theorem dX8_passes_29 : decode cX8_passes 29 = .ok (.istore 5, 2) := by decide +kernel
theorem dX8_passes_31 : decode cX8_passes 31 = .ok (.aload_n 0, 1) := by decide +kernel
theorem dX8_passes_32 : decode cX8_passes 32 = .ok (.getfield 7, 3) := by decide +kernel
theorem dX8_passes_35 : decode cX8_passes 35 = .ok (.iload 4, 2) := by decide +kernel
theorem dX8_passes_37 : decode cX8_passes 37 = .ok (.iconst 3, 1) := by decide +kernel
theorem dX8_passes_38 : decode cX8_passes 38 = .ok (.iadd, 1) := by decide +kernel
theorem dX8_passes_39 : decode cX8_passes 39 = .ok (.iaload, 1) := by decide +kernel
theorem dX8_passes_40 : decode cX8_passes 40 = .ok (.iconst 2, 1) := by decide +kernel
theorem dX8_passes_41 : decode cX8_passes 41 = .ok (.if_icmp .ne 7, 3) := by decide +kernel
theorem dX8_passes_44 : decode cX8_passes 44 = .ok (.iconst 1, 1) := by decide +kernel
theorem dX8_passes_45 : decode cX8_passes 45 = .ok (.goto 4, 3) := by decide +kernel
theorem dX8_passes_48 : decode cX8_passes 48 = .ok (.iconst 0, 1) := by decide +kernel
theorem dX8_passes_49 : decode cX8_passes 49 = .ok (.istore 6, 2) := by decide +kernel
theorem dX8_passes_51 : decode cX8_passes 51 = .ok (.aload_n 0, 1) := by decide +kernel
theorem dX8_passes_52 : decode cX8_passes 52 = .ok (.getfield 7, 3) := by decide +kernel
theorem dX8_passes_55 : decode cX8_passes 55 = .ok (.iload 5, 2) := by decide +kernel
theorem dX8_passes_57 : decode cX8_passes 57 = .ok (.iload 6, 2) := by decide +kernel
theorem dX8_passes_59 : decode cX8_passes 59 = .ok (.ifCond .eq 8, 3) := by decide +kernel
theorem dX8_passes_62 : decode cX8_passes 62 = .ok (.bipush (-5), 2) := by decide +kernel
theorem dX8_passes_64 : decode cX8_passes 64 = .ok (.goto 12, 3) := by decide +kernel
theorem dX8_passes_67 : decode cX8_passes 67 = .ok (.aload_n 0, 1) := by decide +kernel
theorem dX8_passes_68 : decode cX8_passes 68 = .ok (.getfield 7, 3) := by decide +kernel
theorem dX8_passes_71 : decode cX8_passes 71 = .ok (.iload 4, 2) := by decide +kernel
theorem dX8_passes_73 : decode cX8_passes 73 = .ok (.iconst 3, 1) := by decide +kernel
theorem dX8_passes_74 : decode cX8_passes 74 = .ok (.iadd, 1) := by decide +kernel
theorem dX8_passes_75 : decode cX8_passes 75 = .ok (.iaload, 1) := by decide +kernel
theorem dX8_passes_76 : decode cX8_passes 76 = .ok (.iastore, 1) := by decide +kernel
theorem dX8_passes_77 : decode cX8_passes 77 = .ok (.aload_n 0, 1) := by decide +kernel
theorem dX8_passes_78 : decode cX8_passes 78 = .ok (.getfield 7, 3) := by decide +kernel
theorem dX8_passes_81 : decode cX8_passes 81 = .ok (.iload 5, 2) := by decide +kernel
theorem dX8_passes_83 : decode cX8_passes 83 = .ok (.iconst 1, 1) := by decide +kernel
theorem dX8_passes_84 : decode cX8_passes 84 = .ok (.iadd, 1) := by decide +kernel
theorem dX8_passes_85 : decode cX8_passes 85 = .ok (.iload_n 3, 1) := by decide +kernel
theorem dX8_passes_86 : decode cX8_passes 86 = .ok (.iastore, 1) := by decide +kernel
theorem dX8_passes_87 : decode cX8_passes 87 = .ok (.aload_n 0, 1) := by decide +kernel
theorem dX8_passes_88 : decode cX8_passes 88 = .ok (.getfield 7, 3) := by decide +kernel
theorem dX8_passes_91 : decode cX8_passes 91 = .ok (.iload 5, 2) := by decide +kernel
theorem dX8_passes_93 : decode cX8_passes 93 = .ok (.iconst 2, 1) := by decide +kernel
theorem dX8_passes_94 : decode cX8_passes 94 = .ok (.iadd, 1) := by decide +kernel
theorem dX8_passes_95 : decode cX8_passes 95 = .ok (.aload_n 0, 1) := by decide +kernel
theorem dX8_passes_96 : decode cX8_passes 96 = .ok (.getfield 7, 3) := by decide +kernel
theorem dX8_passes_99 : decode cX8_passes 99 = .ok (.iload_n 1, 1) := by decide +kernel
theorem dX8_passes_100 : decode cX8_passes 100 = .ok (.iconst 3, 1) := by decide +kernel
theorem dX8_passes_101 : decode cX8_passes 101 = .ok (.iadd, 1) := by decide +kernel
theorem dX8_passes_102 : decode cX8_passes 102 = .ok (.iaload, 1) := by decide +kernel
theorem dX8_passes_103 : decode cX8_passes 103 = .ok (.iastore, 1) := by decide +kernel
theorem dX8_passes_104 : decode cX8_passes 104 = .ok (.aload_n 0, 1) := by decide +kernel
theorem dX8_passes_105 : decode cX8_passes 105 = .ok (.getfield 7, 3) := by decide +kernel
theorem dX8_passes_108 : decode cX8_passes 108 = .ok (.iload_n 1, 1) := by decide +kernel
theorem dX8_passes_109 : decode cX8_passes 109 = .ok (.bipush 10, 2) := by decide +kernel
theorem dX8_passes_111 : decode cX8_passes 111 = .ok (.iadd, 1) := by decide +kernel
theorem dX8_passes_112 : decode cX8_passes 112 = .ok (.dup2, 1) := by decide +kernel
theorem dX8_passes_113 : decode cX8_passes 113 = .ok (.iaload, 1) := by decide +kernel
theorem dX8_passes_114 : decode cX8_passes 114 = .ok (.iload 6, 2) := by decide +kernel
theorem dX8_passes_116 : decode cX8_passes 116 = .ok (.invokestatic 54, 3) := by decide +kernel
theorem dX8_passes_119 : decode cX8_passes 119 = .ok (.iadd, 1) := by decide +kernel
theorem dX8_passes_120 : decode cX8_passes 120 = .ok (.iastore, 1) := by decide +kernel
theorem dX8_passes_121 : decode cX8_passes 121 = .ok (.return_, 1) := by decide +kernel
theorem dX8_sorts_0 : decode cX8_sorts 0 = .ok (.iconst 0, 1) := by decide +kernel
theorem dX8_sorts_1 : decode cX8_sorts 1 = .ok (.istore_n 2, 1) := by decide +kernel
theorem dX8_sorts_2 : decode cX8_sorts 2 = .ok (.iload_n 2, 1) := by decide +kernel
theorem dX8_sorts_3 : decode cX8_sorts 3 = .ok (.aload_n 0, 1) := by decide +kernel
theorem dX8_sorts_4 : decode cX8_sorts 4 = .ok (.getfield 7, 3) := by decide +kernel
theorem dX8_sorts_7 : decode cX8_sorts 7 = .ok (.iload_n 1, 1) := by decide +kernel
theorem dX8_sorts_8 : decode cX8_sorts 8 = .ok (.bipush 6, 2) := by decide +kernel
theorem dX8_sorts_10 : decode cX8_sorts 10 = .ok (.iadd, 1) := by decide +kernel
theorem dX8_sorts_11 : decode cX8_sorts 11 = .ok (.iaload, 1) := by decide +kernel
theorem dX8_sorts_12 : decode cX8_sorts 12 = .ok (.if_icmp .ge 64, 3) := by decide +kernel
theorem dX8_sorts_15 : decode cX8_sorts 15 = .ok (.iload_n 2, 1) := by decide +kernel
theorem dX8_sorts_16 : decode cX8_sorts 16 = .ok (.istore_n 3, 1) := by decide +kernel
theorem dX8_sorts_17 : decode cX8_sorts 17 = .ok (.iload_n 3, 1) := by decide +kernel
theorem dX8_sorts_18 : decode cX8_sorts 18 = .ok (.ifCond .le 45, 3) := by decide +kernel
theorem dX8_sorts_21 : decode cX8_sorts 21 = .ok (.aload_n 0, 1) := by decide +kernel
theorem dX8_sorts_22 : decode cX8_sorts 22 = .ok (.iload_n 1, 1) := by decide +kernel
theorem dX8_sorts_23 : decode cX8_sorts 23 = .ok (.aload_n 0, 1) := by decide +kernel
theorem dX8_sorts_24 : decode cX8_sorts 24 = .ok (.getfield 23, 3) := by decide +kernel
theorem dX8_sorts_27 : decode cX8_sorts 27 = .ok (.iload_n 3, 1) := by decide +kernel
theorem dX8_sorts_28 : decode cX8_sorts 28 = .ok (.iconst 1, 1) := by decide +kernel
theorem dX8_sorts_29 : decode cX8_sorts 29 = .ok (.isub, 1) := by decide +kernel
theorem dX8_sorts_30 : decode cX8_sorts 30 = .ok (.iaload, 1) := by decide +kernel
theorem dX8_sorts_31 : decode cX8_sorts 31 = .ok (.invokevirtual 58, 3) := by decide +kernel
theorem dX8_sorts_34 : decode cX8_sorts 34 = .ok (.aload_n 0, 1) := by decide +kernel
theorem dX8_sorts_35 : decode cX8_sorts 35 = .ok (.iload_n 1, 1) := by decide +kernel
theorem dX8_sorts_36 : decode cX8_sorts 36 = .ok (.iload_n 2, 1) := by decide +kernel
theorem dX8_sorts_37 : decode cX8_sorts 37 = .ok (.invokevirtual 58, 3) := by decide +kernel
theorem dX8_sorts_40 : decode cX8_sorts 40 = .ok (.if_icmp .ge 23, 3) := by decide +kernel
theorem dX8_sorts_43 : decode cX8_sorts 43 = .ok (.aload_n 0, 1) := by decide +kernel
theorem dX8_sorts_44 : decode cX8_sorts 44 = .ok (.getfield 23, 3) := by decide +kernel
theorem dX8_sorts_47 : decode cX8_sorts 47 = .ok (.iload_n 3, 1) := by decide +kernel
theorem dX8_sorts_48 : decode cX8_sorts 48 = .ok (.aload_n 0, 1) := by decide +kernel
theorem dX8_sorts_49 : decode cX8_sorts 49 = .ok (.getfield 23, 3) := by decide +kernel
theorem dX8_sorts_52 : decode cX8_sorts 52 = .ok (.iload_n 3, 1) := by decide +kernel
theorem dX8_sorts_53 : decode cX8_sorts 53 = .ok (.iconst 1, 1) := by decide +kernel
theorem dX8_sorts_54 : decode cX8_sorts 54 = .ok (.isub, 1) := by decide +kernel
theorem dX8_sorts_55 : decode cX8_sorts 55 = .ok (.iaload, 1) := by decide +kernel
theorem dX8_sorts_56 : decode cX8_sorts 56 = .ok (.iastore, 1) := by decide +kernel
theorem dX8_sorts_57 : decode cX8_sorts 57 = .ok (.iinc 3 (-1), 3) := by decide +kernel
theorem dX8_sorts_60 : decode cX8_sorts 60 = .ok (.goto (-43), 3) := by decide +kernel
theorem dX8_sorts_63 : decode cX8_sorts 63 = .ok (.aload_n 0, 1) := by decide +kernel
theorem dX8_sorts_64 : decode cX8_sorts 64 = .ok (.getfield 23, 3) := by decide +kernel
theorem dX8_sorts_67 : decode cX8_sorts 67 = .ok (.iload_n 3, 1) := by decide +kernel
theorem dX8_sorts_68 : decode cX8_sorts 68 = .ok (.iload_n 2, 1) := by decide +kernel
theorem dX8_sorts_69 : decode cX8_sorts 69 = .ok (.iastore, 1) := by decide +kernel
theorem dX8_sorts_70 : decode cX8_sorts 70 = .ok (.iinc 2 1, 3) := by decide +kernel
theorem dX8_sorts_73 : decode cX8_sorts 73 = .ok (.goto (-71), 3) := by decide +kernel
theorem dX8_sorts_76 : decode cX8_sorts 76 = .ok (.return_, 1) := by decide +kernel
theorem dX8_hears_0 : decode cX8_hears 0 = .ok (.aload_n 0, 1) := by decide +kernel
theorem dX8_hears_1 : decode cX8_hears 1 = .ok (.getfield 7, 3) := by decide +kernel
theorem dX8_hears_4 : decode cX8_hears 4 = .ok (.iload_n 1, 1) := by decide +kernel
theorem dX8_hears_5 : decode cX8_hears 5 = .ok (.bipush 6, 2) := by decide +kernel
theorem dX8_hears_7 : decode cX8_hears 7 = .ok (.iadd, 1) := by decide +kernel
theorem dX8_hears_8 : decode cX8_hears 8 = .ok (.iaload, 1) := by decide +kernel
theorem dX8_hears_9 : decode cX8_hears 9 = .ok (.istore_n 2, 1) := by decide +kernel
theorem dX8_hears_10 : decode cX8_hears 10 = .ok (.iconst 0, 1) := by decide +kernel
theorem dX8_hears_11 : decode cX8_hears 11 = .ok (.istore_n 3, 1) := by decide +kernel
theorem dX8_hears_12 : decode cX8_hears 12 = .ok (.aload_n 0, 1) := by decide +kernel
theorem dX8_hears_13 : decode cX8_hears 13 = .ok (.iload_n 1, 1) := by decide +kernel
theorem dX8_hears_14 : decode cX8_hears 14 = .ok (.invokevirtual 61, 3) := by decide +kernel
theorem dX8_hears_17 : decode cX8_hears 17 = .ok (.iconst 0, 1) := by decide +kernel
theorem dX8_hears_18 : decode cX8_hears 18 = .ok (.istore 4, 2) := by decide +kernel
theorem dX8_hears_20 : decode cX8_hears 20 = .ok (.iload 4, 2) := by decide +kernel
theorem dX8_hears_22 : decode cX8_hears 22 = .ok (.iload_n 2, 1) := by decide +kernel
theorem dX8_hears_23 : decode cX8_hears 23 = .ok (.if_icmp .ge 64, 3) := by decide +kernel
theorem dX8_hears_26 : decode cX8_hears 26 = .ok (.aload_n 0, 1) := by decide +kernel
theorem dX8_hears_27 : decode cX8_hears 27 = .ok (.getfield 23, 3) := by decide +kernel
theorem dX8_hears_30 : decode cX8_hears 30 = .ok (.iload 4, 2) := by decide +kernel
theorem dX8_hears_32 : decode cX8_hears 32 = .ok (.iaload, 1) := by decide +kernel
theorem dX8_hears_33 : decode cX8_hears 33 = .ok (.istore 5, 2) := by decide +kernel
theorem dX8_hears_35 : decode cX8_hears 35 = .ok (.aload_n 0, 1) := by decide +kernel
theorem dX8_hears_36 : decode cX8_hears 36 = .ok (.iload_n 1, 1) := by decide +kernel
theorem dX8_hears_37 : decode cX8_hears 37 = .ok (.iload 5, 2) := by decide +kernel
theorem dX8_hears_39 : decode cX8_hears 39 = .ok (.invokevirtual 58, 3) := by decide +kernel
theorem dX8_hears_42 : decode cX8_hears 42 = .ok (.istore 6, 2) := by decide +kernel
theorem dX8_hears_44 : decode cX8_hears 44 = .ok (.aload_n 0, 1) := by decide +kernel
theorem dX8_hears_45 : decode cX8_hears 45 = .ok (.iload_n 1, 1) := by decide +kernel
theorem dX8_hears_46 : decode cX8_hears 46 = .ok (.iload 5, 2) := by decide +kernel
theorem dX8_hears_48 : decode cX8_hears 48 = .ok (.iload 6, 2) := by decide +kernel
theorem dX8_hears_50 : decode cX8_hears 50 = .ok (.invokevirtual 65, 3) := by decide +kernel
theorem dX8_hears_53 : decode cX8_hears 53 = .ok (.istore 7, 2) := by decide +kernel
theorem dX8_hears_55 : decode cX8_hears 55 = .ok (.aload_n 0, 1) := by decide +kernel
theorem dX8_hears_56 : decode cX8_hears 56 = .ok (.getfield 26, 3) := by decide +kernel
theorem dX8_hears_59 : decode cX8_hears 59 = .ok (.iload 5, 2) := by decide +kernel
theorem dX8_hears_61 : decode cX8_hears 61 = .ok (.iload 7, 2) := by decide +kernel
theorem dX8_hears_63 : decode cX8_hears 63 = .ok (.iastore, 1) := by decide +kernel
theorem dX8_hears_64 : decode cX8_hears 64 = .ok (.iload 7, 2) := by decide +kernel
theorem dX8_hears_66 : decode cX8_hears 66 = .ok (.ifCond .ne 15, 3) := by decide +kernel
theorem dX8_hears_69 : decode cX8_hears 69 = .ok (.aload_n 0, 1) := by decide +kernel
theorem dX8_hears_70 : decode cX8_hears 70 = .ok (.iload_n 1, 1) := by decide +kernel
theorem dX8_hears_71 : decode cX8_hears 71 = .ok (.iload 5, 2) := by decide +kernel
theorem dX8_hears_73 : decode cX8_hears 73 = .ok (.iload 6, 2) := by decide +kernel
theorem dX8_hears_75 : decode cX8_hears 75 = .ok (.invokevirtual 68, 3) := by decide +kernel
theorem dX8_hears_78 : decode cX8_hears 78 = .ok (.iinc 3 1, 3) := by decide +kernel
theorem dX8_hears_81 : decode cX8_hears 81 = .ok (.iinc 4 1, 3) := by decide +kernel
theorem dX8_hears_84 : decode cX8_hears 84 = .ok (.goto (-64), 3) := by decide +kernel
theorem dX8_hears_87 : decode cX8_hears 87 = .ok (.aload_n 0, 1) := by decide +kernel
theorem dX8_hears_88 : decode cX8_hears 88 = .ok (.getfield 7, 3) := by decide +kernel
theorem dX8_hears_91 : decode cX8_hears 91 = .ok (.iload_n 1, 1) := by decide +kernel
theorem dX8_hears_92 : decode cX8_hears 92 = .ok (.bipush 11, 2) := by decide +kernel
theorem dX8_hears_94 : decode cX8_hears 94 = .ok (.iadd, 1) := by decide +kernel
theorem dX8_hears_95 : decode cX8_hears 95 = .ok (.iconst 0, 1) := by decide +kernel
theorem dX8_hears_96 : decode cX8_hears 96 = .ok (.iastore, 1) := by decide +kernel
theorem dX8_hears_97 : decode cX8_hears 97 = .ok (.iconst 0, 1) := by decide +kernel
theorem dX8_hears_98 : decode cX8_hears 98 = .ok (.istore 4, 2) := by decide +kernel
theorem dX8_hears_100 : decode cX8_hears 100 = .ok (.iload 4, 2) := by decide +kernel
theorem dX8_hears_102 : decode cX8_hears 102 = .ok (.iload_n 2, 1) := by decide +kernel
theorem dX8_hears_103 : decode cX8_hears 103 = .ok (.if_icmp .ge 174, 3) := by decide +kernel
theorem dX8_hears_106 : decode cX8_hears 106 = .ok (.iload_n 1, 1) := by decide +kernel
theorem dX8_hears_107 : decode cX8_hears 107 = .ok (.iload 4, 2) := by decide +kernel
theorem dX8_hears_109 : decode cX8_hears 109 = .ok (.invokestatic 36, 3) := by decide +kernel
theorem dX8_hears_112 : decode cX8_hears 112 = .ok (.istore 5, 2) := by decide +kernel
theorem dX8_hears_114 : decode cX8_hears 114 = .ok (.iload_n 1, 1) := by decide +kernel
theorem dX8_hears_115 : decode cX8_hears 115 = .ok (.aload_n 0, 1) := by decide +kernel
theorem dX8_hears_116 : decode cX8_hears 116 = .ok (.getfield 7, 3) := by decide +kernel
theorem dX8_hears_119 : decode cX8_hears 119 = .ok (.iload 5, 2) := by decide +kernel
theorem dX8_hears_121 : decode cX8_hears 121 = .ok (.iaload, 1) := by decide +kernel
theorem dX8_hears_122 : decode cX8_hears 122 = .ok (.invokestatic 40, 3) := by decide +kernel
theorem dX8_hears_125 : decode cX8_hears 125 = .ok (.istore 6, 2) := by decide +kernel
theorem dX8_hears_127 : decode cX8_hears 127 = .ok (.aload_n 0, 1) := by decide +kernel
theorem dX8_hears_128 : decode cX8_hears 128 = .ok (.getfield 26, 3) := by decide +kernel
theorem dX8_hears_131 : decode cX8_hears 131 = .ok (.iload 4, 2) := by decide +kernel
theorem dX8_hears_133 : decode cX8_hears 133 = .ok (.iaload, 1) := by decide +kernel
theorem dX8_hears_134 : decode cX8_hears 134 = .ok (.ifCond .le 7, 3) := by decide +kernel
theorem dX8_hears_137 : decode cX8_hears 137 = .ok (.iconst 1, 1) := by decide +kernel
theorem dX8_hears_138 : decode cX8_hears 138 = .ok (.goto 4, 3) := by decide +kernel
theorem dX8_hears_141 : decode cX8_hears 141 = .ok (.iconst 0, 1) := by decide +kernel
theorem dX8_hears_142 : decode cX8_hears 142 = .ok (.istore 7, 2) := by decide +kernel
theorem dX8_hears_144 : decode cX8_hears 144 = .ok (.aload_n 0, 1) := by decide +kernel
theorem dX8_hears_145 : decode cX8_hears 145 = .ok (.getfield 7, 3) := by decide +kernel
theorem dX8_hears_148 : decode cX8_hears 148 = .ok (.iload 6, 2) := by decide +kernel
theorem dX8_hears_150 : decode cX8_hears 150 = .ok (.iload 7, 2) := by decide +kernel
theorem dX8_hears_152 : decode cX8_hears 152 = .ok (.ifCond .eq 7, 3) := by decide +kernel
theorem dX8_hears_155 : decode cX8_hears 155 = .ok (.iconst 5, 1) := by decide +kernel
theorem dX8_hears_156 : decode cX8_hears 156 = .ok (.goto 4, 3) := by decide +kernel
theorem dX8_hears_159 : decode cX8_hears 159 = .ok (.iconst 4, 1) := by decide +kernel
theorem dX8_hears_160 : decode cX8_hears 160 = .ok (.iadd, 1) := by decide +kernel
theorem dX8_hears_161 : decode cX8_hears 161 = .ok (.dup2, 1) := by decide +kernel
theorem dX8_hears_162 : decode cX8_hears 162 = .ok (.iaload, 1) := by decide +kernel
theorem dX8_hears_163 : decode cX8_hears 163 = .ok (.iconst 1, 1) := by decide +kernel
theorem dX8_hears_164 : decode cX8_hears 164 = .ok (.iadd, 1) := by decide +kernel
theorem dX8_hears_165 : decode cX8_hears 165 = .ok (.iastore, 1) := by decide +kernel
theorem dX8_hears_166 : decode cX8_hears 166 = .ok (.iload 7, 2) := by decide +kernel
theorem dX8_hears_168 : decode cX8_hears 168 = .ok (.ifCond .eq 103, 3) := by decide +kernel
theorem dX8_hears_171 : decode cX8_hears 171 = .ok (.iload_n 1, 1) := by decide +kernel
theorem dX8_hears_172 : decode cX8_hears 172 = .ok (.sipush 144, 3) := by decide +kernel
theorem dX8_hears_175 : decode cX8_hears 175 = .ok (.iadd, 1) := by decide +kernel
theorem dX8_hears_176 : decode cX8_hears 176 = .ok (.iconst 4, 1) := by decide +kernel
theorem dX8_hears_177 : decode cX8_hears 177 = .ok (.aload_n 0, 1) := by decide +kernel
theorem dX8_hears_178 : decode cX8_hears 178 = .ok (.getfield 7, 3) := by decide +kernel
theorem dX8_hears_181 : decode cX8_hears 181 = .ok (.iload_n 1, 1) := by decide +kernel
theorem dX8_hears_182 : decode cX8_hears 182 = .ok (.bipush 11, 2) := by decide +kernel
theorem dX8_hears_184 : decode cX8_hears 184 = .ok (.iadd, 1) := by decide +kernel
theorem dX8_hears_185 : decode cX8_hears 185 = .ok (.iaload, 1) := by decide +kernel
theorem dX8_hears_186 : decode cX8_hears 186 = .ok (.imul, 1) := by decide +kernel
theorem dX8_hears_187 : decode cX8_hears 187 = .ok (.iadd, 1) := by decide +kernel
theorem dX8_hears_188 : decode cX8_hears 188 = .ok (.istore 8, 2) := by decide +kernel
theorem dX8_hears_190 : decode cX8_hears 190 = .ok (.aload_n 0, 1) := by decide +kernel
theorem dX8_hears_191 : decode cX8_hears 191 = .ok (.getfield 7, 3) := by decide +kernel
theorem dX8_hears_194 : decode cX8_hears 194 = .ok (.iload 8, 2) := by decide +kernel
theorem dX8_hears_196 : decode cX8_hears 196 = .ok (.aload_n 0, 1) := by decide +kernel
theorem dX8_hears_197 : decode cX8_hears 197 = .ok (.getfield 7, 3) := by decide +kernel
theorem dX8_hears_200 : decode cX8_hears 200 = .ok (.iload 5, 2) := by decide +kernel
theorem dX8_hears_202 : decode cX8_hears 202 = .ok (.iconst 1, 1) := by decide +kernel
theorem dX8_hears_203 : decode cX8_hears 203 = .ok (.iadd, 1) := by decide +kernel
theorem dX8_hears_204 : decode cX8_hears 204 = .ok (.iaload, 1) := by decide +kernel
theorem dX8_hears_205 : decode cX8_hears 205 = .ok (.iastore, 1) := by decide +kernel
theorem dX8_hears_206 : decode cX8_hears 206 = .ok (.aload_n 0, 1) := by decide +kernel
theorem dX8_hears_207 : decode cX8_hears 207 = .ok (.getfield 7, 3) := by decide +kernel
theorem dX8_hears_210 : decode cX8_hears 210 = .ok (.iload 8, 2) := by decide +kernel
theorem dX8_hears_212 : decode cX8_hears 212 = .ok (.iconst 1, 1) := by decide +kernel
theorem dX8_hears_213 : decode cX8_hears 213 = .ok (.iadd, 1) := by decide +kernel
theorem dX8_hears_214 : decode cX8_hears 214 = .ok (.aload_n 0, 1) := by decide +kernel
theorem dX8_hears_215 : decode cX8_hears 215 = .ok (.getfield 7, 3) := by decide +kernel
theorem dX8_hears_218 : decode cX8_hears 218 = .ok (.iload 5, 2) := by decide +kernel
theorem dX8_hears_220 : decode cX8_hears 220 = .ok (.iconst 2, 1) := by decide +kernel
theorem dX8_hears_221 : decode cX8_hears 221 = .ok (.iadd, 1) := by decide +kernel
theorem dX8_hears_222 : decode cX8_hears 222 = .ok (.iaload, 1) := by decide +kernel
theorem dX8_hears_223 : decode cX8_hears 223 = .ok (.iastore, 1) := by decide +kernel
theorem dX8_hears_224 : decode cX8_hears 224 = .ok (.aload_n 0, 1) := by decide +kernel
theorem dX8_hears_225 : decode cX8_hears 225 = .ok (.getfield 7, 3) := by decide +kernel
theorem dX8_hears_228 : decode cX8_hears 228 = .ok (.iload 8, 2) := by decide +kernel
theorem dX8_hears_230 : decode cX8_hears 230 = .ok (.iconst 2, 1) := by decide +kernel
theorem dX8_hears_231 : decode cX8_hears 231 = .ok (.iadd, 1) := by decide +kernel
theorem dX8_hears_232 : decode cX8_hears 232 = .ok (.aload_n 0, 1) := by decide +kernel
theorem dX8_hears_233 : decode cX8_hears 233 = .ok (.getfield 7, 3) := by decide +kernel
theorem dX8_hears_236 : decode cX8_hears 236 = .ok (.iload 5, 2) := by decide +kernel
theorem dX8_hears_238 : decode cX8_hears 238 = .ok (.iconst 3, 1) := by decide +kernel
theorem dX8_hears_239 : decode cX8_hears 239 = .ok (.iadd, 1) := by decide +kernel
theorem dX8_hears_240 : decode cX8_hears 240 = .ok (.iaload, 1) := by decide +kernel
theorem dX8_hears_241 : decode cX8_hears 241 = .ok (.iastore, 1) := by decide +kernel
theorem dX8_hears_242 : decode cX8_hears 242 = .ok (.aload_n 0, 1) := by decide +kernel
theorem dX8_hears_243 : decode cX8_hears 243 = .ok (.getfield 7, 3) := by decide +kernel
theorem dX8_hears_246 : decode cX8_hears 246 = .ok (.iload 8, 2) := by decide +kernel
theorem dX8_hears_248 : decode cX8_hears 248 = .ok (.iconst 3, 1) := by decide +kernel
theorem dX8_hears_249 : decode cX8_hears 249 = .ok (.iadd, 1) := by decide +kernel
theorem dX8_hears_250 : decode cX8_hears 250 = .ok (.aload_n 0, 1) := by decide +kernel
theorem dX8_hears_251 : decode cX8_hears 251 = .ok (.iload_n 1, 1) := by decide +kernel
theorem dX8_hears_252 : decode cX8_hears 252 = .ok (.iload 4, 2) := by decide +kernel
theorem dX8_hears_254 : decode cX8_hears 254 = .ok (.invokevirtual 58, 3) := by decide +kernel
theorem dX8_hears_257 : decode cX8_hears 257 = .ok (.iastore, 1) := by decide +kernel
theorem dX8_hears_258 : decode cX8_hears 258 = .ok (.aload_n 0, 1) := by decide +kernel
theorem dX8_hears_259 : decode cX8_hears 259 = .ok (.getfield 7, 3) := by decide +kernel
theorem dX8_hears_262 : decode cX8_hears 262 = .ok (.iload_n 1, 1) := by decide +kernel
theorem dX8_hears_263 : decode cX8_hears 263 = .ok (.bipush 11, 2) := by decide +kernel
theorem dX8_hears_265 : decode cX8_hears 265 = .ok (.iadd, 1) := by decide +kernel
theorem dX8_hears_266 : decode cX8_hears 266 = .ok (.dup2, 1) := by decide +kernel
theorem dX8_hears_267 : decode cX8_hears 267 = .ok (.iaload, 1) := by decide +kernel
theorem dX8_hears_268 : decode cX8_hears 268 = .ok (.iconst 1, 1) := by decide +kernel
theorem dX8_hears_269 : decode cX8_hears 269 = .ok (.iadd, 1) := by decide +kernel
theorem dX8_hears_270 : decode cX8_hears 270 = .ok (.iastore, 1) := by decide +kernel
theorem dX8_hears_271 : decode cX8_hears 271 = .ok (.iinc 4 1, 3) := by decide +kernel
theorem dX8_hears_274 : decode cX8_hears 274 = .ok (.goto (-174), 3) := by decide +kernel
theorem dX8_hears_277 : decode cX8_hears 277 = .ok (.aload_n 0, 1) := by decide +kernel
theorem dX8_hears_278 : decode cX8_hears 278 = .ok (.getfield 7, 3) := by decide +kernel
theorem dX8_hears_281 : decode cX8_hears 281 = .ok (.iload_n 1, 1) := by decide +kernel
theorem dX8_hears_282 : decode cX8_hears 282 = .ok (.bipush 8, 2) := by decide +kernel
theorem dX8_hears_284 : decode cX8_hears 284 = .ok (.iadd, 1) := by decide +kernel
theorem dX8_hears_285 : decode cX8_hears 285 = .ok (.dup2, 1) := by decide +kernel
theorem dX8_hears_286 : decode cX8_hears 286 = .ok (.iaload, 1) := by decide +kernel
theorem dX8_hears_287 : decode cX8_hears 287 = .ok (.iload_n 3, 1) := by decide +kernel
theorem dX8_hears_288 : decode cX8_hears 288 = .ok (.iadd, 1) := by decide +kernel
theorem dX8_hears_289 : decode cX8_hears 289 = .ok (.iastore, 1) := by decide +kernel
theorem dX8_hears_290 : decode cX8_hears 290 = .ok (.aload_n 0, 1) := by decide +kernel
theorem dX8_hears_291 : decode cX8_hears 291 = .ok (.getfield 7, 3) := by decide +kernel
theorem dX8_hears_294 : decode cX8_hears 294 = .ok (.iload_n 1, 1) := by decide +kernel
theorem dX8_hears_295 : decode cX8_hears 295 = .ok (.bipush 9, 2) := by decide +kernel
theorem dX8_hears_297 : decode cX8_hears 297 = .ok (.iadd, 1) := by decide +kernel
theorem dX8_hears_298 : decode cX8_hears 298 = .ok (.dup2, 1) := by decide +kernel
theorem dX8_hears_299 : decode cX8_hears 299 = .ok (.iaload, 1) := by decide +kernel
theorem dX8_hears_300 : decode cX8_hears 300 = .ok (.iload_n 2, 1) := by decide +kernel
theorem dX8_hears_301 : decode cX8_hears 301 = .ok (.iload_n 3, 1) := by decide +kernel
theorem dX8_hears_302 : decode cX8_hears 302 = .ok (.isub, 1) := by decide +kernel
theorem dX8_hears_303 : decode cX8_hears 303 = .ok (.iadd, 1) := by decide +kernel
theorem dX8_hears_304 : decode cX8_hears 304 = .ok (.iastore, 1) := by decide +kernel
theorem dX8_hears_305 : decode cX8_hears 305 = .ok (.iload_n 3, 1) := by decide +kernel
theorem dX8_hears_306 : decode cX8_hears 306 = .ok (.ireturn, 1) := by decide +kernel
theorem dX8_day_0 : decode cX8_day 0 = .ok (.aload_n 0, 1) := by decide +kernel
theorem dX8_day_1 : decode cX8_day 1 = .ok (.getfield 7, 3) := by decide +kernel
theorem dX8_day_4 : decode cX8_day 4 = .ok (.iload_n 1, 1) := by decide +kernel
theorem dX8_day_5 : decode cX8_day 5 = .ok (.iconst 2, 1) := by decide +kernel
theorem dX8_day_6 : decode cX8_day 6 = .ok (.iadd, 1) := by decide +kernel
theorem dX8_day_7 : decode cX8_day 7 = .ok (.dup2, 1) := by decide +kernel
theorem dX8_day_8 : decode cX8_day 8 = .ok (.iaload, 1) := by decide +kernel
theorem dX8_day_9 : decode cX8_day 9 = .ok (.iconst 1, 1) := by decide +kernel
theorem dX8_day_10 : decode cX8_day 10 = .ok (.iadd, 1) := by decide +kernel
theorem dX8_day_11 : decode cX8_day 11 = .ok (.iastore, 1) := by decide +kernel
theorem dX8_day_12 : decode cX8_day 12 = .ok (.aload_n 0, 1) := by decide +kernel
theorem dX8_day_13 : decode cX8_day 13 = .ok (.getfield 7, 3) := by decide +kernel
theorem dX8_day_16 : decode cX8_day 16 = .ok (.iload_n 1, 1) := by decide +kernel
theorem dX8_day_17 : decode cX8_day 17 = .ok (.iconst 4, 1) := by decide +kernel
theorem dX8_day_18 : decode cX8_day 18 = .ok (.iadd, 1) := by decide +kernel
theorem dX8_day_19 : decode cX8_day 19 = .ok (.dup2, 1) := by decide +kernel
theorem dX8_day_20 : decode cX8_day 20 = .ok (.iaload, 1) := by decide +kernel
theorem dX8_day_21 : decode cX8_day 21 = .ok (.iconst 1, 1) := by decide +kernel
theorem dX8_day_22 : decode cX8_day 22 = .ok (.iadd, 1) := by decide +kernel
theorem dX8_day_23 : decode cX8_day 23 = .ok (.iastore, 1) := by decide +kernel
theorem dX8_day_24 : decode cX8_day 24 = .ok (.aload_n 0, 1) := by decide +kernel
theorem dX8_day_25 : decode cX8_day 25 = .ok (.getfield 7, 3) := by decide +kernel
theorem dX8_day_28 : decode cX8_day 28 = .ok (.iload_n 1, 1) := by decide +kernel
theorem dX8_day_29 : decode cX8_day 29 = .ok (.iconst 4, 1) := by decide +kernel
theorem dX8_day_30 : decode cX8_day 30 = .ok (.iadd, 1) := by decide +kernel
theorem dX8_day_31 : decode cX8_day 31 = .ok (.iaload, 1) := by decide +kernel
theorem dX8_day_32 : decode cX8_day 32 = .ok (.aload_n 0, 1) := by decide +kernel
theorem dX8_day_33 : decode cX8_day 33 = .ok (.getfield 7, 3) := by decide +kernel
theorem dX8_day_36 : decode cX8_day 36 = .ok (.iload_n 1, 1) := by decide +kernel
theorem dX8_day_37 : decode cX8_day 37 = .ok (.iconst 1, 1) := by decide +kernel
theorem dX8_day_38 : decode cX8_day 38 = .ok (.iadd, 1) := by decide +kernel
theorem dX8_day_39 : decode cX8_day 39 = .ok (.iaload, 1) := by decide +kernel
theorem dX8_day_40 : decode cX8_day 40 = .ok (.if_icmp .ge 5, 3) := by decide +kernel
theorem dX8_day_43 : decode cX8_day 43 = .ok (.iconst 0, 1) := by decide +kernel
theorem dX8_day_44 : decode cX8_day 44 = .ok (.ireturn, 1) := by decide +kernel
theorem dX8_day_45 : decode cX8_day 45 = .ok (.aload_n 0, 1) := by decide +kernel
theorem dX8_day_46 : decode cX8_day 46 = .ok (.iload_n 1, 1) := by decide +kernel
theorem dX8_day_47 : decode cX8_day 47 = .ok (.invokevirtual 72, 3) := by decide +kernel
theorem dX8_day_50 : decode cX8_day 50 = .ok (.istore_n 2, 1) := by decide +kernel
theorem dX8_day_51 : decode cX8_day 51 = .ok (.aload_n 0, 1) := by decide +kernel
theorem dX8_day_52 : decode cX8_day 52 = .ok (.getfield 7, 3) := by decide +kernel
theorem dX8_day_55 : decode cX8_day 55 = .ok (.iload_n 1, 1) := by decide +kernel
theorem dX8_day_56 : decode cX8_day 56 = .ok (.iconst 3, 1) := by decide +kernel
theorem dX8_day_57 : decode cX8_day 57 = .ok (.iadd, 1) := by decide +kernel
theorem dX8_day_58 : decode cX8_day 58 = .ok (.dup2, 1) := by decide +kernel
theorem dX8_day_59 : decode cX8_day 59 = .ok (.iaload, 1) := by decide +kernel
theorem dX8_day_60 : decode cX8_day 60 = .ok (.iconst 1, 1) := by decide +kernel
theorem dX8_day_61 : decode cX8_day 61 = .ok (.iadd, 1) := by decide +kernel
theorem dX8_day_62 : decode cX8_day 62 = .ok (.iastore, 1) := by decide +kernel
theorem dX8_day_63 : decode cX8_day 63 = .ok (.aload_n 0, 1) := by decide +kernel
theorem dX8_day_64 : decode cX8_day 64 = .ok (.getfield 7, 3) := by decide +kernel
theorem dX8_day_67 : decode cX8_day 67 = .ok (.iload_n 1, 1) := by decide +kernel
theorem dX8_day_68 : decode cX8_day 68 = .ok (.iconst 4, 1) := by decide +kernel
theorem dX8_day_69 : decode cX8_day 69 = .ok (.iadd, 1) := by decide +kernel
theorem dX8_day_70 : decode cX8_day 70 = .ok (.iconst 0, 1) := by decide +kernel
theorem dX8_day_71 : decode cX8_day 71 = .ok (.iastore, 1) := by decide +kernel
theorem dX8_day_72 : decode cX8_day 72 = .ok (.aload_n 0, 1) := by decide +kernel
theorem dX8_day_73 : decode cX8_day 73 = .ok (.getfield 7, 3) := by decide +kernel
theorem dX8_day_76 : decode cX8_day 76 = .ok (.iload_n 1, 1) := by decide +kernel
theorem dX8_day_77 : decode cX8_day 77 = .ok (.bipush 6, 2) := by decide +kernel
theorem dX8_day_79 : decode cX8_day 79 = .ok (.iadd, 1) := by decide +kernel
theorem dX8_day_80 : decode cX8_day 80 = .ok (.iconst 0, 1) := by decide +kernel
theorem dX8_day_81 : decode cX8_day 81 = .ok (.iastore, 1) := by decide +kernel
theorem dX8_day_82 : decode cX8_day 82 = .ok (.iconst 0, 1) := by decide +kernel
theorem dX8_day_83 : decode cX8_day 83 = .ok (.istore_n 3, 1) := by decide +kernel
theorem dX8_day_84 : decode cX8_day 84 = .ok (.iload_n 3, 1) := by decide +kernel
theorem dX8_day_85 : decode cX8_day 85 = .ok (.aload_n 0, 1) := by decide +kernel
theorem dX8_day_86 : decode cX8_day 86 = .ok (.getfield 7, 3) := by decide +kernel
theorem dX8_day_89 : decode cX8_day 89 = .ok (.iload_n 1, 1) := by decide +kernel
theorem dX8_day_90 : decode cX8_day 90 = .ok (.iconst 5, 1) := by decide +kernel
theorem dX8_day_91 : decode cX8_day 91 = .ok (.iadd, 1) := by decide +kernel
theorem dX8_day_92 : decode cX8_day 92 = .ok (.iaload, 1) := by decide +kernel
theorem dX8_day_93 : decode cX8_day 93 = .ok (.if_icmp .ge 23, 3) := by decide +kernel
theorem dX8_day_96 : decode cX8_day 96 = .ok (.aload_n 0, 1) := by decide +kernel
theorem dX8_day_97 : decode cX8_day 97 = .ok (.getfield 7, 3) := by decide +kernel
theorem dX8_day_100 : decode cX8_day 100 = .ok (.iload_n 1, 1) := by decide +kernel
theorem dX8_day_101 : decode cX8_day 101 = .ok (.iload_n 3, 1) := by decide +kernel
theorem dX8_day_102 : decode cX8_day 102 = .ok (.invokestatic 40, 3) := by decide +kernel
theorem dX8_day_105 : decode cX8_day 105 = .ok (.iconst 2, 1) := by decide +kernel
theorem dX8_day_106 : decode cX8_day 106 = .ok (.iadd, 1) := by decide +kernel
theorem dX8_day_107 : decode cX8_day 107 = .ok (.bipush (-5), 2) := by decide +kernel
theorem dX8_day_109 : decode cX8_day 109 = .ok (.iastore, 1) := by decide +kernel
theorem dX8_day_110 : decode cX8_day 110 = .ok (.iinc 3 1, 3) := by decide +kernel
theorem dX8_day_113 : decode cX8_day 113 = .ok (.goto (-29), 3) := by decide +kernel
theorem dX8_day_116 : decode cX8_day 116 = .ok (.iload_n 2, 1) := by decide +kernel
theorem dX8_day_117 : decode cX8_day 117 = .ok (.ireturn, 1) := by decide +kernel
theorem dX8_isDrone_0 : decode cX8_isDrone 0 = .ok (.iload_n 1, 1) := by decide +kernel
theorem dX8_isDrone_1 : decode cX8_isDrone 1 = .ok (.iconst 0, 1) := by decide +kernel
theorem dX8_isDrone_2 : decode cX8_isDrone 2 = .ok (.aload_n 0, 1) := by decide +kernel
theorem dX8_isDrone_3 : decode cX8_isDrone 3 = .ok (.getfield 7, 3) := by decide +kernel
theorem dX8_isDrone_6 : decode cX8_isDrone 6 = .ok (.iconst 5, 1) := by decide +kernel
theorem dX8_isDrone_7 : decode cX8_isDrone 7 = .ok (.iaload, 1) := by decide +kernel
theorem dX8_isDrone_8 : decode cX8_isDrone 8 = .ok (.iconst 1, 1) := by decide +kernel
theorem dX8_isDrone_9 : decode cX8_isDrone 9 = .ok (.isub, 1) := by decide +kernel
theorem dX8_isDrone_10 : decode cX8_isDrone 10 = .ok (.invokestatic 76, 3) := by decide +kernel
theorem dX8_isDrone_13 : decode cX8_isDrone 13 = .ok (.ireturn, 1) := by decide +kernel
theorem dX8_isPetition_0 : decode cX8_isPetition 0 = .ok (.iload_n 1, 1) := by decide +kernel
theorem dX8_isPetition_1 : decode cX8_isPetition 1 = .ok (.iconst 0, 1) := by decide +kernel
theorem dX8_isPetition_2 : decode cX8_isPetition 2 = .ok (.aload_n 0, 1) := by decide +kernel
theorem dX8_isPetition_3 : decode cX8_isPetition 3 = .ok (.getfield 7, 3) := by decide +kernel
theorem dX8_isPetition_6 : decode cX8_isPetition 6 = .ok (.bipush 6, 2) := by decide +kernel
theorem dX8_isPetition_8 : decode cX8_isPetition 8 = .ok (.iaload, 1) := by decide +kernel
theorem dX8_isPetition_9 : decode cX8_isPetition 9 = .ok (.iconst 1, 1) := by decide +kernel
theorem dX8_isPetition_10 : decode cX8_isPetition 10 = .ok (.isub, 1) := by decide +kernel
theorem dX8_isPetition_11 : decode cX8_isPetition 11 = .ok (.invokestatic 76, 3) := by decide +kernel
theorem dX8_isPetition_14 : decode cX8_isPetition 14 = .ok (.ireturn, 1) := by decide +kernel
theorem dX8_isDoing_0 : decode cX8_isDoing 0 = .ok (.iload_n 0, 1) := by decide +kernel
theorem dX8_isDoing_1 : decode cX8_isDoing 1 = .ok (.iconst 0, 1) := by decide +kernel
theorem dX8_isDoing_2 : decode cX8_isDoing 2 = .ok (.bipush 19, 2) := by decide +kernel
theorem dX8_isDoing_4 : decode cX8_isDoing 4 = .ok (.invokestatic 76, 3) := by decide +kernel
theorem dX8_isDoing_7 : decode cX8_isDoing 7 = .ok (.ireturn, 1) := by decide +kernel
theorem dX8_isComb_0 : decode cX8_isComb 0 = .ok (.iload_n 0, 1) := by decide +kernel
theorem dX8_isComb_1 : decode cX8_isComb 1 = .ok (.iconst 0, 1) := by decide +kernel
theorem dX8_isComb_2 : decode cX8_isComb 2 = .ok (.iconst 5, 1) := by decide +kernel
theorem dX8_isComb_3 : decode cX8_isComb 3 = .ok (.invokestatic 76, 3) := by decide +kernel
theorem dX8_isComb_6 : decode cX8_isComb 6 = .ok (.ireturn, 1) := by decide +kernel
theorem dX8_comes_0 : decode cX8_comes 0 = .ok (.iload_n 1, 1) := by decide +kernel
theorem dX8_comes_1 : decode cX8_comes 1 = .ok (.invokestatic 80, 3) := by decide +kernel
theorem dX8_comes_4 : decode cX8_comes 4 = .ok (.ifCond .ne 5, 3) := by decide +kernel
theorem dX8_comes_7 : decode cX8_comes 7 = .ok (.iconst (-1), 1) := by decide +kernel
theorem dX8_comes_8 : decode cX8_comes 8 = .ok (.ireturn, 1) := by decide +kernel
theorem dX8_comes_9 : decode cX8_comes 9 = .ok (.iload_n 2, 1) := by decide +kernel
theorem dX8_comes_10 : decode cX8_comes 10 = .ok (.iconst 1, 1) := by decide +kernel
theorem dX8_comes_11 : decode cX8_comes 11 = .ok (.bipush 9, 2) := by decide +kernel
theorem dX8_comes_13 : decode cX8_comes 13 = .ok (.invokestatic 76, 3) := by decide +kernel
theorem dX8_comes_16 : decode cX8_comes 16 = .ok (.ifCond .ne 6, 3) := by decide +kernel
theorem dX8_comes_19 : decode cX8_comes 19 = .ok (.bipush (-2), 2) := by decide +kernel
theorem dX8_comes_21 : decode cX8_comes 21 = .ok (.ireturn, 1) := by decide +kernel
theorem dX8_comes_22 : decode cX8_comes 22 = .ok (.aload_n 0, 1) := by decide +kernel
theorem dX8_comes_23 : decode cX8_comes 23 = .ok (.getfield 7, 3) := by decide +kernel
theorem dX8_comes_26 : decode cX8_comes 26 = .ok (.iconst 5, 1) := by decide +kernel
theorem dX8_comes_27 : decode cX8_comes 27 = .ok (.iaload, 1) := by decide +kernel
theorem dX8_comes_28 : decode cX8_comes 28 = .ok (.bipush 12, 2) := by decide +kernel
theorem dX8_comes_30 : decode cX8_comes 30 = .ok (.if_icmp .ne 6, 3) := by decide +kernel
theorem dX8_comes_33 : decode cX8_comes 33 = .ok (.bipush (-3), 2) := by decide +kernel
theorem dX8_comes_35 : decode cX8_comes 35 = .ok (.ireturn, 1) := by decide +kernel
theorem dX8_comes_36 : decode cX8_comes 36 = .ok (.iconst 0, 1) := by decide +kernel
theorem dX8_comes_37 : decode cX8_comes 37 = .ok (.aload_n 0, 1) := by decide +kernel
theorem dX8_comes_38 : decode cX8_comes 38 = .ok (.getfield 7, 3) := by decide +kernel
theorem dX8_comes_41 : decode cX8_comes 41 = .ok (.iconst 5, 1) := by decide +kernel
theorem dX8_comes_42 : decode cX8_comes 42 = .ok (.iaload, 1) := by decide +kernel
theorem dX8_comes_43 : decode cX8_comes 43 = .ok (.invokestatic 40, 3) := by decide +kernel
theorem dX8_comes_46 : decode cX8_comes 46 = .ok (.istore_n 3, 1) := by decide +kernel
theorem dX8_comes_47 : decode cX8_comes 47 = .ok (.iconst 0, 1) := by decide +kernel
theorem dX8_comes_48 : decode cX8_comes 48 = .ok (.istore 4, 2) := by decide +kernel
theorem dX8_comes_50 : decode cX8_comes 50 = .ok (.iload 4, 2) := by decide +kernel
theorem dX8_comes_52 : decode cX8_comes 52 = .ok (.bipush 6, 2) := by decide +kernel
theorem dX8_comes_54 : decode cX8_comes 54 = .ok (.if_icmp .ge 49, 3) := by decide +kernel
theorem dX8_comes_57 : decode cX8_comes 57 = .ok (.aload_n 0, 1) := by decide +kernel
theorem dX8_comes_58 : decode cX8_comes 58 = .ok (.getfield 7, 3) := by decide +kernel
theorem dX8_comes_61 : decode cX8_comes 61 = .ok (.iload_n 3, 1) := by decide +kernel
theorem dX8_comes_62 : decode cX8_comes 62 = .ok (.iload 4, 2) := by decide +kernel
theorem dX8_comes_64 : decode cX8_comes 64 = .ok (.iadd, 1) := by decide +kernel
theorem dX8_comes_65 : decode cX8_comes 65 = .ok (.iload 4, 2) := by decide +kernel
theorem dX8_comes_67 : decode cX8_comes 67 = .ok (.ifCond .ne 7, 3) := by decide +kernel
theorem dX8_comes_70 : decode cX8_comes 70 = .ok (.iload_n 1, 1) := by decide +kernel
theorem dX8_comes_71 : decode cX8_comes 71 = .ok (.goto 25, 3) := by decide +kernel
theorem dX8_comes_74 : decode cX8_comes 74 = .ok (.iload 4, 2) := by decide +kernel
theorem dX8_comes_76 : decode cX8_comes 76 = .ok (.iconst 1, 1) := by decide +kernel
theorem dX8_comes_77 : decode cX8_comes 77 = .ok (.if_icmp .ne 7, 3) := by decide +kernel
theorem dX8_comes_80 : decode cX8_comes 80 = .ok (.iload_n 2, 1) := by decide +kernel
theorem dX8_comes_81 : decode cX8_comes 81 = .ok (.goto 15, 3) := by decide +kernel
theorem dX8_comes_84 : decode cX8_comes 84 = .ok (.iload 4, 2) := by decide +kernel
theorem dX8_comes_86 : decode cX8_comes 86 = .ok (.iconst 2, 1) := by decide +kernel
theorem dX8_comes_87 : decode cX8_comes 87 = .ok (.if_icmp .ne 8, 3) := by decide +kernel
theorem dX8_comes_90 : decode cX8_comes 90 = .ok (.bipush (-5), 2) := by decide +kernel
theorem dX8_comes_92 : decode cX8_comes 92 = .ok (.goto 4, 3) := by decide +kernel
theorem dX8_comes_95 : decode cX8_comes 95 = .ok (.iconst 0, 1) := by decide +kernel
theorem dX8_comes_96 : decode cX8_comes 96 = .ok (.iastore, 1) := by decide +kernel
theorem dX8_comes_97 : decode cX8_comes 97 = .ok (.iinc 4 1, 3) := by decide +kernel
theorem dX8_comes_100 : decode cX8_comes 100 = .ok (.goto (-50), 3) := by decide +kernel
theorem dX8_comes_103 : decode cX8_comes 103 = .ok (.aload_n 0, 1) := by decide +kernel
theorem dX8_comes_104 : decode cX8_comes 104 = .ok (.getfield 7, 3) := by decide +kernel
theorem dX8_comes_107 : decode cX8_comes 107 = .ok (.iconst 5, 1) := by decide +kernel
theorem dX8_comes_108 : decode cX8_comes 108 = .ok (.dup2, 1) := by decide +kernel
theorem dX8_comes_109 : decode cX8_comes 109 = .ok (.iaload, 1) := by decide +kernel
theorem dX8_comes_110 : decode cX8_comes 110 = .ok (.iconst 1, 1) := by decide +kernel
theorem dX8_comes_111 : decode cX8_comes 111 = .ok (.iadd, 1) := by decide +kernel
theorem dX8_comes_112 : decode cX8_comes 112 = .ok (.iastore, 1) := by decide +kernel
theorem dX8_comes_113 : decode cX8_comes 113 = .ok (.aload_n 0, 1) := by decide +kernel
theorem dX8_comes_114 : decode cX8_comes 114 = .ok (.getfield 7, 3) := by decide +kernel
theorem dX8_comes_117 : decode cX8_comes 117 = .ok (.iconst 5, 1) := by decide +kernel
theorem dX8_comes_118 : decode cX8_comes 118 = .ok (.iaload, 1) := by decide +kernel
theorem dX8_comes_119 : decode cX8_comes 119 = .ok (.iconst 1, 1) := by decide +kernel
theorem dX8_comes_120 : decode cX8_comes 120 = .ok (.isub, 1) := by decide +kernel
theorem dX8_comes_121 : decode cX8_comes 121 = .ok (.ireturn, 1) := by decide +kernel
theorem dX8_moves_0 : decode cX8_moves 0 = .ok (.aload_n 0, 1) := by decide +kernel
theorem dX8_moves_1 : decode cX8_moves 1 = .ok (.iload_n 1, 1) := by decide +kernel
theorem dX8_moves_2 : decode cX8_moves 2 = .ok (.invokevirtual 84, 3) := by decide +kernel
theorem dX8_moves_5 : decode cX8_moves 5 = .ok (.ifCond .eq 10, 3) := by decide +kernel
theorem dX8_moves_8 : decode cX8_moves 8 = .ok (.iload_n 2, 1) := by decide +kernel
theorem dX8_moves_9 : decode cX8_moves 9 = .ok (.invokestatic 80, 3) := by decide +kernel
theorem dX8_moves_12 : decode cX8_moves 12 = .ok (.ifCond .ne 5, 3) := by decide +kernel
theorem dX8_moves_15 : decode cX8_moves 15 = .ok (.iconst (-1), 1) := by decide +kernel
theorem dX8_moves_16 : decode cX8_moves 16 = .ok (.ireturn, 1) := by decide +kernel
theorem dX8_moves_17 : decode cX8_moves 17 = .ok (.aload_n 0, 1) := by decide +kernel
theorem dX8_moves_18 : decode cX8_moves 18 = .ok (.getfield 7, 3) := by decide +kernel
theorem dX8_moves_21 : decode cX8_moves 21 = .ok (.iconst 0, 1) := by decide +kernel
theorem dX8_moves_22 : decode cX8_moves 22 = .ok (.iload_n 1, 1) := by decide +kernel
theorem dX8_moves_23 : decode cX8_moves 23 = .ok (.invokestatic 40, 3) := by decide +kernel
theorem dX8_moves_26 : decode cX8_moves 26 = .ok (.iaload, 1) := by decide +kernel
theorem dX8_moves_27 : decode cX8_moves 27 = .ok (.istore_n 3, 1) := by decide +kernel
theorem dX8_moves_28 : decode cX8_moves 28 = .ok (.aload_n 0, 1) := by decide +kernel
theorem dX8_moves_29 : decode cX8_moves 29 = .ok (.getfield 7, 3) := by decide +kernel
theorem dX8_moves_32 : decode cX8_moves 32 = .ok (.iconst 0, 1) := by decide +kernel
theorem dX8_moves_33 : decode cX8_moves 33 = .ok (.iload_n 1, 1) := by decide +kernel
theorem dX8_moves_34 : decode cX8_moves 34 = .ok (.invokestatic 40, 3) := by decide +kernel
theorem dX8_moves_37 : decode cX8_moves 37 = .ok (.iload_n 2, 1) := by decide +kernel
theorem dX8_moves_38 : decode cX8_moves 38 = .ok (.iastore, 1) := by decide +kernel
theorem dX8_moves_39 : decode cX8_moves 39 = .ok (.iload_n 3, 1) := by decide +kernel
theorem dX8_moves_40 : decode cX8_moves 40 = .ok (.iload_n 2, 1) := by decide +kernel
theorem dX8_moves_41 : decode cX8_moves 41 = .ok (.if_icmp .ne 8, 3) := by decide +kernel
theorem dX8_moves_44 : decode cX8_moves 44 = .ok (.bipush (-5), 2) := by decide +kernel
theorem dX8_moves_46 : decode cX8_moves 46 = .ok (.goto 4, 3) := by decide +kernel
theorem dX8_moves_49 : decode cX8_moves 49 = .ok (.iload_n 3, 1) := by decide +kernel
theorem dX8_moves_50 : decode cX8_moves 50 = .ok (.ireturn, 1) := by decide +kernel
theorem dX8_petitions_0 : decode cX8_petitions 0 = .ok (.aload_n 0, 1) := by decide +kernel
theorem dX8_petitions_1 : decode cX8_petitions 1 = .ok (.iload_n 1, 1) := by decide +kernel
theorem dX8_petitions_2 : decode cX8_petitions 2 = .ok (.invokevirtual 84, 3) := by decide +kernel
theorem dX8_petitions_5 : decode cX8_petitions 5 = .ok (.ifCond .eq 20, 3) := by decide +kernel
theorem dX8_petitions_8 : decode cX8_petitions 8 = .ok (.iload_n 2, 1) := by decide +kernel
theorem dX8_petitions_9 : decode cX8_petitions 9 = .ok (.iconst 0, 1) := by decide +kernel
theorem dX8_petitions_10 : decode cX8_petitions 10 = .ok (.bipush 6, 2) := by decide +kernel
theorem dX8_petitions_12 : decode cX8_petitions 12 = .ok (.invokestatic 76, 3) := by decide +kernel
theorem dX8_petitions_15 : decode cX8_petitions 15 = .ok (.ifCond .eq 10, 3) := by decide +kernel
theorem dX8_petitions_18 : decode cX8_petitions 18 = .ok (.iload_n 3, 1) := by decide +kernel
theorem dX8_petitions_19 : decode cX8_petitions 19 = .ok (.invokestatic 87, 3) := by decide +kernel
theorem dX8_petitions_22 : decode cX8_petitions 22 = .ok (.ifCond .ne 5, 3) := by decide +kernel
theorem dX8_petitions_25 : decode cX8_petitions 25 = .ok (.iconst (-1), 1) := by decide +kernel
theorem dX8_petitions_26 : decode cX8_petitions 26 = .ok (.ireturn, 1) := by decide +kernel
theorem dX8_petitions_27 : decode cX8_petitions 27 = .ok (.iload 4, 2) := by decide +kernel
theorem dX8_petitions_29 : decode cX8_petitions 29 = .ok (.iconst 0, 1) := by decide +kernel
theorem dX8_petitions_30 : decode cX8_petitions 30 = .ok (.iconst 2, 1) := by decide +kernel
theorem dX8_petitions_31 : decode cX8_petitions 31 = .ok (.invokestatic 76, 3) := by decide +kernel
theorem dX8_petitions_34 : decode cX8_petitions 34 = .ok (.ifCond .ne 6, 3) := by decide +kernel
theorem dX8_petitions_37 : decode cX8_petitions 37 = .ok (.bipush (-2), 2) := by decide +kernel
theorem dX8_petitions_39 : decode cX8_petitions 39 = .ok (.ireturn, 1) := by decide +kernel
theorem dX8_petitions_40 : decode cX8_petitions 40 = .ok (.iconst 0, 1) := by decide +kernel
theorem dX8_petitions_41 : decode cX8_petitions 41 = .ok (.iload_n 1, 1) := by decide +kernel
theorem dX8_petitions_42 : decode cX8_petitions 42 = .ok (.invokestatic 40, 3) := by decide +kernel
theorem dX8_petitions_45 : decode cX8_petitions 45 = .ok (.istore 5, 2) := by decide +kernel
theorem dX8_petitions_47 : decode cX8_petitions 47 = .ok (.aload_n 0, 1) := by decide +kernel
theorem dX8_petitions_48 : decode cX8_petitions 48 = .ok (.getfield 7, 3) := by decide +kernel
theorem dX8_petitions_51 : decode cX8_petitions 51 = .ok (.iload 5, 2) := by decide +kernel
theorem dX8_petitions_53 : decode cX8_petitions 53 = .ok (.iconst 2, 1) := by decide +kernel
theorem dX8_petitions_54 : decode cX8_petitions 54 = .ok (.iadd, 1) := by decide +kernel
theorem dX8_petitions_55 : decode cX8_petitions 55 = .ok (.iaload, 1) := by decide +kernel
theorem dX8_petitions_56 : decode cX8_petitions 56 = .ok (.bipush (-5), 2) := by decide +kernel
theorem dX8_petitions_58 : decode cX8_petitions 58 = .ok (.if_icmp .ne 20, 3) := by decide +kernel
theorem dX8_petitions_61 : decode cX8_petitions 61 = .ok (.iload_n 2, 1) := by decide +kernel
theorem dX8_petitions_62 : decode cX8_petitions 62 = .ok (.bipush 6, 2) := by decide +kernel
theorem dX8_petitions_64 : decode cX8_petitions 64 = .ok (.if_icmp .eq 17, 3) := by decide +kernel
theorem dX8_petitions_67 : decode cX8_petitions 67 = .ok (.aload_n 0, 1) := by decide +kernel
theorem dX8_petitions_68 : decode cX8_petitions 68 = .ok (.getfield 7, 3) := by decide +kernel
theorem dX8_petitions_71 : decode cX8_petitions 71 = .ok (.iload 5, 2) := by decide +kernel
theorem dX8_petitions_73 : decode cX8_petitions 73 = .ok (.iaload, 1) := by decide +kernel
theorem dX8_petitions_74 : decode cX8_petitions 74 = .ok (.iload_n 2, 1) := by decide +kernel
theorem dX8_petitions_75 : decode cX8_petitions 75 = .ok (.if_icmp .eq 6, 3) := by decide +kernel
theorem dX8_petitions_78 : decode cX8_petitions 78 = .ok (.bipush (-4), 2) := by decide +kernel
theorem dX8_petitions_80 : decode cX8_petitions 80 = .ok (.ireturn, 1) := by decide +kernel
theorem dX8_petitions_81 : decode cX8_petitions 81 = .ok (.iconst 0, 1) := by decide +kernel
theorem dX8_petitions_82 : decode cX8_petitions 82 = .ok (.aload_n 0, 1) := by decide +kernel
theorem dX8_petitions_83 : decode cX8_petitions 83 = .ok (.getfield 7, 3) := by decide +kernel
theorem dX8_petitions_86 : decode cX8_petitions 86 = .ok (.bipush 6, 2) := by decide +kernel
theorem dX8_petitions_88 : decode cX8_petitions 88 = .ok (.iaload, 1) := by decide +kernel
theorem dX8_petitions_89 : decode cX8_petitions 89 = .ok (.invokestatic 36, 3) := by decide +kernel
theorem dX8_petitions_92 : decode cX8_petitions 92 = .ok (.istore 6, 2) := by decide +kernel
theorem dX8_petitions_94 : decode cX8_petitions 94 = .ok (.aload_n 0, 1) := by decide +kernel
theorem dX8_petitions_95 : decode cX8_petitions 95 = .ok (.getfield 7, 3) := by decide +kernel
theorem dX8_petitions_98 : decode cX8_petitions 98 = .ok (.iload 6, 2) := by decide +kernel
theorem dX8_petitions_100 : decode cX8_petitions 100 = .ok (.iload_n 1, 1) := by decide +kernel
theorem dX8_petitions_101 : decode cX8_petitions 101 = .ok (.iastore, 1) := by decide +kernel
theorem dX8_petitions_102 : decode cX8_petitions 102 = .ok (.aload_n 0, 1) := by decide +kernel
theorem dX8_petitions_103 : decode cX8_petitions 103 = .ok (.getfield 7, 3) := by decide +kernel
theorem dX8_petitions_106 : decode cX8_petitions 106 = .ok (.iload 6, 2) := by decide +kernel
theorem dX8_petitions_108 : decode cX8_petitions 108 = .ok (.iconst 1, 1) := by decide +kernel
theorem dX8_petitions_109 : decode cX8_petitions 109 = .ok (.iadd, 1) := by decide +kernel
theorem dX8_petitions_110 : decode cX8_petitions 110 = .ok (.iload_n 2, 1) := by decide +kernel
theorem dX8_petitions_111 : decode cX8_petitions 111 = .ok (.iastore, 1) := by decide +kernel
theorem dX8_petitions_112 : decode cX8_petitions 112 = .ok (.aload_n 0, 1) := by decide +kernel
theorem dX8_petitions_113 : decode cX8_petitions 113 = .ok (.getfield 7, 3) := by decide +kernel
theorem dX8_petitions_116 : decode cX8_petitions 116 = .ok (.iload 6, 2) := by decide +kernel
theorem dX8_petitions_118 : decode cX8_petitions 118 = .ok (.iconst 2, 1) := by decide +kernel
theorem dX8_petitions_119 : decode cX8_petitions 119 = .ok (.iadd, 1) := by decide +kernel
theorem dX8_petitions_120 : decode cX8_petitions 120 = .ok (.iload_n 3, 1) := by decide +kernel
theorem dX8_petitions_121 : decode cX8_petitions 121 = .ok (.iastore, 1) := by decide +kernel
theorem dX8_petitions_122 : decode cX8_petitions 122 = .ok (.aload_n 0, 1) := by decide +kernel
theorem dX8_petitions_123 : decode cX8_petitions 123 = .ok (.getfield 7, 3) := by decide +kernel
theorem dX8_petitions_126 : decode cX8_petitions 126 = .ok (.iload 6, 2) := by decide +kernel
theorem dX8_petitions_128 : decode cX8_petitions 128 = .ok (.iconst 3, 1) := by decide +kernel
theorem dX8_petitions_129 : decode cX8_petitions 129 = .ok (.iadd, 1) := by decide +kernel
theorem dX8_petitions_130 : decode cX8_petitions 130 = .ok (.iload 4, 2) := by decide +kernel
theorem dX8_petitions_132 : decode cX8_petitions 132 = .ok (.iastore, 1) := by decide +kernel
theorem dX8_petitions_133 : decode cX8_petitions 133 = .ok (.aload_n 0, 1) := by decide +kernel
theorem dX8_petitions_134 : decode cX8_petitions 134 = .ok (.getfield 7, 3) := by decide +kernel
theorem dX8_petitions_137 : decode cX8_petitions 137 = .ok (.iload 6, 2) := by decide +kernel
theorem dX8_petitions_139 : decode cX8_petitions 139 = .ok (.iconst 4, 1) := by decide +kernel
theorem dX8_petitions_140 : decode cX8_petitions 140 = .ok (.iadd, 1) := by decide +kernel
theorem dX8_petitions_141 : decode cX8_petitions 141 = .ok (.iconst 0, 1) := by decide +kernel
theorem dX8_petitions_142 : decode cX8_petitions 142 = .ok (.iastore, 1) := by decide +kernel
theorem dX8_petitions_143 : decode cX8_petitions 143 = .ok (.aload_n 0, 1) := by decide +kernel
theorem dX8_petitions_144 : decode cX8_petitions 144 = .ok (.getfield 7, 3) := by decide +kernel
theorem dX8_petitions_147 : decode cX8_petitions 147 = .ok (.iload 5, 2) := by decide +kernel
theorem dX8_petitions_149 : decode cX8_petitions 149 = .ok (.iconst 2, 1) := by decide +kernel
theorem dX8_petitions_150 : decode cX8_petitions 150 = .ok (.iadd, 1) := by decide +kernel
theorem dX8_petitions_151 : decode cX8_petitions 151 = .ok (.aload_n 0, 1) := by decide +kernel
theorem dX8_petitions_152 : decode cX8_petitions 152 = .ok (.getfield 7, 3) := by decide +kernel
theorem dX8_petitions_155 : decode cX8_petitions 155 = .ok (.bipush 6, 2) := by decide +kernel
theorem dX8_petitions_157 : decode cX8_petitions 157 = .ok (.iaload, 1) := by decide +kernel
theorem dX8_petitions_158 : decode cX8_petitions 158 = .ok (.iastore, 1) := by decide +kernel
theorem dX8_petitions_159 : decode cX8_petitions 159 = .ok (.aload_n 0, 1) := by decide +kernel
theorem dX8_petitions_160 : decode cX8_petitions 160 = .ok (.getfield 7, 3) := by decide +kernel
theorem dX8_petitions_163 : decode cX8_petitions 163 = .ok (.iload 5, 2) := by decide +kernel
theorem dX8_petitions_165 : decode cX8_petitions 165 = .ok (.iconst 3, 1) := by decide +kernel
theorem dX8_petitions_166 : decode cX8_petitions 166 = .ok (.iadd, 1) := by decide +kernel
theorem dX8_petitions_167 : decode cX8_petitions 167 = .ok (.dup2, 1) := by decide +kernel
theorem dX8_petitions_168 : decode cX8_petitions 168 = .ok (.iaload, 1) := by decide +kernel
theorem dX8_petitions_169 : decode cX8_petitions 169 = .ok (.iconst 1, 1) := by decide +kernel
theorem dX8_petitions_170 : decode cX8_petitions 170 = .ok (.iadd, 1) := by decide +kernel
theorem dX8_petitions_171 : decode cX8_petitions 171 = .ok (.iastore, 1) := by decide +kernel
theorem dX8_petitions_172 : decode cX8_petitions 172 = .ok (.aload_n 0, 1) := by decide +kernel
theorem dX8_petitions_173 : decode cX8_petitions 173 = .ok (.getfield 7, 3) := by decide +kernel
theorem dX8_petitions_176 : decode cX8_petitions 176 = .ok (.bipush 7, 2) := by decide +kernel
theorem dX8_petitions_178 : decode cX8_petitions 178 = .ok (.dup2, 1) := by decide +kernel
theorem dX8_petitions_179 : decode cX8_petitions 179 = .ok (.iaload, 1) := by decide +kernel
theorem dX8_petitions_180 : decode cX8_petitions 180 = .ok (.iconst 1, 1) := by decide +kernel
theorem dX8_petitions_181 : decode cX8_petitions 181 = .ok (.iadd, 1) := by decide +kernel
theorem dX8_petitions_182 : decode cX8_petitions 182 = .ok (.iastore, 1) := by decide +kernel
theorem dX8_petitions_183 : decode cX8_petitions 183 = .ok (.aload_n 0, 1) := by decide +kernel
theorem dX8_petitions_184 : decode cX8_petitions 184 = .ok (.getfield 7, 3) := by decide +kernel
theorem dX8_petitions_187 : decode cX8_petitions 187 = .ok (.bipush 6, 2) := by decide +kernel
theorem dX8_petitions_189 : decode cX8_petitions 189 = .ok (.dup2, 1) := by decide +kernel
theorem dX8_petitions_190 : decode cX8_petitions 190 = .ok (.iaload, 1) := by decide +kernel
theorem dX8_petitions_191 : decode cX8_petitions 191 = .ok (.iconst 1, 1) := by decide +kernel
theorem dX8_petitions_192 : decode cX8_petitions 192 = .ok (.iadd, 1) := by decide +kernel
theorem dX8_petitions_193 : decode cX8_petitions 193 = .ok (.iastore, 1) := by decide +kernel
theorem dX8_petitions_194 : decode cX8_petitions 194 = .ok (.aload_n 0, 1) := by decide +kernel
theorem dX8_petitions_195 : decode cX8_petitions 195 = .ok (.getfield 7, 3) := by decide +kernel
theorem dX8_petitions_198 : decode cX8_petitions 198 = .ok (.bipush 6, 2) := by decide +kernel
theorem dX8_petitions_200 : decode cX8_petitions 200 = .ok (.iaload, 1) := by decide +kernel
theorem dX8_petitions_201 : decode cX8_petitions 201 = .ok (.iconst 1, 1) := by decide +kernel
theorem dX8_petitions_202 : decode cX8_petitions 202 = .ok (.isub, 1) := by decide +kernel
theorem dX8_petitions_203 : decode cX8_petitions 203 = .ok (.ireturn, 1) := by decide +kernel
theorem dX8_seconds_0 : decode cX8_seconds 0 = .ok (.aload_n 0, 1) := by decide +kernel
theorem dX8_seconds_1 : decode cX8_seconds 1 = .ok (.iload_n 1, 1) := by decide +kernel
theorem dX8_seconds_2 : decode cX8_seconds 2 = .ok (.invokevirtual 84, 3) := by decide +kernel
theorem dX8_seconds_5 : decode cX8_seconds 5 = .ok (.ifCond .eq 11, 3) := by decide +kernel
theorem dX8_seconds_8 : decode cX8_seconds 8 = .ok (.aload_n 0, 1) := by decide +kernel
theorem dX8_seconds_9 : decode cX8_seconds 9 = .ok (.iload_n 2, 1) := by decide +kernel
theorem dX8_seconds_10 : decode cX8_seconds 10 = .ok (.invokevirtual 90, 3) := by decide +kernel
theorem dX8_seconds_13 : decode cX8_seconds 13 = .ok (.ifCond .ne 5, 3) := by decide +kernel
theorem dX8_seconds_16 : decode cX8_seconds 16 = .ok (.iconst (-1), 1) := by decide +kernel
theorem dX8_seconds_17 : decode cX8_seconds 17 = .ok (.ireturn, 1) := by decide +kernel
theorem dX8_seconds_18 : decode cX8_seconds 18 = .ok (.iconst 0, 1) := by decide +kernel
theorem dX8_seconds_19 : decode cX8_seconds 19 = .ok (.iload_n 2, 1) := by decide +kernel
theorem dX8_seconds_20 : decode cX8_seconds 20 = .ok (.invokestatic 36, 3) := by decide +kernel
theorem dX8_seconds_23 : decode cX8_seconds 23 = .ok (.istore_n 3, 1) := by decide +kernel
theorem dX8_seconds_24 : decode cX8_seconds 24 = .ok (.aload_n 0, 1) := by decide +kernel
theorem dX8_seconds_25 : decode cX8_seconds 25 = .ok (.getfield 7, 3) := by decide +kernel
theorem dX8_seconds_28 : decode cX8_seconds 28 = .ok (.iload_n 3, 1) := by decide +kernel
theorem dX8_seconds_29 : decode cX8_seconds 29 = .ok (.iaload, 1) := by decide +kernel
theorem dX8_seconds_30 : decode cX8_seconds 30 = .ok (.iload_n 1, 1) := by decide +kernel
theorem dX8_seconds_31 : decode cX8_seconds 31 = .ok (.if_icmp .ne 6, 3) := by decide +kernel
theorem dX8_seconds_34 : decode cX8_seconds 34 = .ok (.bipush (-4), 2) := by decide +kernel
theorem dX8_seconds_36 : decode cX8_seconds 36 = .ok (.ireturn, 1) := by decide +kernel
theorem dX8_seconds_37 : decode cX8_seconds 37 = .ok (.aload_n 0, 1) := by decide +kernel
theorem dX8_seconds_38 : decode cX8_seconds 38 = .ok (.getfield 7, 3) := by decide +kernel
theorem dX8_seconds_41 : decode cX8_seconds 41 = .ok (.iload_n 3, 1) := by decide +kernel
