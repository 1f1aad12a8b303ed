theorem dX8_seconds_42 : decode cX8_seconds 42 = .ok (.iconst 4, 1) := by decide +kernel
theorem dX8_seconds_43 : decode cX8_seconds 43 = .ok (.iadd, 1) := by decide +kernel
theorem dX8_seconds_44 : decode cX8_seconds 44 = .ok (.iaload, 1) := by decide +kernel
theorem dX8_seconds_45 : decode cX8_seconds 45 = .ok (.iload_n 1, 1) := by decide +kernel
theorem dX8_seconds_46 : decode cX8_seconds 46 = .ok (.ishr, 1) := by decide +kernel
theorem dX8_seconds_47 : decode cX8_seconds 47 = .ok (.iconst 1, 1) := by decide +kernel
theorem dX8_seconds_48 : decode cX8_seconds 48 = .ok (.iand, 1) := by decide +kernel
theorem dX8_seconds_49 : decode cX8_seconds 49 = .ok (.iconst 1, 1) := by decide +kernel
theorem dX8_seconds_50 : decode cX8_seconds 50 = .ok (.if_icmp .ne 6, 3) := by decide +kernel
theorem dX8_seconds_53 : decode cX8_seconds 53 = .ok (.bipush (-5), 2) := by decide +kernel
theorem dX8_seconds_55 : decode cX8_seconds 55 = .ok (.ireturn, 1) := by decide +kernel
theorem dX8_seconds_56 : decode cX8_seconds 56 = .ok (.aload_n 0, 1) := by decide +kernel
theorem dX8_seconds_57 : decode cX8_seconds 57 = .ok (.getfield 7, 3) := by decide +kernel
theorem dX8_seconds_60 : decode cX8_seconds 60 = .ok (.iload_n 3, 1) := by decide +kernel
theorem dX8_seconds_61 : decode cX8_seconds 61 = .ok (.iconst 4, 1) := by decide +kernel
theorem dX8_seconds_62 : decode cX8_seconds 62 = .ok (.iadd, 1) := by decide +kernel
theorem dX8_seconds_63 : decode cX8_seconds 63 = .ok (.dup2, 1) := by decide +kernel
theorem dX8_seconds_64 : decode cX8_seconds 64 = .ok (.iaload, 1) := by decide +kernel
theorem dX8_seconds_65 : decode cX8_seconds 65 = .ok (.iconst 1, 1) := by decide +kernel
theorem dX8_seconds_66 : decode cX8_seconds 66 = .ok (.iload_n 1, 1) := by decide +kernel
theorem dX8_seconds_67 : decode cX8_seconds 67 = .ok (.ishl, 1) := by decide +kernel
theorem dX8_seconds_68 : decode cX8_seconds 68 = .ok (.ior, 1) := by decide +kernel
theorem dX8_seconds_69 : decode cX8_seconds 69 = .ok (.iastore, 1) := by decide +kernel
theorem dX8_seconds_70 : decode cX8_seconds 70 = .ok (.aload_n 0, 1) := by decide +kernel
theorem dX8_seconds_71 : decode cX8_seconds 71 = .ok (.iconst 0, 1) := by decide +kernel
theorem dX8_seconds_72 : decode cX8_seconds 72 = .ok (.iload_n 2, 1) := by decide +kernel
theorem dX8_seconds_73 : decode cX8_seconds 73 = .ok (.invokevirtual 58, 3) := by decide +kernel
theorem dX8_seconds_76 : decode cX8_seconds 76 = .ok (.ireturn, 1) := by decide +kernel
theorem dX8_ends_0 : decode cX8_ends 0 = .ok (.iload_n 1, 1) := by decide +kernel
theorem dX8_ends_1 : decode cX8_ends 1 = .ok (.iconst 1, 1) := by decide +kernel
theorem dX8_ends_2 : decode cX8_ends 2 = .ok (.bipush 99, 2) := by decide +kernel
theorem dX8_ends_4 : decode cX8_ends 4 = .ok (.invokestatic 76, 3) := by decide +kernel
theorem dX8_ends_7 : decode cX8_ends 7 = .ok (.ifCond .ne 6, 3) := by decide +kernel
theorem dX8_ends_10 : decode cX8_ends 10 = .ok (.bipush (-2), 2) := by decide +kernel
theorem dX8_ends_12 : decode cX8_ends 12 = .ok (.ireturn, 1) := by decide +kernel
theorem dX8_ends_13 : decode cX8_ends 13 = .ok (.aload_n 0, 1) := by decide +kernel
theorem dX8_ends_14 : decode cX8_ends 14 = .ok (.getfield 7, 3) := by decide +kernel
theorem dX8_ends_17 : decode cX8_ends 17 = .ok (.iconst 2, 1) := by decide +kernel
theorem dX8_ends_18 : decode cX8_ends 18 = .ok (.iaload, 1) := by decide +kernel
theorem dX8_ends_19 : decode cX8_ends 19 = .ok (.iload_n 1, 1) := by decide +kernel
theorem dX8_ends_20 : decode cX8_ends 20 = .ok (.iadd, 1) := by decide +kernel
theorem dX8_ends_21 : decode cX8_ends 21 = .ok (.ldc 93, 2) := by decide +kernel
theorem dX8_ends_23 : decode cX8_ends 23 = .ok (.if_icmp .le 6, 3) := by decide +kernel
theorem dX8_ends_26 : decode cX8_ends 26 = .ok (.bipush (-3), 2) := by decide +kernel
theorem dX8_ends_28 : decode cX8_ends 28 = .ok (.ireturn, 1) := by decide +kernel
theorem dX8_ends_29 : decode cX8_ends 29 = .ok (.iconst 0, 1) := by decide +kernel
theorem dX8_ends_30 : decode cX8_ends 30 = .ok (.istore_n 2, 1) := by decide +kernel
theorem dX8_ends_31 : decode cX8_ends 31 = .ok (.iconst 0, 1) := by decide +kernel
theorem dX8_ends_32 : decode cX8_ends 32 = .ok (.istore_n 3, 1) := by decide +kernel
theorem dX8_ends_33 : decode cX8_ends 33 = .ok (.iload_n 3, 1) := by decide +kernel
theorem dX8_ends_34 : decode cX8_ends 34 = .ok (.iload_n 1, 1) := by decide +kernel
theorem dX8_ends_35 : decode cX8_ends 35 = .ok (.if_icmp .ge 17, 3) := by decide +kernel
theorem dX8_ends_38 : decode cX8_ends 38 = .ok (.iload_n 2, 1) := by decide +kernel
theorem dX8_ends_39 : decode cX8_ends 39 = .ok (.aload_n 0, 1) := by decide +kernel
theorem dX8_ends_40 : decode cX8_ends 40 = .ok (.iconst 0, 1) := by decide +kernel
theorem dX8_ends_41 : decode cX8_ends 41 = .ok (.invokevirtual 94, 3) := by decide +kernel
theorem dX8_ends_44 : decode cX8_ends 44 = .ok (.iadd, 1) := by decide +kernel
theorem dX8_ends_45 : decode cX8_ends 45 = .ok (.istore_n 2, 1) := by decide +kernel
theorem dX8_ends_46 : decode cX8_ends 46 = .ok (.iinc 3 1, 3) := by decide +kernel
theorem dX8_ends_49 : decode cX8_ends 49 = .ok (.goto (-16), 3) := by decide +kernel
theorem dX8_ends_52 : decode cX8_ends 52 = .ok (.iload_n 2, 1) := by decide +kernel
theorem dX8_ends_53 : decode cX8_ends 53 = .ok (.ireturn, 1) := by decide +kernel
theorem dX8_sets_0 : decode cX8_sets 0 = .ok (.iload_n 1, 1) := by decide +kernel
theorem dX8_sets_1 : decode cX8_sets 1 = .ok (.iconst 0, 1) := by decide +kernel
theorem dX8_sets_2 : decode cX8_sets 2 = .ok (.iconst 1, 1) := by decide +kernel
theorem dX8_sets_3 : decode cX8_sets 3 = .ok (.invokestatic 76, 3) := by decide +kernel
theorem dX8_sets_6 : decode cX8_sets 6 = .ok (.ifCond .ne 5, 3) := by decide +kernel
theorem dX8_sets_9 : decode cX8_sets 9 = .ok (.iconst (-1), 1) := by decide +kernel
theorem dX8_sets_10 : decode cX8_sets 10 = .ok (.ireturn, 1) := by decide +kernel
theorem dX8_sets_11 : decode cX8_sets 11 = .ok (.iload_n 2, 1) := by decide +kernel
theorem dX8_sets_12 : decode cX8_sets 12 = .ok (.iload_n 1, 1) := by decide +kernel
theorem dX8_sets_13 : decode cX8_sets 13 = .ok (.bipush 60, 2) := by decide +kernel
theorem dX8_sets_15 : decode cX8_sets 15 = .ok (.invokestatic 76, 3) := by decide +kernel
theorem dX8_sets_18 : decode cX8_sets 18 = .ok (.ifCond .ne 6, 3) := by decide +kernel
theorem dX8_sets_21 : decode cX8_sets 21 = .ok (.bipush (-2), 2) := by decide +kernel
theorem dX8_sets_23 : decode cX8_sets 23 = .ok (.ireturn, 1) := by decide +kernel
theorem dX8_sets_24 : decode cX8_sets 24 = .ok (.aload_n 0, 1) := by decide +kernel
theorem dX8_sets_25 : decode cX8_sets 25 = .ok (.getfield 7, 3) := by decide +kernel
theorem dX8_sets_28 : decode cX8_sets 28 = .ok (.iload_n 1, 1) := by decide +kernel
theorem dX8_sets_29 : decode cX8_sets 29 = .ok (.iaload, 1) := by decide +kernel
theorem dX8_sets_30 : decode cX8_sets 30 = .ok (.istore_n 3, 1) := by decide +kernel
theorem dX8_sets_31 : decode cX8_sets 31 = .ok (.aload_n 0, 1) := by decide +kernel
theorem dX8_sets_32 : decode cX8_sets 32 = .ok (.getfield 7, 3) := by decide +kernel
theorem dX8_sets_35 : decode cX8_sets 35 = .ok (.iload_n 1, 1) := by decide +kernel
theorem dX8_sets_36 : decode cX8_sets 36 = .ok (.iload_n 2, 1) := by decide +kernel
theorem dX8_sets_37 : decode cX8_sets 37 = .ok (.iastore, 1) := by decide +kernel
theorem dX8_sets_38 : decode cX8_sets 38 = .ok (.iload_n 3, 1) := by decide +kernel
theorem dX8_sets_39 : decode cX8_sets 39 = .ok (.iload_n 2, 1) := by decide +kernel
theorem dX8_sets_40 : decode cX8_sets 40 = .ok (.if_icmp .ne 8, 3) := by decide +kernel
theorem dX8_sets_43 : decode cX8_sets 43 = .ok (.bipush (-5), 2) := by decide +kernel
theorem dX8_sets_45 : decode cX8_sets 45 = .ok (.goto 4, 3) := by decide +kernel
theorem dX8_sets_48 : decode cX8_sets 48 = .ok (.iload_n 3, 1) := by decide +kernel
theorem dX8_sets_49 : decode cX8_sets 49 = .ok (.ireturn, 1) := by decide +kernel
theorem dX8_done_0 : decode cX8_done 0 = .ok (.iload_n 1, 1) := by decide +kernel
theorem dX8_done_1 : decode cX8_done 1 = .ok (.ifCond .lt 9, 3) := by decide +kernel
theorem dX8_done_4 : decode cX8_done 4 = .ok (.aload_n 0, 1) := by decide +kernel
theorem dX8_done_5 : decode cX8_done 5 = .ok (.bipush 6, 2) := by decide +kernel
theorem dX8_done_7 : decode cX8_done 7 = .ok (.invokevirtual 97, 3) := by decide +kernel
theorem dX8_done_10 : decode cX8_done 10 = .ok (.iload_n 1, 1) := by decide +kernel
theorem dX8_done_11 : decode cX8_done 11 = .ok (.ireturn, 1) := by decide +kernel
theorem dX8_come_0 : decode cX8_come 0 = .ok (.aload_n 0, 1) := by decide +kernel
theorem dX8_come_1 : decode cX8_come 1 = .ok (.iconst 0, 1) := by decide +kernel
theorem dX8_come_2 : decode cX8_come 2 = .ok (.bipush 6, 2) := by decide +kernel
theorem dX8_come_4 : decode cX8_come 4 = .ok (.invokevirtual 32, 3) := by decide +kernel
theorem dX8_come_7 : decode cX8_come 7 = .ok (.aload_n 0, 1) := by decide +kernel
theorem dX8_come_8 : decode cX8_come 8 = .ok (.aload_n 0, 1) := by decide +kernel
theorem dX8_come_9 : decode cX8_come 9 = .ok (.iload_n 1, 1) := by decide +kernel
theorem dX8_come_10 : decode cX8_come 10 = .ok (.iload_n 2, 1) := by decide +kernel
theorem dX8_come_11 : decode cX8_come 11 = .ok (.invokevirtual 100, 3) := by decide +kernel
theorem dX8_come_14 : decode cX8_come 14 = .ok (.invokevirtual 103, 3) := by decide +kernel
theorem dX8_come_17 : decode cX8_come 17 = .ok (.ireturn, 1) := by decide +kernel
theorem dX8_move_0 : decode cX8_move 0 = .ok (.aload_n 0, 1) := by decide +kernel
theorem dX8_move_1 : decode cX8_move 1 = .ok (.iconst 0, 1) := by decide +kernel
theorem dX8_move_2 : decode cX8_move 2 = .ok (.bipush 6, 2) := by decide +kernel
theorem dX8_move_4 : decode cX8_move 4 = .ok (.invokevirtual 32, 3) := by decide +kernel
theorem dX8_move_7 : decode cX8_move 7 = .ok (.aload_n 0, 1) := by decide +kernel
theorem dX8_move_8 : decode cX8_move 8 = .ok (.aload_n 0, 1) := by decide +kernel
theorem dX8_move_9 : decode cX8_move 9 = .ok (.iload_n 1, 1) := by decide +kernel
theorem dX8_move_10 : decode cX8_move 10 = .ok (.iload_n 2, 1) := by decide +kernel
theorem dX8_move_11 : decode cX8_move 11 = .ok (.invokevirtual 106, 3) := by decide +kernel
theorem dX8_move_14 : decode cX8_move 14 = .ok (.invokevirtual 103, 3) := by decide +kernel
theorem dX8_move_17 : decode cX8_move 17 = .ok (.ireturn, 1) := by decide +kernel
theorem dX8_petition_0 : decode cX8_petition 0 = .ok (.aload_n 0, 1) := by decide +kernel
theorem dX8_petition_1 : decode cX8_petition 1 = .ok (.iconst 0, 1) := by decide +kernel
theorem dX8_petition_2 : decode cX8_petition 2 = .ok (.bipush 6, 2) := by decide +kernel
theorem dX8_petition_4 : decode cX8_petition 4 = .ok (.invokevirtual 32, 3) := by decide +kernel
theorem dX8_petition_7 : decode cX8_petition 7 = .ok (.aload_n 0, 1) := by decide +kernel
theorem dX8_petition_8 : decode cX8_petition 8 = .ok (.aload_n 0, 1) := by decide +kernel
theorem dX8_petition_9 : decode cX8_petition 9 = .ok (.iload_n 1, 1) := by decide +kernel
theorem dX8_petition_10 : decode cX8_petition 10 = .ok (.iload_n 2, 1) := by decide +kernel
theorem dX8_petition_11 : decode cX8_petition 11 = .ok (.iload_n 3, 1) := by decide +kernel
theorem dX8_petition_12 : decode cX8_petition 12 = .ok (.iload 4, 2) := by decide +kernel
theorem dX8_petition_14 : decode cX8_petition 14 = .ok (.invokevirtual 109, 3) := by decide +kernel
theorem dX8_petition_17 : decode cX8_petition 17 = .ok (.invokevirtual 103, 3) := by decide +kernel
theorem dX8_petition_20 : decode cX8_petition 20 = .ok (.ireturn, 1) := by decide +kernel
theorem dX8_second_0 : decode cX8_second 0 = .ok (.aload_n 0, 1) := by decide +kernel
theorem dX8_second_1 : decode cX8_second 1 = .ok (.iconst 0, 1) := by decide +kernel
theorem dX8_second_2 : decode cX8_second 2 = .ok (.bipush 6, 2) := by decide +kernel
theorem dX8_second_4 : decode cX8_second 4 = .ok (.invokevirtual 32, 3) := by decide +kernel
theorem dX8_second_7 : decode cX8_second 7 = .ok (.aload_n 0, 1) := by decide +kernel
theorem dX8_second_8 : decode cX8_second 8 = .ok (.aload_n 0, 1) := by decide +kernel
theorem dX8_second_9 : decode cX8_second 9 = .ok (.iload_n 1, 1) := by decide +kernel
theorem dX8_second_10 : decode cX8_second 10 = .ok (.iload_n 2, 1) := by decide +kernel
theorem dX8_second_11 : decode cX8_second 11 = .ok (.invokevirtual 112, 3) := by decide +kernel
theorem dX8_second_14 : decode cX8_second 14 = .ok (.invokevirtual 103, 3) := by decide +kernel
theorem dX8_second_17 : decode cX8_second 17 = .ok (.ireturn, 1) := by decide +kernel
theorem dX8_pass_0 : decode cX8_pass 0 = .ok (.aload_n 0, 1) := by decide +kernel
theorem dX8_pass_1 : decode cX8_pass 1 = .ok (.iconst 0, 1) := by decide +kernel
theorem dX8_pass_2 : decode cX8_pass 2 = .ok (.bipush 6, 2) := by decide +kernel
theorem dX8_pass_4 : decode cX8_pass 4 = .ok (.invokevirtual 32, 3) := by decide +kernel
theorem dX8_pass_7 : decode cX8_pass 7 = .ok (.aload_n 0, 1) := by decide +kernel
theorem dX8_pass_8 : decode cX8_pass 8 = .ok (.aload_n 0, 1) := by decide +kernel
theorem dX8_pass_9 : decode cX8_pass 9 = .ok (.iload_n 1, 1) := by decide +kernel
theorem dX8_pass_10 : decode cX8_pass 10 = .ok (.invokevirtual 115, 3) := by decide +kernel
theorem dX8_pass_13 : decode cX8_pass 13 = .ok (.invokevirtual 103, 3) := by decide +kernel
theorem dX8_pass_16 : decode cX8_pass 16 = .ok (.ireturn, 1) := by decide +kernel
theorem dX8_set_0 : decode cX8_set 0 = .ok (.aload_n 0, 1) := by decide +kernel
theorem dX8_set_1 : decode cX8_set 1 = .ok (.iconst 0, 1) := by decide +kernel
theorem dX8_set_2 : decode cX8_set 2 = .ok (.bipush 6, 2) := by decide +kernel
theorem dX8_set_4 : decode cX8_set 4 = .ok (.invokevirtual 32, 3) := by decide +kernel
theorem dX8_set_7 : decode cX8_set 7 = .ok (.aload_n 0, 1) := by decide +kernel
theorem dX8_set_8 : decode cX8_set 8 = .ok (.aload_n 0, 1) := by decide +kernel
theorem dX8_set_9 : decode cX8_set 9 = .ok (.iload_n 1, 1) := by decide +kernel
theorem dX8_set_10 : decode cX8_set 10 = .ok (.iload_n 2, 1) := by decide +kernel
theorem dX8_set_11 : decode cX8_set 11 = .ok (.invokevirtual 118, 3) := by decide +kernel
theorem dX8_set_14 : decode cX8_set 14 = .ok (.invokevirtual 103, 3) := by decide +kernel
theorem dX8_set_17 : decode cX8_set 17 = .ok (.ireturn, 1) := by decide +kernel
theorem dX8_type_0 : decode cX8_type 0 = .ok (.aload_n 0, 1) := by decide +kernel
theorem dX8_type_1 : decode cX8_type 1 = .ok (.getfield 121, 3) := by decide +kernel
theorem dX8_type_4 : decode cX8_type 4 = .ok (.bipush 60, 2) := by decide +kernel
theorem dX8_type_6 : decode cX8_type 6 = .ok (.if_icmp .ne 6, 3) := by decide +kernel
theorem dX8_type_9 : decode cX8_type 9 = .ok (.bipush (-3), 2) := by decide +kernel
theorem dX8_type_11 : decode cX8_type 11 = .ok (.ireturn, 1) := by decide +kernel
theorem dX8_type_12 : decode cX8_type 12 = .ok (.aload_n 0, 1) := by decide +kernel
theorem dX8_type_13 : decode cX8_type 13 = .ok (.getfield 13, 3) := by decide +kernel
theorem dX8_type_16 : decode cX8_type 16 = .ok (.aload_n 0, 1) := by decide +kernel
theorem dX8_type_17 : decode cX8_type 17 = .ok (.getfield 121, 3) := by decide +kernel
theorem dX8_type_20 : decode cX8_type 20 = .ok (.iload_n 1, 1) := by decide +kernel
theorem dX8_type_21 : decode cX8_type 21 = .ok (.iastore, 1) := by decide +kernel
theorem dX8_type_22 : decode cX8_type 22 = .ok (.aload_n 0, 1) := by decide +kernel
theorem dX8_type_23 : decode cX8_type 23 = .ok (.dup, 1) := by decide +kernel
theorem dX8_type_24 : decode cX8_type 24 = .ok (.getfield 121, 3) := by decide +kernel
theorem dX8_type_27 : decode cX8_type 27 = .ok (.iconst 1, 1) := by decide +kernel
theorem dX8_type_28 : decode cX8_type 28 = .ok (.iadd, 1) := by decide +kernel
theorem dX8_type_29 : decode cX8_type 29 = .ok (.putfield 121, 3) := by decide +kernel
theorem dX8_type_32 : decode cX8_type 32 = .ok (.aload_n 0, 1) := by decide +kernel
theorem dX8_type_33 : decode cX8_type 33 = .ok (.getfield 121, 3) := by decide +kernel
theorem dX8_type_36 : decode cX8_type 36 = .ok (.ireturn, 1) := by decide +kernel
theorem dX8_clearText_0 : decode cX8_clearText 0 = .ok (.aload_n 0, 1) := by decide +kernel
theorem dX8_clearText_1 : decode cX8_clearText 1 = .ok (.getfield 121, 3) := by decide +kernel
theorem dX8_clearText_4 : decode cX8_clearText 4 = .ok (.istore_n 1, 1) := by decide +kernel
theorem dX8_clearText_5 : decode cX8_clearText 5 = .ok (.aload_n 0, 1) := by decide +kernel
theorem dX8_clearText_6 : decode cX8_clearText 6 = .ok (.iconst 0, 1) := by decide +kernel
theorem dX8_clearText_7 : decode cX8_clearText 7 = .ok (.putfield 121, 3) := by decide +kernel
theorem dX8_clearText_10 : decode cX8_clearText 10 = .ok (.iload_n 1, 1) := by decide +kernel
theorem dX8_clearText_11 : decode cX8_clearText 11 = .ok (.ireturn, 1) := by decide +kernel
theorem dX8_isHere_0 : decode cX8_isHere 0 = .ok (.aload_n 0, 1) := by decide +kernel
theorem dX8_isHere_1 : decode cX8_isHere 1 = .ok (.getfield 124, 3) := by decide +kernel
theorem dX8_isHere_4 : decode cX8_isHere 4 = .ok (.aload_n 0, 1) := by decide +kernel
theorem dX8_isHere_5 : decode cX8_isHere 5 = .ok (.getfield 121, 3) := by decide +kernel
theorem dX8_isHere_8 : decode cX8_isHere 8 = .ok (.if_icmp .ge 24, 3) := by decide +kernel
theorem dX8_isHere_11 : decode cX8_isHere 11 = .ok (.aload_n 0, 1) := by decide +kernel
theorem dX8_isHere_12 : decode cX8_isHere 12 = .ok (.getfield 13, 3) := by decide +kernel
theorem dX8_isHere_15 : decode cX8_isHere 15 = .ok (.aload_n 0, 1) := by decide +kernel
theorem dX8_isHere_16 : decode cX8_isHere 16 = .ok (.getfield 124, 3) := by decide +kernel
theorem dX8_isHere_19 : decode cX8_isHere 19 = .ok (.iaload, 1) := by decide +kernel
theorem dX8_isHere_20 : decode cX8_isHere 20 = .ok (.iload_n 1, 1) := by decide +kernel
theorem dX8_isHere_21 : decode cX8_isHere 21 = .ok (.iload_n 2, 1) := by decide +kernel
theorem dX8_isHere_22 : decode cX8_isHere 22 = .ok (.invokestatic 76, 3) := by decide +kernel
theorem dX8_isHere_25 : decode cX8_isHere 25 = .ok (.ifCond .eq 7, 3) := by decide +kernel
theorem dX8_isHere_28 : decode cX8_isHere 28 = .ok (.iconst 1, 1) := by decide +kernel
theorem dX8_isHere_29 : decode cX8_isHere 29 = .ok (.goto 4, 3) := by decide +kernel
theorem dX8_isHere_32 : decode cX8_isHere 32 = .ok (.iconst 0, 1) := by decide +kernel
theorem dX8_isHere_33 : decode cX8_isHere 33 = .ok (.ireturn, 1) := by decide +kernel
theorem dX8_takes_0 : decode cX8_takes 0 = .ok (.aload_n 0, 1) := by decide +kernel
theorem dX8_takes_1 : decode cX8_takes 1 = .ok (.iload_n 1, 1) := by decide +kernel
theorem dX8_takes_2 : decode cX8_takes 2 = .ok (.iload_n 1, 1) := by decide +kernel
theorem dX8_takes_3 : decode cX8_takes 3 = .ok (.invokevirtual 127, 3) := by decide +kernel
theorem dX8_takes_6 : decode cX8_takes 6 = .ok (.istore_n 2, 1) := by decide +kernel
theorem dX8_takes_7 : decode cX8_takes 7 = .ok (.aload_n 0, 1) := by decide +kernel
theorem dX8_takes_8 : decode cX8_takes 8 = .ok (.dup, 1) := by decide +kernel
theorem dX8_takes_9 : decode cX8_takes 9 = .ok (.getfield 124, 3) := by decide +kernel
theorem dX8_takes_12 : decode cX8_takes 12 = .ok (.iload_n 2, 1) := by decide +kernel
theorem dX8_takes_13 : decode cX8_takes 13 = .ok (.invokestatic 54, 3) := by decide +kernel
theorem dX8_takes_16 : decode cX8_takes 16 = .ok (.iadd, 1) := by decide +kernel
theorem dX8_takes_17 : decode cX8_takes 17 = .ok (.putfield 124, 3) := by decide +kernel
theorem dX8_takes_20 : decode cX8_takes 20 = .ok (.iload_n 2, 1) := by decide +kernel
theorem dX8_takes_21 : decode cX8_takes 21 = .ok (.ireturn, 1) := by decide +kernel
theorem dX8_number_0 : decode cX8_number 0 = .ok (.bipush (-5), 2) := by decide +kernel
theorem dX8_number_2 : decode cX8_number 2 = .ok (.istore_n 3, 1) := by decide +kernel
theorem dX8_number_3 : decode cX8_number 3 = .ok (.aload_n 0, 1) := by decide +kernel
theorem dX8_number_4 : decode cX8_number 4 = .ok (.iload_n 1, 1) := by decide +kernel
theorem dX8_number_5 : decode cX8_number 5 = .ok (.ifCond .ne 8, 3) := by decide +kernel
theorem dX8_number_8 : decode cX8_number 8 = .ok (.bipush 48, 2) := by decide +kernel
theorem dX8_number_10 : decode cX8_number 10 = .ok (.goto 5, 3) := by decide +kernel
theorem dX8_number_13 : decode cX8_number 13 = .ok (.bipush 49, 2) := by decide +kernel
theorem dX8_number_15 : decode cX8_number 15 = .ok (.bipush 57, 2) := by decide +kernel
theorem dX8_number_17 : decode cX8_number 17 = .ok (.invokevirtual 127, 3) := by decide +kernel
theorem dX8_number_20 : decode cX8_number 20 = .ok (.ifCond .eq 23, 3) := by decide +kernel
theorem dX8_number_23 : decode cX8_number 23 = .ok (.aload_n 0, 1) := by decide +kernel
theorem dX8_number_24 : decode cX8_number 24 = .ok (.getfield 13, 3) := by decide +kernel
theorem dX8_number_27 : decode cX8_number 27 = .ok (.aload_n 0, 1) := by decide +kernel
theorem dX8_number_28 : decode cX8_number 28 = .ok (.getfield 124, 3) := by decide +kernel
theorem dX8_number_31 : decode cX8_number 31 = .ok (.iaload, 1) := by decide +kernel
theorem dX8_number_32 : decode cX8_number 32 = .ok (.bipush 48, 2) := by decide +kernel
theorem dX8_number_34 : decode cX8_number 34 = .ok (.isub, 1) := by decide +kernel
theorem dX8_number_35 : decode cX8_number 35 = .ok (.iload_n 2, 1) := by decide +kernel
theorem dX8_number_36 : decode cX8_number 36 = .ok (.if_icmp .gt 7, 3) := by decide +kernel
theorem dX8_number_39 : decode cX8_number 39 = .ok (.iconst 1, 1) := by decide +kernel
theorem dX8_number_40 : decode cX8_number 40 = .ok (.goto 4, 3) := by decide +kernel
theorem dX8_number_43 : decode cX8_number 43 = .ok (.iconst 0, 1) := by decide +kernel
theorem dX8_number_44 : decode cX8_number 44 = .ok (.istore 4, 2) := by decide +kernel
theorem dX8_number_46 : decode cX8_number 46 = .ok (.iload 4, 2) := by decide +kernel
theorem dX8_number_48 : decode cX8_number 48 = .ok (.ifCond .eq 98, 3) := by decide +kernel
theorem dX8_number_51 : decode cX8_number 51 = .ok (.iload_n 3, 1) := by decide +kernel
theorem dX8_number_52 : decode cX8_number 52 = .ok (.bipush (-5), 2) := by decide +kernel
theorem dX8_number_54 : decode cX8_number 54 = .ok (.if_icmp .ne 18, 3) := by decide +kernel
theorem dX8_number_57 : decode cX8_number 57 = .ok (.aload_n 0, 1) := by decide +kernel
theorem dX8_number_58 : decode cX8_number 58 = .ok (.getfield 13, 3) := by decide +kernel
theorem dX8_number_61 : decode cX8_number 61 = .ok (.aload_n 0, 1) := by decide +kernel
theorem dX8_number_62 : decode cX8_number 62 = .ok (.getfield 124, 3) := by decide +kernel
theorem dX8_number_65 : decode cX8_number 65 = .ok (.iaload, 1) := by decide +kernel
theorem dX8_number_66 : decode cX8_number 66 = .ok (.bipush 48, 2) := by decide +kernel
theorem dX8_number_68 : decode cX8_number 68 = .ok (.isub, 1) := by decide +kernel
theorem dX8_number_69 : decode cX8_number 69 = .ok (.goto 20, 3) := by decide +kernel
theorem dX8_number_72 : decode cX8_number 72 = .ok (.bipush 10, 2) := by decide +kernel
theorem dX8_number_74 : decode cX8_number 74 = .ok (.iload_n 3, 1) := by decide +kernel
theorem dX8_number_75 : decode cX8_number 75 = .ok (.imul, 1) := by decide +kernel
theorem dX8_number_76 : decode cX8_number 76 = .ok (.aload_n 0, 1) := by decide +kernel
theorem dX8_number_77 : decode cX8_number 77 = .ok (.getfield 13, 3) := by decide +kernel
theorem dX8_number_80 : decode cX8_number 80 = .ok (.aload_n 0, 1) := by decide +kernel
theorem dX8_number_81 : decode cX8_number 81 = .ok (.getfield 124, 3) := by decide +kernel
theorem dX8_number_84 : decode cX8_number 84 = .ok (.iaload, 1) := by decide +kernel
theorem dX8_number_85 : decode cX8_number 85 = .ok (.iadd, 1) := by decide +kernel
theorem dX8_number_86 : decode cX8_number 86 = .ok (.bipush 48, 2) := by decide +kernel
theorem dX8_number_88 : decode cX8_number 88 = .ok (.isub, 1) := by decide +kernel
theorem dX8_number_89 : decode cX8_number 89 = .ok (.istore_n 3, 1) := by decide +kernel
theorem dX8_number_90 : decode cX8_number 90 = .ok (.aload_n 0, 1) := by decide +kernel
theorem dX8_number_91 : decode cX8_number 91 = .ok (.dup, 1) := by decide +kernel
theorem dX8_number_92 : decode cX8_number 92 = .ok (.getfield 124, 3) := by decide +kernel
theorem dX8_number_95 : decode cX8_number 95 = .ok (.iconst 1, 1) := by decide +kernel
theorem dX8_number_96 : decode cX8_number 96 = .ok (.iadd, 1) := by decide +kernel
theorem dX8_number_97 : decode cX8_number 97 = .ok (.putfield 124, 3) := by decide +kernel
theorem dX8_number_100 : decode cX8_number 100 = .ok (.iload_n 3, 1) := by decide +kernel
theorem dX8_number_101 : decode cX8_number 101 = .ok (.ifCond .le 39, 3) := by decide +kernel
theorem dX8_number_104 : decode cX8_number 104 = .ok (.aload_n 0, 1) := by decide +kernel
theorem dX8_number_105 : decode cX8_number 105 = .ok (.bipush 48, 2) := by decide +kernel
theorem dX8_number_107 : decode cX8_number 107 = .ok (.bipush 57, 2) := by decide +kernel
theorem dX8_number_109 : decode cX8_number 109 = .ok (.invokevirtual 127, 3) := by decide +kernel
theorem dX8_number_112 : decode cX8_number 112 = .ok (.ifCond .eq 28, 3) := by decide +kernel
theorem dX8_number_115 : decode cX8_number 115 = .ok (.bipush 10, 2) := by decide +kernel
theorem dX8_number_117 : decode cX8_number 117 = .ok (.iload_n 3, 1) := by decide +kernel
theorem dX8_number_118 : decode cX8_number 118 = .ok (.imul, 1) := by decide +kernel
theorem dX8_number_119 : decode cX8_number 119 = .ok (.aload_n 0, 1) := by decide +kernel
theorem dX8_number_120 : decode cX8_number 120 = .ok (.getfield 13, 3) := by decide +kernel
theorem dX8_number_123 : decode cX8_number 123 = .ok (.aload_n 0, 1) := by decide +kernel
theorem dX8_number_124 : decode cX8_number 124 = .ok (.getfield 124, 3) := by decide +kernel
theorem dX8_number_127 : decode cX8_number 127 = .ok (.iaload, 1) := by decide +kernel
theorem dX8_number_128 : decode cX8_number 128 = .ok (.iadd, 1) := by decide +kernel
theorem dX8_number_129 : decode cX8_number 129 = .ok (.bipush 48, 2) := by decide +kernel
theorem dX8_number_131 : decode cX8_number 131 = .ok (.isub, 1) := by decide +kernel
theorem dX8_number_132 : decode cX8_number 132 = .ok (.iload_n 2, 1) := by decide +kernel
theorem dX8_number_133 : decode cX8_number 133 = .ok (.if_icmp .gt 7, 3) := by decide +kernel
theorem dX8_number_136 : decode cX8_number 136 = .ok (.iconst 1, 1) := by decide +kernel
theorem dX8_number_137 : decode cX8_number 137 = .ok (.goto 4, 3) := by decide +kernel
theorem dX8_number_140 : decode cX8_number 140 = .ok (.iconst 0, 1) := by decide +kernel
theorem dX8_number_141 : decode cX8_number 141 = .ok (.istore 4, 2) := by decide +kernel
theorem dX8_number_143 : decode cX8_number 143 = .ok (.goto (-97), 3) := by decide +kernel
theorem dX8_number_146 : decode cX8_number 146 = .ok (.iload_n 3, 1) := by decide +kernel
theorem dX8_number_147 : decode cX8_number 147 = .ok (.ireturn, 1) := by decide +kernel
theorem dX8_readsPetition_0 : decode cX8_readsPetition 0 = .ok (.aload_n 0, 1) := by decide +kernel
theorem dX8_readsPetition_1 : decode cX8_readsPetition 1 = .ok (.aload_n 0, 1) := by decide +kernel
theorem dX8_readsPetition_2 : decode cX8_readsPetition 2 = .ok (.iconst 0, 1) := by decide +kernel
theorem dX8_readsPetition_3 : decode cX8_readsPetition 3 = .ok (.bipush 11, 2) := by decide +kernel
theorem dX8_readsPetition_5 : decode cX8_readsPetition 5 = .ok (.invokevirtual 131, 3) := by decide +kernel
theorem dX8_readsPetition_8 : decode cX8_readsPetition 8 = .ok (.putfield 134, 3) := by decide +kernel
theorem dX8_readsPetition_11 : decode cX8_readsPetition 11 = .ok (.aload_n 0, 1) := by decide +kernel
theorem dX8_readsPetition_12 : decode cX8_readsPetition 12 = .ok (.aload_n 0, 1) := by decide +kernel
theorem dX8_readsPetition_13 : decode cX8_readsPetition 13 = .ok (.getfield 134, 3) := by decide +kernel
theorem dX8_readsPetition_16 : decode cX8_readsPetition 16 = .ok (.bipush (-5), 2) := by decide +kernel
theorem dX8_readsPetition_18 : decode cX8_readsPetition 18 = .ok (.if_icmp .eq 22, 3) := by decide +kernel
theorem dX8_readsPetition_21 : decode cX8_readsPetition 21 = .ok (.aload_n 0, 1) := by decide +kernel
theorem dX8_readsPetition_22 : decode cX8_readsPetition 22 = .ok (.bipush 58, 2) := by decide +kernel
theorem dX8_readsPetition_24 : decode cX8_readsPetition 24 = .ok (.invokevirtual 137, 3) := by decide +kernel
theorem dX8_readsPetition_27 : decode cX8_readsPetition 27 = .ok (.ifCond .eq 13, 3) := by decide +kernel
theorem dX8_readsPetition_30 : decode cX8_readsPetition 30 = .ok (.aload_n 0, 1) := by decide +kernel
theorem dX8_readsPetition_31 : decode cX8_readsPetition 31 = .ok (.iconst 0, 1) := by decide +kernel
theorem dX8_readsPetition_32 : decode cX8_readsPetition 32 = .ok (.bipush 6, 2) := by decide +kernel
theorem dX8_readsPetition_34 : decode cX8_readsPetition 34 = .ok (.invokevirtual 131, 3) := by decide +kernel
theorem dX8_readsPetition_37 : decode cX8_readsPetition 37 = .ok (.goto 5, 3) := by decide +kernel
theorem dX8_readsPetition_40 : decode cX8_readsPetition 40 = .ok (.bipush (-5), 2) := by decide +kernel
theorem dX8_readsPetition_42 : decode cX8_readsPetition 42 = .ok (.putfield 140, 3) := by decide +kernel
theorem dX8_readsPetition_45 : decode cX8_readsPetition 45 = .ok (.aload_n 0, 1) := by decide +kernel
theorem dX8_readsPetition_46 : decode cX8_readsPetition 46 = .ok (.aload_n 0, 1) := by decide +kernel
theorem dX8_readsPetition_47 : decode cX8_readsPetition 47 = .ok (.getfield 140, 3) := by decide +kernel
theorem dX8_readsPetition_50 : decode cX8_readsPetition 50 = .ok (.bipush (-5), 2) := by decide +kernel
theorem dX8_readsPetition_52 : decode cX8_readsPetition 52 = .ok (.if_icmp .eq 22, 3) := by decide +kernel
theorem dX8_readsPetition_55 : decode cX8_readsPetition 55 = .ok (.aload_n 0, 1) := by decide +kernel
theorem dX8_readsPetition_56 : decode cX8_readsPetition 56 = .ok (.bipush 46, 2) := by decide +kernel
theorem dX8_readsPetition_58 : decode cX8_readsPetition 58 = .ok (.invokevirtual 137, 3) := by decide +kernel
theorem dX8_readsPetition_61 : decode cX8_readsPetition 61 = .ok (.ifCond .eq 13, 3) := by decide +kernel
theorem dX8_readsPetition_64 : decode cX8_readsPetition 64 = .ok (.aload_n 0, 1) := by decide +kernel
theorem dX8_readsPetition_65 : decode cX8_readsPetition 65 = .ok (.iconst 0, 1) := by decide +kernel
theorem dX8_readsPetition_66 : decode cX8_readsPetition 66 = .ok (.bipush 19, 2) := by decide +kernel
theorem dX8_readsPetition_68 : decode cX8_readsPetition 68 = .ok (.invokevirtual 131, 3) := by decide +kernel
theorem dX8_readsPetition_71 : decode cX8_readsPetition 71 = .ok (.goto 5, 3) := by decide +kernel
theorem dX8_readsPetition_74 : decode cX8_readsPetition 74 = .ok (.bipush (-5), 2) := by decide +kernel
theorem dX8_readsPetition_76 : decode cX8_readsPetition 76 = .ok (.putfield 143, 3) := by decide +kernel
theorem dX8_readsPetition_79 : decode cX8_readsPetition 79 = .ok (.aload_n 0, 1) := by decide +kernel
theorem dX8_readsPetition_80 : decode cX8_readsPetition 80 = .ok (.aload_n 0, 1) := by decide +kernel
theorem dX8_readsPetition_81 : decode cX8_readsPetition 81 = .ok (.getfield 143, 3) := by decide +kernel
theorem dX8_readsPetition_84 : decode cX8_readsPetition 84 = .ok (.bipush (-5), 2) := by decide +kernel
theorem dX8_readsPetition_86 : decode cX8_readsPetition 86 = .ok (.if_icmp .ne 8, 3) := by decide +kernel
theorem dX8_readsPetition_89 : decode cX8_readsPetition 89 = .ok (.bipush (-5), 2) := by decide +kernel
theorem dX8_readsPetition_91 : decode cX8_readsPetition 91 = .ok (.goto 44, 3) := by decide +kernel
theorem dX8_readsPetition_94 : decode cX8_readsPetition 94 = .ok (.aload_n 0, 1) := by decide +kernel
theorem dX8_readsPetition_95 : decode cX8_readsPetition 95 = .ok (.bipush 43, 2) := by decide +kernel
theorem dX8_readsPetition_97 : decode cX8_readsPetition 97 = .ok (.invokevirtual 137, 3) := by decide +kernel
theorem dX8_readsPetition_100 : decode cX8_readsPetition 100 = .ok (.ifCond .eq 7, 3) := by decide +kernel
theorem dX8_readsPetition_103 : decode cX8_readsPetition 103 = .ok (.iconst 1, 1) := by decide +kernel
theorem dX8_readsPetition_104 : decode cX8_readsPetition 104 = .ok (.goto 31, 3) := by decide +kernel
theorem dX8_readsPetition_107 : decode cX8_readsPetition 107 = .ok (.aload_n 0, 1) := by decide +kernel
theorem dX8_readsPetition_108 : decode cX8_readsPetition 108 = .ok (.bipush 45, 2) := by decide +kernel
theorem dX8_readsPetition_110 : decode cX8_readsPetition 110 = .ok (.invokevirtual 137, 3) := by decide +kernel
theorem dX8_readsPetition_113 : decode cX8_readsPetition 113 = .ok (.ifCond .eq 7, 3) := by decide +kernel
theorem dX8_readsPetition_116 : decode cX8_readsPetition 116 = .ok (.iconst 0, 1) := by decide +kernel
theorem dX8_readsPetition_117 : decode cX8_readsPetition 117 = .ok (.goto 18, 3) := by decide +kernel
theorem dX8_readsPetition_120 : decode cX8_readsPetition 120 = .ok (.aload_n 0, 1) := by decide +kernel
theorem dX8_readsPetition_121 : decode cX8_readsPetition 121 = .ok (.bipush 120, 2) := by decide +kernel
theorem dX8_readsPetition_123 : decode cX8_readsPetition 123 = .ok (.invokevirtual 137, 3) := by decide +kernel
theorem dX8_readsPetition_126 : decode cX8_readsPetition 126 = .ok (.ifCond .eq 7, 3) := by decide +kernel
theorem dX8_readsPetition_129 : decode cX8_readsPetition 129 = .ok (.iconst 2, 1) := by decide +kernel
theorem dX8_readsPetition_130 : decode cX8_readsPetition 130 = .ok (.goto 5, 3) := by decide +kernel
theorem dX8_readsPetition_133 : decode cX8_readsPetition 133 = .ok (.bipush (-5), 2) := by decide +kernel
theorem dX8_readsPetition_135 : decode cX8_readsPetition 135 = .ok (.putfield 146, 3) := by decide +kernel
theorem dX8_readsPetition_138 : decode cX8_readsPetition 138 = .ok (.aload_n 0, 1) := by decide +kernel
theorem dX8_readsPetition_139 : decode cX8_readsPetition 139 = .ok (.getfield 146, 3) := by decide +kernel
theorem dX8_readsPetition_142 : decode cX8_readsPetition 142 = .ok (.bipush (-5), 2) := by decide +kernel
theorem dX8_readsPetition_144 : decode cX8_readsPetition 144 = .ok (.if_icmp .eq 7, 3) := by decide +kernel
theorem dX8_readsPetition_147 : decode cX8_readsPetition 147 = .ok (.iconst 1, 1) := by decide +kernel
theorem dX8_readsPetition_148 : decode cX8_readsPetition 148 = .ok (.goto 4, 3) := by decide +kernel
theorem dX8_readsPetition_151 : decode cX8_readsPetition 151 = .ok (.iconst 0, 1) := by decide +kernel
theorem dX8_readsPetition_152 : decode cX8_readsPetition 152 = .ok (.ireturn, 1) := by decide +kernel
theorem dX8_readsThing_0 : decode cX8_readsThing 0 = .ok (.aload_n 0, 1) := by decide +kernel
theorem dX8_readsThing_1 : decode cX8_readsThing 1 = .ok (.aload_n 0, 1) := by decide +kernel
theorem dX8_readsThing_2 : decode cX8_readsThing 2 = .ok (.getfield 124, 3) := by decide +kernel
theorem dX8_readsThing_5 : decode cX8_readsThing 5 = .ok (.aload_n 0, 1) := by decide +kernel
theorem dX8_readsThing_6 : decode cX8_readsThing 6 = .ok (.getfield 121, 3) := by decide +kernel
theorem dX8_readsThing_9 : decode cX8_readsThing 9 = .ok (.if_icmp .ge 15, 3) := by decide +kernel
theorem dX8_readsThing_12 : decode cX8_readsThing 12 = .ok (.aload_n 0, 1) := by decide +kernel
theorem dX8_readsThing_13 : decode cX8_readsThing 13 = .ok (.getfield 13, 3) := by decide +kernel
theorem dX8_readsThing_16 : decode cX8_readsThing 16 = .ok (.aload_n 0, 1) := by decide +kernel
theorem dX8_readsThing_17 : decode cX8_readsThing 17 = .ok (.getfield 124, 3) := by decide +kernel
theorem dX8_readsThing_20 : decode cX8_readsThing 20 = .ok (.iaload, 1) := by decide +kernel
theorem dX8_readsThing_21 : decode cX8_readsThing 21 = .ok (.goto 4, 3) := by decide +kernel
theorem dX8_readsThing_24 : decode cX8_readsThing 24 = .ok (.iconst 0, 1) := by decide +kernel
theorem dX8_readsThing_25 : decode cX8_readsThing 25 = .ok (.putfield 149, 3) := by decide +kernel
theorem dX8_readsThing_28 : decode cX8_readsThing 28 = .ok (.aload_n 0, 1) := by decide +kernel
theorem dX8_readsThing_29 : decode cX8_readsThing 29 = .ok (.dup, 1) := by decide +kernel
theorem dX8_readsThing_30 : decode cX8_readsThing 30 = .ok (.getfield 124, 3) := by decide +kernel
theorem dX8_readsThing_33 : decode cX8_readsThing 33 = .ok (.iconst 1, 1) := by decide +kernel
theorem dX8_readsThing_34 : decode cX8_readsThing 34 = .ok (.iadd, 1) := by decide +kernel
theorem dX8_readsThing_35 : decode cX8_readsThing 35 = .ok (.putfield 124, 3) := by decide +kernel
theorem dX8_readsThing_38 : decode cX8_readsThing 38 = .ok (.aload_n 0, 1) := by decide +kernel
theorem dX8_readsThing_39 : decode cX8_readsThing 39 = .ok (.getfield 149, 3) := by decide +kernel
theorem dX8_readsThing_42 : decode cX8_readsThing 42 = .ok (.lookupswitch 125 #[(46, 99), (112, 34), (121, 39)], 34) := by decide +kernel
theorem dX8_readsThing_76 : decode cX8_readsThing 76 = .ok (.aload_n 0, 1) := by decide +kernel
theorem dX8_readsThing_77 : decode cX8_readsThing 77 = .ok (.invokevirtual 152, 3) := by decide +kernel
theorem dX8_readsThing_80 : decode cX8_readsThing 80 = .ok (.ireturn, 1) := by decide +kernel
theorem dX8_readsThing_81 : decode cX8_readsThing 81 = .ok (.aload_n 0, 1) := by decide +kernel
theorem dX8_readsThing_82 : decode cX8_readsThing 82 = .ok (.aload_n 0, 1) := by decide +kernel
theorem dX8_readsThing_83 : decode cX8_readsThing 83 = .ok (.iconst 0, 1) := by decide +kernel
theorem dX8_readsThing_84 : decode cX8_readsThing 84 = .ok (.bipush 11, 2) := by decide +kernel
theorem dX8_readsThing_86 : decode cX8_readsThing 86 = .ok (.invokevirtual 131, 3) := by decide +kernel
theorem dX8_readsThing_89 : decode cX8_readsThing 89 = .ok (.putfield 134, 3) := by decide +kernel
theorem dX8_readsThing_92 : decode cX8_readsThing 92 = .ok (.aload_n 0, 1) := by decide +kernel
theorem dX8_readsThing_93 : decode cX8_readsThing 93 = .ok (.aload_n 0, 1) := by decide +kernel
theorem dX8_readsThing_94 : decode cX8_readsThing 94 = .ok (.getfield 134, 3) := by decide +kernel
theorem dX8_readsThing_97 : decode cX8_readsThing 97 = .ok (.bipush (-5), 2) := by decide +kernel
theorem dX8_readsThing_99 : decode cX8_readsThing 99 = .ok (.if_icmp .eq 22, 3) := by decide +kernel
theorem dX8_readsThing_102 : decode cX8_readsThing 102 = .ok (.aload_n 0, 1) := by decide +kernel
theorem dX8_readsThing_103 : decode cX8_readsThing 103 = .ok (.bipush 58, 2) := by decide +kernel
theorem dX8_readsThing_105 : decode cX8_readsThing 105 = .ok (.invokevirtual 137, 3) := by decide +kernel
theorem dX8_readsThing_108 : decode cX8_readsThing 108 = .ok (.ifCond .eq 13, 3) := by decide +kernel
theorem dX8_readsThing_111 : decode cX8_readsThing 111 = .ok (.aload_n 0, 1) := by decide +kernel
theorem dX8_readsThing_112 : decode cX8_readsThing 112 = .ok (.iconst 0, 1) := by decide +kernel
theorem dX8_readsThing_113 : decode cX8_readsThing 113 = .ok (.bipush 11, 2) := by decide +kernel
theorem dX8_readsThing_115 : decode cX8_readsThing 115 = .ok (.invokevirtual 131, 3) := by decide +kernel
theorem dX8_readsThing_118 : decode cX8_readsThing 118 = .ok (.goto 5, 3) := by decide +kernel
theorem dX8_readsThing_121 : decode cX8_readsThing 121 = .ok (.bipush (-5), 2) := by decide +kernel
theorem dX8_readsThing_123 : decode cX8_readsThing 123 = .ok (.putfield 140, 3) := by decide +kernel
theorem dX8_readsThing_126 : decode cX8_readsThing 126 = .ok (.aload_n 0, 1) := by decide +kernel
theorem dX8_readsThing_127 : decode cX8_readsThing 127 = .ok (.getfield 140, 3) := by decide +kernel
theorem dX8_readsThing_130 : decode cX8_readsThing 130 = .ok (.bipush (-5), 2) := by decide +kernel
theorem dX8_readsThing_132 : decode cX8_readsThing 132 = .ok (.if_icmp .eq 7, 3) := by decide +kernel
theorem dX8_readsThing_135 : decode cX8_readsThing 135 = .ok (.iconst 1, 1) := by decide +kernel
theorem dX8_readsThing_136 : decode cX8_readsThing 136 = .ok (.goto 4, 3) := by decide +kernel
theorem dX8_readsThing_139 : decode cX8_readsThing 139 = .ok (.iconst 0, 1) := by decide +kernel
theorem dX8_readsThing_140 : decode cX8_readsThing 140 = .ok (.ireturn, 1) := by decide +kernel
theorem dX8_readsThing_141 : decode cX8_readsThing 141 = .ok (.aload_n 0, 1) := by decide +kernel
theorem dX8_readsThing_142 : decode cX8_readsThing 142 = .ok (.aload_n 0, 1) := by decide +kernel
theorem dX8_readsThing_143 : decode cX8_readsThing 143 = .ok (.iconst 1, 1) := by decide +kernel
theorem dX8_readsThing_144 : decode cX8_readsThing 144 = .ok (.bipush 99, 2) := by decide +kernel
theorem dX8_readsThing_146 : decode cX8_readsThing 146 = .ok (.invokevirtual 131, 3) := by decide +kernel
theorem dX8_readsThing_149 : decode cX8_readsThing 149 = .ok (.putfield 134, 3) := by decide +kernel
theorem dX8_readsThing_152 : decode cX8_readsThing 152 = .ok (.aload_n 0, 1) := by decide +kernel
theorem dX8_readsThing_153 : decode cX8_readsThing 153 = .ok (.getfield 134, 3) := by decide +kernel
theorem dX8_readsThing_156 : decode cX8_readsThing 156 = .ok (.bipush (-5), 2) := by decide +kernel
theorem dX8_readsThing_158 : decode cX8_readsThing 158 = .ok (.if_icmp .eq 7, 3) := by decide +kernel
theorem dX8_readsThing_161 : decode cX8_readsThing 161 = .ok (.iconst 1, 1) := by decide +kernel
theorem dX8_readsThing_162 : decode cX8_readsThing 162 = .ok (.goto 4, 3) := by decide +kernel
theorem dX8_readsThing_165 : decode cX8_readsThing 165 = .ok (.iconst 0, 1) := by decide +kernel
theorem dX8_readsThing_166 : decode cX8_readsThing 166 = .ok (.ireturn, 1) := by decide +kernel
theorem dX8_readsThing_167 : decode cX8_readsThing 167 = .ok (.aload_n 0, 1) := by decide +kernel
theorem dX8_readsThing_168 : decode cX8_readsThing 168 = .ok (.dup, 1) := by decide +kernel
theorem dX8_readsThing_169 : decode cX8_readsThing 169 = .ok (.getfield 124, 3) := by decide +kernel
theorem dX8_readsThing_172 : decode cX8_readsThing 172 = .ok (.iconst 1, 1) := by decide +kernel
theorem dX8_readsThing_173 : decode cX8_readsThing 173 = .ok (.isub, 1) := by decide +kernel
theorem dX8_readsThing_174 : decode cX8_readsThing 174 = .ok (.putfield 124, 3) := by decide +kernel
theorem dX8_readsThing_177 : decode cX8_readsThing 177 = .ok (.iconst 0, 1) := by decide +kernel
theorem dX8_readsThing_178 : decode cX8_readsThing 178 = .ok (.ireturn, 1) := by decide +kernel
theorem dX8_fault_0 : decode cX8_fault 0 = .ok (.aload_n 0, 1) := by decide +kernel
theorem dX8_fault_1 : decode cX8_fault 1 = .ok (.iconst 0, 1) := by decide +kernel
theorem dX8_fault_2 : decode cX8_fault 2 = .ok (.putfield 124, 3) := by decide +kernel
theorem dX8_fault_5 : decode cX8_fault 5 = .ok (.iconst 1, 1) := by decide +kernel
theorem dX8_fault_6 : decode cX8_fault 6 = .ok (.istore_n 1, 1) := by decide +kernel
theorem dX8_fault_7 : decode cX8_fault 7 = .ok (.iload_n 1, 1) := by decide +kernel
theorem dX8_fault_8 : decode cX8_fault 8 = .ok (.ifCond .eq 25, 3) := by decide +kernel
theorem dX8_fault_11 : decode cX8_fault 11 = .ok (.aload_n 0, 1) := by decide +kernel
theorem dX8_fault_12 : decode cX8_fault 12 = .ok (.invokevirtual 156, 3) := by decide +kernel
theorem dX8_fault_15 : decode cX8_fault 15 = .ok (.ifCond .ne 8, 3) := by decide +kernel
theorem dX8_fault_18 : decode cX8_fault 18 = .ok (.aload_n 0, 1) := by decide +kernel
theorem dX8_fault_19 : decode cX8_fault 19 = .ok (.getfield 124, 3) := by decide +kernel
theorem dX8_fault_22 : decode cX8_fault 22 = .ok (.ireturn, 1) := by decide +kernel
theorem dX8_fault_23 : decode cX8_fault 23 = .ok (.aload_n 0, 1) := by decide +kernel
theorem dX8_fault_24 : decode cX8_fault 24 = .ok (.bipush 59, 2) := by decide +kernel
theorem dX8_fault_26 : decode cX8_fault 26 = .ok (.invokevirtual 137, 3) := by decide +kernel
theorem dX8_fault_29 : decode cX8_fault 29 = .ok (.istore_n 1, 1) := by decide +kernel
theorem dX8_fault_30 : decode cX8_fault 30 = .ok (.goto (-23), 3) := by decide +kernel
theorem dX8_fault_33 : decode cX8_fault 33 = .ok (.aload_n 0, 1) := by decide +kernel
theorem dX8_fault_34 : decode cX8_fault 34 = .ok (.getfield 124, 3) := by decide +kernel
theorem dX8_fault_37 : decode cX8_fault 37 = .ok (.aload_n 0, 1) := by decide +kernel
theorem dX8_fault_38 : decode cX8_fault 38 = .ok (.getfield 121, 3) := by decide +kernel
theorem dX8_fault_41 : decode cX8_fault 41 = .ok (.if_icmp .ne 8, 3) := by decide +kernel
theorem dX8_fault_44 : decode cX8_fault 44 = .ok (.bipush (-5), 2) := by decide +kernel
theorem dX8_fault_46 : decode cX8_fault 46 = .ok (.goto 7, 3) := by decide +kernel
theorem dX8_fault_49 : decode cX8_fault 49 = .ok (.aload_n 0, 1) := by decide +kernel
theorem dX8_fault_50 : decode cX8_fault 50 = .ok (.getfield 124, 3) := by decide +kernel
theorem dX8_fault_53 : decode cX8_fault 53 = .ok (.ireturn, 1) := by decide +kernel
theorem dX8_does_0 : decode cX8_does 0 = .ok (.aload_n 0, 1) := by decide +kernel
theorem dX8_does_1 : decode cX8_does 1 = .ok (.getfield 149, 3) := by decide +kernel
theorem dX8_does_4 : decode cX8_does 4 = .ok (.bipush 112, 2) := by decide +kernel
theorem dX8_does_6 : decode cX8_does 6 = .ok (.if_icmp .ne 26, 3) := by decide +kernel
theorem dX8_does_9 : decode cX8_does 9 = .ok (.aload_n 0, 1) := by decide +kernel
theorem dX8_does_10 : decode cX8_does 10 = .ok (.aload_n 0, 1) := by decide +kernel
theorem dX8_does_11 : decode cX8_does 11 = .ok (.getfield 134, 3) := by decide +kernel
theorem dX8_does_14 : decode cX8_does 14 = .ok (.aload_n 0, 1) := by decide +kernel
theorem dX8_does_15 : decode cX8_does 15 = .ok (.getfield 140, 3) := by decide +kernel
theorem dX8_does_18 : decode cX8_does 18 = .ok (.aload_n 0, 1) := by decide +kernel
theorem dX8_does_19 : decode cX8_does 19 = .ok (.getfield 143, 3) := by decide +kernel
theorem dX8_does_22 : decode cX8_does 22 = .ok (.aload_n 0, 1) := by decide +kernel
theorem dX8_does_23 : decode cX8_does 23 = .ok (.getfield 146, 3) := by decide +kernel
theorem dX8_does_26 : decode cX8_does 26 = .ok (.invokevirtual 109, 3) := by decide +kernel
theorem dX8_does_29 : decode cX8_does 29 = .ok (.goto 35, 3) := by decide +kernel
theorem dX8_does_32 : decode cX8_does 32 = .ok (.aload_n 0, 1) := by decide +kernel
theorem dX8_does_33 : decode cX8_does 33 = .ok (.getfield 149, 3) := by decide +kernel
theorem dX8_does_36 : decode cX8_does 36 = .ok (.bipush 121, 2) := by decide +kernel
theorem dX8_does_38 : decode cX8_does 38 = .ok (.if_icmp .ne 18, 3) := by decide +kernel
theorem dX8_does_41 : decode cX8_does 41 = .ok (.aload_n 0, 1) := by decide +kernel
theorem dX8_does_42 : decode cX8_does 42 = .ok (.aload_n 0, 1) := by decide +kernel
theorem dX8_does_43 : decode cX8_does 43 = .ok (.getfield 134, 3) := by decide +kernel
theorem dX8_does_46 : decode cX8_does 46 = .ok (.aload_n 0, 1) := by decide +kernel
theorem dX8_does_47 : decode cX8_does 47 = .ok (.getfield 140, 3) := by decide +kernel
theorem dX8_does_50 : decode cX8_does 50 = .ok (.invokevirtual 112, 3) := by decide +kernel
theorem dX8_does_53 : decode cX8_does 53 = .ok (.goto 11, 3) := by decide +kernel
theorem dX8_does_56 : decode cX8_does 56 = .ok (.aload_n 0, 1) := by decide +kernel
theorem dX8_does_57 : decode cX8_does 57 = .ok (.aload_n 0, 1) := by decide +kernel
theorem dX8_does_58 : decode cX8_does 58 = .ok (.getfield 134, 3) := by decide +kernel
theorem dX8_does_61 : decode cX8_does 61 = .ok (.invokevirtual 115, 3) := by decide +kernel
theorem dX8_does_64 : decode cX8_does 64 = .ok (.ireturn, 1) := by decide +kernel
theorem dX8_perform_0 : decode cX8_perform 0 = .ok (.aload_n 0, 1) := by decide +kernel
theorem dX8_perform_1 : decode cX8_perform 1 = .ok (.invokevirtual 159, 3) := by decide +kernel
theorem dX8_perform_4 : decode cX8_perform 4 = .ok (.istore_n 1, 1) := by decide +kernel
theorem dX8_perform_5 : decode cX8_perform 5 = .ok (.iload_n 1, 1) := by decide +kernel
theorem dX8_perform_6 : decode cX8_perform 6 = .ok (.bipush (-5), 2) := by decide +kernel
theorem dX8_perform_8 : decode cX8_perform 8 = .ok (.if_icmp .eq 8, 3) := by decide +kernel
theorem dX8_perform_11 : decode cX8_perform 11 = .ok (.bipush (-100), 2) := by decide +kernel
theorem dX8_perform_13 : decode cX8_perform 13 = .ok (.iload_n 1, 1) := by decide +kernel
theorem dX8_perform_14 : decode cX8_perform 14 = .ok (.isub, 1) := by decide +kernel
theorem dX8_perform_15 : decode cX8_perform 15 = .ok (.ireturn, 1) := by decide +kernel
theorem dX8_perform_16 : decode cX8_perform 16 = .ok (.aload_n 0, 1) := by decide +kernel
theorem dX8_perform_17 : decode cX8_perform 17 = .ok (.iconst 0, 1) := by decide +kernel
theorem dX8_perform_18 : decode cX8_perform 18 = .ok (.bipush 6, 2) := by decide +kernel
theorem dX8_perform_20 : decode cX8_perform 20 = .ok (.invokevirtual 32, 3) := by decide +kernel
theorem dX8_perform_23 : decode cX8_perform 23 = .ok (.aload_n 0, 1) := by decide +kernel
theorem dX8_perform_24 : decode cX8_perform 24 = .ok (.iconst 0, 1) := by decide +kernel
theorem dX8_perform_25 : decode cX8_perform 25 = .ok (.putfield 124, 3) := by decide +kernel
theorem dX8_perform_28 : decode cX8_perform 28 = .ok (.iconst 0, 1) := by decide +kernel
theorem dX8_perform_29 : decode cX8_perform 29 = .ok (.istore_n 2, 1) := by decide +kernel
theorem dX8_perform_30 : decode cX8_perform 30 = .ok (.iconst 1, 1) := by decide +kernel
theorem dX8_perform_31 : decode cX8_perform 31 = .ok (.istore_n 3, 1) := by decide +kernel
theorem dX8_perform_32 : decode cX8_perform 32 = .ok (.iload_n 3, 1) := by decide +kernel
theorem dX8_perform_33 : decode cX8_perform 33 = .ok (.ifCond .eq 61, 3) := by decide +kernel
theorem dX8_perform_36 : decode cX8_perform 36 = .ok (.aload_n 0, 1) := by decide +kernel
theorem dX8_perform_37 : decode cX8_perform 37 = .ok (.invokevirtual 156, 3) := by decide +kernel
theorem dX8_perform_40 : decode cX8_perform 40 = .ok (.istore 4, 2) := by decide +kernel
theorem dX8_perform_42 : decode cX8_perform 42 = .ok (.aload_n 0, 1) := by decide +kernel
theorem dX8_perform_43 : decode cX8_perform 43 = .ok (.invokevirtual 163, 3) := by decide +kernel
theorem dX8_perform_46 : decode cX8_perform 46 = .ok (.istore 5, 2) := by decide +kernel
theorem dX8_perform_48 : decode cX8_perform 48 = .ok (.iload 5, 2) := by decide +kernel
theorem dX8_perform_50 : decode cX8_perform 50 = .ok (.ifCond .ge 31, 3) := by decide +kernel
theorem dX8_perform_53 : decode cX8_perform 53 = .ok (.iload 5, 2) := by decide +kernel
theorem dX8_perform_55 : decode cX8_perform 55 = .ok (.bipush (-5), 2) := by decide +kernel
theorem dX8_perform_57 : decode cX8_perform 57 = .ok (.if_icmp .eq 24, 3) := by decide +kernel
theorem dX8_perform_60 : decode cX8_perform 60 = .ok (.aload_n 0, 1) := by decide +kernel
theorem dX8_perform_61 : decode cX8_perform 61 = .ok (.bipush 6, 2) := by decide +kernel
theorem dX8_perform_63 : decode cX8_perform 63 = .ok (.iconst 0, 1) := by decide +kernel
theorem dX8_perform_64 : decode cX8_perform 64 = .ok (.invokevirtual 32, 3) := by decide +kernel
theorem dX8_perform_67 : decode cX8_perform 67 = .ok (.aload_n 0, 1) := by decide +kernel
theorem dX8_perform_68 : decode cX8_perform 68 = .ok (.iload_n 2, 1) := by decide +kernel
theorem dX8_perform_69 : decode cX8_perform 69 = .ok (.putfield 16, 3) := by decide +kernel
theorem dX8_perform_72 : decode cX8_perform 72 = .ok (.aload_n 0, 1) := by decide +kernel
theorem dX8_perform_73 : decode cX8_perform 73 = .ok (.iload 5, 2) := by decide +kernel
theorem dX8_perform_75 : decode cX8_perform 75 = .ok (.putfield 20, 3) := by decide +kernel
theorem dX8_perform_78 : decode cX8_perform 78 = .ok (.bipush (-4), 2) := by decide +kernel
theorem dX8_perform_80 : decode cX8_perform 80 = .ok (.ireturn, 1) := by decide +kernel
theorem dX8_perform_81 : decode cX8_perform 81 = .ok (.iinc 2 1, 3) := by decide +kernel
theorem dX8_perform_84 : decode cX8_perform 84 = .ok (.aload_n 0, 1) := by decide +kernel
theorem dX8_perform_85 : decode cX8_perform 85 = .ok (.bipush 59, 2) := by decide +kernel
theorem dX8_perform_87 : decode cX8_perform 87 = .ok (.invokevirtual 137, 3) := by decide +kernel
theorem dX8_perform_90 : decode cX8_perform 90 = .ok (.istore_n 3, 1) := by decide +kernel
theorem dX8_perform_91 : decode cX8_perform 91 = .ok (.goto (-59), 3) := by decide +kernel
theorem dX8_perform_94 : decode cX8_perform 94 = .ok (.aload_n 0, 1) := by decide +kernel
theorem dX8_perform_95 : decode cX8_perform 95 = .ok (.bipush 6, 2) := by decide +kernel
theorem dX8_perform_97 : decode cX8_perform 97 = .ok (.invokevirtual 97, 3) := by decide +kernel
theorem dX8_perform_100 : decode cX8_perform 100 = .ok (.iload_n 2, 1) := by decide +kernel
theorem dX8_perform_101 : decode cX8_perform 101 = .ok (.ireturn, 1) := by decide +kernel
theorem dX8_stopped_0 : decode cX8_stopped 0 = .ok (.iload_n 1, 1) := by decide +kernel
theorem dX8_stopped_1 : decode cX8_stopped 1 = .ok (.iconst 0, 1) := by decide +kernel
theorem dX8_stopped_2 : decode cX8_stopped 2 = .ok (.iconst 1, 1) := by decide +kernel
theorem dX8_stopped_3 : decode cX8_stopped 3 = .ok (.invokestatic 76, 3) := by decide +kernel
theorem dX8_stopped_6 : decode cX8_stopped 6 = .ok (.ifCond .ne 8, 3) := by decide +kernel
theorem dX8_stopped_9 : decode cX8_stopped 9 = .ok (.bipush (-2), 2) := by decide +kernel
theorem dX8_stopped_11 : decode cX8_stopped 11 = .ok (.goto 18, 3) := by decide +kernel
theorem dX8_stopped_14 : decode cX8_stopped 14 = .ok (.iload_n 1, 1) := by decide +kernel
theorem dX8_stopped_15 : decode cX8_stopped 15 = .ok (.ifCond .ne 10, 3) := by decide +kernel
theorem dX8_stopped_18 : decode cX8_stopped 18 = .ok (.aload_n 0, 1) := by decide +kernel
theorem dX8_stopped_19 : decode cX8_stopped 19 = .ok (.getfield 16, 3) := by decide +kernel
theorem dX8_stopped_22 : decode cX8_stopped 22 = .ok (.goto 7, 3) := by decide +kernel
theorem dX8_stopped_25 : decode cX8_stopped 25 = .ok (.aload_n 0, 1) := by decide +kernel
theorem dX8_stopped_26 : decode cX8_stopped 26 = .ok (.getfield 20, 3) := by decide +kernel
theorem dX8_stopped_29 : decode cX8_stopped 29 = .ok (.ireturn, 1) := by decide +kernel
theorem dX8_undo_0 : decode cX8_undo 0 = .ok (.aload_n 0, 1) := by decide +kernel
theorem dX8_undo_1 : decode cX8_undo 1 = .ok (.getfield 29, 3) := by decide +kernel
theorem dX8_undo_4 : decode cX8_undo 4 = .ok (.ifCond .ne 6, 3) := by decide +kernel
theorem dX8_undo_7 : decode cX8_undo 7 = .ok (.bipush (-5), 2) := by decide +kernel
theorem dX8_undo_9 : decode cX8_undo 9 = .ok (.ireturn, 1) := by decide +kernel
theorem dX8_undo_10 : decode cX8_undo 10 = .ok (.aload_n 0, 1) := by decide +kernel
theorem dX8_undo_11 : decode cX8_undo 11 = .ok (.aload_n 0, 1) := by decide +kernel
theorem dX8_undo_12 : decode cX8_undo 12 = .ok (.getfield 29, 3) := by decide +kernel
theorem dX8_undo_15 : decode cX8_undo 15 = .ok (.iconst 0, 1) := by decide +kernel
theorem dX8_undo_16 : decode cX8_undo 16 = .ok (.invokevirtual 32, 3) := by decide +kernel
theorem dX8_undo_19 : decode cX8_undo 19 = .ok (.aload_n 0, 1) := by decide +kernel
theorem dX8_undo_20 : decode cX8_undo 20 = .ok (.dup, 1) := by decide +kernel
theorem dX8_undo_21 : decode cX8_undo 21 = .ok (.getfield 29, 3) := by decide +kernel
theorem dX8_undo_24 : decode cX8_undo 24 = .ok (.iconst 1, 1) := by decide +kernel
theorem dX8_undo_25 : decode cX8_undo 25 = .ok (.isub, 1) := by decide +kernel
theorem dX8_undo_26 : decode cX8_undo 26 = .ok (.putfield 29, 3) := by decide +kernel
theorem dX8_undo_29 : decode cX8_undo 29 = .ok (.aload_n 0, 1) := by decide +kernel
theorem dX8_undo_30 : decode cX8_undo 30 = .ok (.getfield 29, 3) := by decide +kernel
theorem dX8_undo_33 : decode cX8_undo 33 = .ok (.ireturn, 1) := by decide +kernel
theorem dX8_bylaws_0 : decode cX8_bylaws 0 = .ok (.iconst 0, 1) := by decide +kernel
theorem dX8_bylaws_1 : decode cX8_bylaws 1 = .ok (.istore_n 2, 1) := by decide +kernel
theorem dX8_bylaws_2 : decode cX8_bylaws 2 = .ok (.iconst 0, 1) := by decide +kernel
theorem dX8_bylaws_3 : decode cX8_bylaws 3 = .ok (.istore_n 3, 1) := by decide +kernel
theorem dX8_bylaws_4 : decode cX8_bylaws 4 = .ok (.iload_n 3, 1) := by decide +kernel
theorem dX8_bylaws_5 : decode cX8_bylaws 5 = .ok (.sipush 140, 3) := by decide +kernel
theorem dX8_bylaws_8 : decode cX8_bylaws 8 = .ok (.if_icmp .ge 58, 3) := by decide +kernel
theorem dX8_bylaws_11 : decode cX8_bylaws 11 = .ok (.aload_n 0, 1) := by decide +kernel
theorem dX8_bylaws_12 : decode cX8_bylaws 12 = .ok (.getfield 7, 3) := by decide +kernel
theorem dX8_bylaws_15 : decode cX8_bylaws 15 = .ok (.sipush 192, 3) := by decide +kernel
theorem dX8_bylaws_18 : decode cX8_bylaws 18 = .ok (.iconst 3, 1) := by decide +kernel
theorem dX8_bylaws_19 : decode cX8_bylaws 19 = .ok (.iload_n 3, 1) := by decide +kernel
theorem dX8_bylaws_20 : decode cX8_bylaws 20 = .ok (.imul, 1) := by decide +kernel
theorem dX8_bylaws_21 : decode cX8_bylaws 21 = .ok (.iadd, 1) := by decide +kernel
theorem dX8_bylaws_22 : decode cX8_bylaws 22 = .ok (.iaload, 1) := by decide +kernel
theorem dX8_bylaws_23 : decode cX8_bylaws 23 = .ok (.istore 4, 2) := by decide +kernel
theorem dX8_bylaws_25 : decode cX8_bylaws 25 = .ok (.iload_n 2, 1) := by decide +kernel
theorem dX8_bylaws_26 : decode cX8_bylaws 26 = .ok (.iload_n 1, 1) := by decide +kernel
theorem dX8_bylaws_27 : decode cX8_bylaws 27 = .ok (.ifCond .eq 16, 3) := by decide +kernel
theorem dX8_bylaws_30 : decode cX8_bylaws 30 = .ok (.iload 4, 2) := by decide +kernel
theorem dX8_bylaws_32 : decode cX8_bylaws 32 = .ok (.ifCond .ne 7, 3) := by decide +kernel
theorem dX8_bylaws_35 : decode cX8_bylaws 35 = .ok (.iconst 1, 1) := by decide +kernel
theorem dX8_bylaws_36 : decode cX8_bylaws 36 = .ok (.goto 19, 3) := by decide +kernel
theorem dX8_bylaws_39 : decode cX8_bylaws 39 = .ok (.iconst 0, 1) := by decide +kernel
theorem dX8_bylaws_40 : decode cX8_bylaws 40 = .ok (.goto 15, 3) := by decide +kernel
theorem dX8_bylaws_43 : decode cX8_bylaws 43 = .ok (.iload 4, 2) := by decide +kernel
theorem dX8_bylaws_45 : decode cX8_bylaws 45 = .ok (.bipush (-5), 2) := by decide +kernel
theorem dX8_bylaws_47 : decode cX8_bylaws 47 = .ok (.if_icmp .eq 7, 3) := by decide +kernel
theorem dX8_bylaws_50 : decode cX8_bylaws 50 = .ok (.iconst 1, 1) := by decide +kernel
theorem dX8_bylaws_51 : decode cX8_bylaws 51 = .ok (.goto 4, 3) := by decide +kernel
theorem dX8_bylaws_54 : decode cX8_bylaws 54 = .ok (.iconst 0, 1) := by decide +kernel
theorem dX8_bylaws_55 : decode cX8_bylaws 55 = .ok (.invokestatic 54, 3) := by decide +kernel
theorem dX8_bylaws_58 : decode cX8_bylaws 58 = .ok (.iadd, 1) := by decide +kernel
theorem dX8_bylaws_59 : decode cX8_bylaws 59 = .ok (.istore_n 2, 1) := by decide +kernel
theorem dX8_bylaws_60 : decode cX8_bylaws 60 = .ok (.iinc 3 1, 3) := by decide +kernel
theorem dX8_bylaws_63 : decode cX8_bylaws 63 = .ok (.goto (-59), 3) := by decide +kernel
theorem dX8_bylaws_66 : decode cX8_bylaws 66 = .ok (.iload_n 2, 1) := by decide +kernel
theorem dX8_bylaws_67 : decode cX8_bylaws 67 = .ok (.ireturn, 1) := by decide +kernel
theorem dX8_keep_0 : decode cX8_keep 0 = .ok (.aload_n 0, 1) := by decide +kernel
theorem dX8_keep_1 : decode cX8_keep 1 = .ok (.iconst 0, 1) := by decide +kernel
theorem dX8_keep_2 : decode cX8_keep 2 = .ok (.iconst 5, 1) := by decide +kernel
theorem dX8_keep_3 : decode cX8_keep 3 = .ok (.invokevirtual 32, 3) := by decide +kernel
theorem dX8_keep_6 : decode cX8_keep 6 = .ok (.aload_n 0, 1) := by decide +kernel
theorem dX8_keep_7 : decode cX8_keep 7 = .ok (.iconst 1, 1) := by decide +kernel
theorem dX8_keep_8 : decode cX8_keep 8 = .ok (.putfield 166, 3) := by decide +kernel
theorem dX8_keep_11 : decode cX8_keep 11 = .ok (.aload_n 0, 1) := by decide +kernel
theorem dX8_keep_12 : decode cX8_keep 12 = .ok (.iconst 0, 1) := by decide +kernel
theorem dX8_keep_13 : decode cX8_keep 13 = .ok (.invokevirtual 170, 3) := by decide +kernel
theorem dX8_keep_16 : decode cX8_keep 16 = .ok (.ireturn, 1) := by decide +kernel
theorem dX8_restore_0 : decode cX8_restore 0 = .ok (.aload_n 0, 1) := by decide +kernel
theorem dX8_restore_1 : decode cX8_restore 1 = .ok (.getfield 166, 3) := by decide +kernel
theorem dX8_restore_4 : decode cX8_restore 4 = .ok (.ifCond .ne 6, 3) := by decide +kernel
theorem dX8_restore_7 : decode cX8_restore 7 = .ok (.bipush (-5), 2) := by decide +kernel
theorem dX8_restore_9 : decode cX8_restore 9 = .ok (.ireturn, 1) := by decide +kernel
theorem dX8_restore_10 : decode cX8_restore 10 = .ok (.aload_n 0, 1) := by decide +kernel
theorem dX8_restore_11 : decode cX8_restore 11 = .ok (.iconst 0, 1) := by decide +kernel
theorem dX8_restore_12 : decode cX8_restore 12 = .ok (.invokevirtual 97, 3) := by decide +kernel
theorem dX8_restore_15 : decode cX8_restore 15 = .ok (.aload_n 0, 1) := by decide +kernel
theorem dX8_restore_16 : decode cX8_restore 16 = .ok (.iconst 5, 1) := by decide +kernel
theorem dX8_restore_17 : decode cX8_restore 17 = .ok (.iconst 0, 1) := by decide +kernel
theorem dX8_restore_18 : decode cX8_restore 18 = .ok (.invokevirtual 32, 3) := by decide +kernel
theorem dX8_restore_21 : decode cX8_restore 21 = .ok (.aload_n 0, 1) := by decide +kernel
theorem dX8_restore_22 : decode cX8_restore 22 = .ok (.iconst 0, 1) := by decide +kernel
theorem dX8_restore_23 : decode cX8_restore 23 = .ok (.invokevirtual 170, 3) := by decide +kernel
theorem dX8_restore_26 : decode cX8_restore 26 = .ok (.ireturn, 1) := by decide +kernel
theorem dX8_secondedBy_0 : decode cX8_secondedBy 0 = .ok (.iconst 0, 1) := by decide +kernel
theorem dX8_secondedBy_1 : decode cX8_secondedBy 1 = .ok (.istore_n 2, 1) := by decide +kernel
theorem dX8_secondedBy_2 : decode cX8_secondedBy 2 = .ok (.iconst 0, 1) := by decide +kernel
theorem dX8_secondedBy_3 : decode cX8_secondedBy 3 = .ok (.istore_n 3, 1) := by decide +kernel
theorem dX8_secondedBy_4 : decode cX8_secondedBy 4 = .ok (.iload_n 3, 1) := by decide +kernel
theorem dX8_secondedBy_5 : decode cX8_secondedBy 5 = .ok (.aload_n 0, 1) := by decide +kernel
theorem dX8_secondedBy_6 : decode cX8_secondedBy 6 = .ok (.getfield 7, 3) := by decide +kernel
theorem dX8_secondedBy_9 : decode cX8_secondedBy 9 = .ok (.bipush 6, 2) := by decide +kernel
theorem dX8_secondedBy_11 : decode cX8_secondedBy 11 = .ok (.iaload, 1) := by decide +kernel
theorem dX8_secondedBy_12 : decode cX8_secondedBy 12 = .ok (.if_icmp .ge 30, 3) := by decide +kernel
theorem dX8_secondedBy_15 : decode cX8_secondedBy 15 = .ok (.iload_n 2, 1) := by decide +kernel
theorem dX8_secondedBy_16 : decode cX8_secondedBy 16 = .ok (.aload_n 0, 1) := by decide +kernel
theorem dX8_secondedBy_17 : decode cX8_secondedBy 17 = .ok (.getfield 7, 3) := by decide +kernel
theorem dX8_secondedBy_20 : decode cX8_secondedBy 20 = .ok (.iconst 0, 1) := by decide +kernel
theorem dX8_secondedBy_21 : decode cX8_secondedBy 21 = .ok (.iload_n 3, 1) := by decide +kernel
theorem dX8_secondedBy_22 : decode cX8_secondedBy 22 = .ok (.invokestatic 36, 3) := by decide +kernel
theorem dX8_secondedBy_25 : decode cX8_secondedBy 25 = .ok (.iconst 4, 1) := by decide +kernel
theorem dX8_secondedBy_26 : decode cX8_secondedBy 26 = .ok (.iadd, 1) := by decide +kernel
theorem dX8_secondedBy_27 : decode cX8_secondedBy 27 = .ok (.iaload, 1) := by decide +kernel
theorem dX8_secondedBy_28 : decode cX8_secondedBy 28 = .ok (.iload_n 1, 1) := by decide +kernel
theorem dX8_secondedBy_29 : decode cX8_secondedBy 29 = .ok (.ishr, 1) := by decide +kernel
theorem dX8_secondedBy_30 : decode cX8_secondedBy 30 = .ok (.iconst 1, 1) := by decide +kernel
theorem dX8_secondedBy_31 : decode cX8_secondedBy 31 = .ok (.iand, 1) := by decide +kernel
theorem dX8_secondedBy_32 : decode cX8_secondedBy 32 = .ok (.iload_n 3, 1) := by decide +kernel
theorem dX8_secondedBy_33 : decode cX8_secondedBy 33 = .ok (.ishl, 1) := by decide +kernel
theorem dX8_secondedBy_34 : decode cX8_secondedBy 34 = .ok (.ior, 1) := by decide +kernel
theorem dX8_secondedBy_35 : decode cX8_secondedBy 35 = .ok (.istore_n 2, 1) := by decide +kernel
theorem dX8_secondedBy_36 : decode cX8_secondedBy 36 = .ok (.iinc 3 1, 3) := by decide +kernel
theorem dX8_secondedBy_39 : decode cX8_secondedBy 39 = .ok (.goto (-35), 3) := by decide +kernel
theorem dX8_secondedBy_42 : decode cX8_secondedBy 42 = .ok (.iload_n 2, 1) := by decide +kernel
theorem dX8_secondedBy_43 : decode cX8_secondedBy 43 = .ok (.ireturn, 1) := by decide +kernel
theorem dX8_drone_0 : decode cX8_drone 0 = .ok (.aload_n 0, 1) := by decide +kernel
theorem dX8_drone_1 : decode cX8_drone 1 = .ok (.iload_n 1, 1) := by decide +kernel
theorem dX8_drone_2 : decode cX8_drone 2 = .ok (.invokevirtual 84, 3) := by decide +kernel
theorem dX8_drone_5 : decode cX8_drone 5 = .ok (.ifCond .ne 5, 3) := by decide +kernel
theorem dX8_drone_8 : decode cX8_drone 8 = .ok (.iconst (-1), 1) := by decide +kernel
theorem dX8_drone_9 : decode cX8_drone 9 = .ok (.ireturn, 1) := by decide +kernel
theorem dX8_drone_10 : decode cX8_drone 10 = .ok (.iload_n 2, 1) := by decide +kernel
theorem dX8_drone_11 : decode cX8_drone 11 = .ok (.iconst 0, 1) := by decide +kernel
theorem dX8_drone_12 : decode cX8_drone 12 = .ok (.iconst 2, 1) := by decide +kernel
theorem dX8_drone_13 : decode cX8_drone 13 = .ok (.invokestatic 76, 3) := by decide +kernel
theorem dX8_drone_16 : decode cX8_drone 16 = .ok (.ifCond .eq 18, 3) := by decide +kernel
theorem dX8_drone_19 : decode cX8_drone 19 = .ok (.aload_n 0, 1) := by decide +kernel
theorem dX8_drone_20 : decode cX8_drone 20 = .ok (.getfield 7, 3) := by decide +kernel
theorem dX8_drone_23 : decode cX8_drone 23 = .ok (.iconst 0, 1) := by decide +kernel
theorem dX8_drone_24 : decode cX8_drone 24 = .ok (.iload_n 1, 1) := by decide +kernel
theorem dX8_drone_25 : decode cX8_drone 25 = .ok (.invokestatic 40, 3) := by decide +kernel
theorem dX8_drone_28 : decode cX8_drone 28 = .ok (.iload_n 2, 1) := by decide +kernel
theorem dX8_drone_29 : decode cX8_drone 29 = .ok (.iadd, 1) := by decide +kernel
theorem dX8_drone_30 : decode cX8_drone 30 = .ok (.iaload, 1) := by decide +kernel
theorem dX8_drone_31 : decode cX8_drone 31 = .ok (.goto 45, 3) := by decide +kernel
theorem dX8_drone_34 : decode cX8_drone 34 = .ok (.iload_n 2, 1) := by decide +kernel
theorem dX8_drone_35 : decode cX8_drone 35 = .ok (.iconst 3, 1) := by decide +kernel
theorem dX8_drone_36 : decode cX8_drone 36 = .ok (.if_icmp .ne 11, 3) := by decide +kernel
theorem dX8_drone_39 : decode cX8_drone 39 = .ok (.aload_n 0, 1) := by decide +kernel
theorem dX8_drone_40 : decode cX8_drone 40 = .ok (.iload_n 1, 1) := by decide +kernel
theorem dX8_drone_41 : decode cX8_drone 41 = .ok (.invokevirtual 173, 3) := by decide +kernel
theorem dX8_drone_44 : decode cX8_drone 44 = .ok (.goto 32, 3) := by decide +kernel
theorem dX8_drone_47 : decode cX8_drone 47 = .ok (.iload_n 2, 1) := by decide +kernel
theorem dX8_drone_48 : decode cX8_drone 48 = .ok (.iconst 4, 1) := by decide +kernel
theorem dX8_drone_49 : decode cX8_drone 49 = .ok (.bipush 6, 2) := by decide +kernel
theorem dX8_drone_51 : decode cX8_drone 51 = .ok (.invokestatic 76, 3) := by decide +kernel
theorem dX8_drone_54 : decode cX8_drone 54 = .ok (.ifCond .eq 20, 3) := by decide +kernel
theorem dX8_drone_57 : decode cX8_drone 57 = .ok (.aload_n 0, 1) := by decide +kernel
theorem dX8_drone_58 : decode cX8_drone 58 = .ok (.getfield 7, 3) := by decide +kernel
theorem dX8_drone_61 : decode cX8_drone 61 = .ok (.iconst 0, 1) := by decide +kernel
theorem dX8_drone_62 : decode cX8_drone 62 = .ok (.iload_n 1, 1) := by decide +kernel
theorem dX8_drone_63 : decode cX8_drone 63 = .ok (.invokestatic 40, 3) := by decide +kernel
theorem dX8_drone_66 : decode cX8_drone 66 = .ok (.iload_n 2, 1) := by decide +kernel
theorem dX8_drone_67 : decode cX8_drone 67 = .ok (.iadd, 1) := by decide +kernel
theorem dX8_drone_68 : decode cX8_drone 68 = .ok (.iconst 1, 1) := by decide +kernel
theorem dX8_drone_69 : decode cX8_drone 69 = .ok (.isub, 1) := by decide +kernel
theorem dX8_drone_70 : decode cX8_drone 70 = .ok (.iaload, 1) := by decide +kernel
theorem dX8_drone_71 : decode cX8_drone 71 = .ok (.goto 5, 3) := by decide +kernel
theorem dX8_drone_74 : decode cX8_drone 74 = .ok (.bipush (-2), 2) := by decide +kernel
theorem dX8_drone_76 : decode cX8_drone 76 = .ok (.ireturn, 1) := by decide +kernel
theorem dX8_ranked_0 : decode cX8_ranked 0 = .ok (.iconst 0, 1) := by decide +kernel
theorem dX8_ranked_1 : decode cX8_ranked 1 = .ok (.istore_n 2, 1) := by decide +kernel
theorem dX8_ranked_2 : decode cX8_ranked 2 = .ok (.iconst 0, 1) := by decide +kernel
theorem dX8_ranked_3 : decode cX8_ranked 3 = .ok (.istore_n 3, 1) := by decide +kernel
theorem dX8_ranked_4 : decode cX8_ranked 4 = .ok (.iload_n 3, 1) := by decide +kernel
theorem dX8_ranked_5 : decode cX8_ranked 5 = .ok (.sipush 140, 3) := by decide +kernel
theorem dX8_ranked_8 : decode cX8_ranked 8 = .ok (.if_icmp .ge 36, 3) := by decide +kernel
theorem dX8_ranked_11 : decode cX8_ranked 11 = .ok (.aload_n 0, 1) := by decide +kernel
theorem dX8_ranked_12 : decode cX8_ranked 12 = .ok (.getfield 7, 3) := by decide +kernel
theorem dX8_ranked_15 : decode cX8_ranked 15 = .ok (.sipush 192, 3) := by decide +kernel
theorem dX8_ranked_18 : decode cX8_ranked 18 = .ok (.iconst 3, 1) := by decide +kernel
theorem dX8_ranked_19 : decode cX8_ranked 19 = .ok (.iload_n 3, 1) := by decide +kernel
theorem dX8_ranked_20 : decode cX8_ranked 20 = .ok (.imul, 1) := by decide +kernel
theorem dX8_ranked_21 : decode cX8_ranked 21 = .ok (.iadd, 1) := by decide +kernel
theorem dX8_ranked_22 : decode cX8_ranked 22 = .ok (.iaload, 1) := by decide +kernel
theorem dX8_ranked_23 : decode cX8_ranked 23 = .ok (.bipush (-5), 2) := by decide +kernel
theorem dX8_ranked_25 : decode cX8_ranked 25 = .ok (.if_icmp .eq 13, 3) := by decide +kernel
theorem dX8_ranked_28 : decode cX8_ranked 28 = .ok (.iload_n 2, 1) := by decide +kernel
theorem dX8_ranked_29 : decode cX8_ranked 29 = .ok (.iload_n 1, 1) := by decide +kernel
theorem dX8_ranked_30 : decode cX8_ranked 30 = .ok (.if_icmp .ne 5, 3) := by decide +kernel
theorem dX8_ranked_33 : decode cX8_ranked 33 = .ok (.iload_n 3, 1) := by decide +kernel
theorem dX8_ranked_34 : decode cX8_ranked 34 = .ok (.ireturn, 1) := by decide +kernel
theorem dX8_ranked_35 : decode cX8_ranked 35 = .ok (.iinc 2 1, 3) := by decide +kernel
theorem dX8_ranked_38 : decode cX8_ranked 38 = .ok (.iinc 3 1, 3) := by decide +kernel
theorem dX8_ranked_41 : decode cX8_ranked 41 = .ok (.goto (-37), 3) := by decide +kernel
theorem dX8_ranked_44 : decode cX8_ranked 44 = .ok (.bipush (-5), 2) := by decide +kernel
theorem dX8_ranked_46 : decode cX8_ranked 46 = .ok (.ireturn, 1) := by decide +kernel
theorem dX8_rankOf_0 : decode cX8_rankOf 0 = .ok (.iconst 0, 1) := by decide +kernel
theorem dX8_rankOf_1 : decode cX8_rankOf 1 = .ok (.istore_n 2, 1) := by decide +kernel
theorem dX8_rankOf_2 : decode cX8_rankOf 2 = .ok (.iconst 0, 1) := by decide +kernel
theorem dX8_rankOf_3 : decode cX8_rankOf 3 = .ok (.istore_n 3, 1) := by decide +kernel
theorem dX8_rankOf_4 : decode cX8_rankOf 4 = .ok (.iload_n 3, 1) := by decide +kernel
theorem dX8_rankOf_5 : decode cX8_rankOf 5 = .ok (.iload_n 1, 1) := by decide +kernel
theorem dX8_rankOf_6 : decode cX8_rankOf 6 = .ok (.if_icmp .ge 37, 3) := by decide +kernel
theorem dX8_rankOf_9 : decode cX8_rankOf 9 = .ok (.iload_n 2, 1) := by decide +kernel
theorem dX8_rankOf_10 : decode cX8_rankOf 10 = .ok (.aload_n 0, 1) := by decide +kernel
theorem dX8_rankOf_11 : decode cX8_rankOf 11 = .ok (.getfield 7, 3) := by decide +kernel
theorem dX8_rankOf_14 : decode cX8_rankOf 14 = .ok (.sipush 192, 3) := by decide +kernel
theorem dX8_rankOf_17 : decode cX8_rankOf 17 = .ok (.iconst 3, 1) := by decide +kernel
theorem dX8_rankOf_18 : decode cX8_rankOf 18 = .ok (.iload_n 3, 1) := by decide +kernel
theorem dX8_rankOf_19 : decode cX8_rankOf 19 = .ok (.imul, 1) := by decide +kernel
theorem dX8_rankOf_20 : decode cX8_rankOf 20 = .ok (.iadd, 1) := by decide +kernel
theorem dX8_rankOf_21 : decode cX8_rankOf 21 = .ok (.iaload, 1) := by decide +kernel
theorem dX8_rankOf_22 : decode cX8_rankOf 22 = .ok (.bipush (-5), 2) := by decide +kernel
theorem dX8_rankOf_24 : decode cX8_rankOf 24 = .ok (.if_icmp .eq 7, 3) := by decide +kernel
theorem dX8_rankOf_27 : decode cX8_rankOf 27 = .ok (.iconst 1, 1) := by decide +kernel
theorem dX8_rankOf_28 : decode cX8_rankOf 28 = .ok (.goto 4, 3) := by decide +kernel
theorem dX8_rankOf_31 : decode cX8_rankOf 31 = .ok (.iconst 0, 1) := by decide +kernel
theorem dX8_rankOf_32 : decode cX8_rankOf 32 = .ok (.invokestatic 54, 3) := by decide +kernel
theorem dX8_rankOf_35 : decode cX8_rankOf 35 = .ok (.iadd, 1) := by decide +kernel
theorem dX8_rankOf_36 : decode cX8_rankOf 36 = .ok (.istore_n 2, 1) := by decide +kernel
theorem dX8_rankOf_37 : decode cX8_rankOf 37 = .ok (.iinc 3 1, 3) := by decide +kernel
theorem dX8_rankOf_40 : decode cX8_rankOf 40 = .ok (.goto (-36), 3) := by decide +kernel
theorem dX8_rankOf_43 : decode cX8_rankOf 43 = .ok (.iload_n 2, 1) := by decide +kernel
theorem dX8_rankOf_44 : decode cX8_rankOf 44 = .ok (.ireturn, 1) := by decide +kernel
theorem dX8_bylaw_0 : decode cX8_bylaw 0 = .ok (.iload_n 1, 1) := by decide +kernel
theorem dX8_bylaw_1 : decode cX8_bylaw 1 = .ok (.ifCond .lt 12, 3) := by decide +kernel
theorem dX8_bylaw_4 : decode cX8_bylaw 4 = .ok (.iload_n 2, 1) := by decide +kernel
theorem dX8_bylaw_5 : decode cX8_bylaw 5 = .ok (.iconst 0, 1) := by decide +kernel
theorem dX8_bylaw_6 : decode cX8_bylaw 6 = .ok (.iconst 5, 1) := by decide +kernel
theorem dX8_bylaw_7 : decode cX8_bylaw 7 = .ok (.invokestatic 76, 3) := by decide +kernel
theorem dX8_bylaw_10 : decode cX8_bylaw 10 = .ok (.ifCond .ne 6, 3) := by decide +kernel
theorem dX8_bylaw_13 : decode cX8_bylaw 13 = .ok (.bipush (-2), 2) := by decide +kernel
theorem dX8_bylaw_15 : decode cX8_bylaw 15 = .ok (.ireturn, 1) := by decide +kernel
theorem dX8_bylaw_16 : decode cX8_bylaw 16 = .ok (.aload_n 0, 1) := by decide +kernel
theorem dX8_bylaw_17 : decode cX8_bylaw 17 = .ok (.iload_n 1, 1) := by decide +kernel
theorem dX8_bylaw_18 : decode cX8_bylaw 18 = .ok (.invokevirtual 176, 3) := by decide +kernel
theorem dX8_bylaw_21 : decode cX8_bylaw 21 = .ok (.istore_n 3, 1) := by decide +kernel
theorem dX8_bylaw_22 : decode cX8_bylaw 22 = .ok (.iload_n 3, 1) := by decide +kernel
theorem dX8_bylaw_23 : decode cX8_bylaw 23 = .ok (.bipush (-5), 2) := by decide +kernel
theorem dX8_bylaw_25 : decode cX8_bylaw 25 = .ok (.if_icmp .ne 6, 3) := by decide +kernel
theorem dX8_bylaw_28 : decode cX8_bylaw 28 = .ok (.bipush (-5), 2) := by decide +kernel
theorem dX8_bylaw_30 : decode cX8_bylaw 30 = .ok (.ireturn, 1) := by decide +kernel
theorem dX8_bylaw_31 : decode cX8_bylaw 31 = .ok (.iload_n 2, 1) := by decide +kernel
theorem dX8_bylaw_32 : decode cX8_bylaw 32 = .ok (.ifCond .ne 10, 3) := by decide +kernel
theorem dX8_bylaw_35 : decode cX8_bylaw 35 = .ok (.iload_n 3, 1) := by decide +kernel
theorem dX8_bylaw_36 : decode cX8_bylaw 36 = .ok (.bipush 20, 2) := by decide +kernel
theorem dX8_bylaw_38 : decode cX8_bylaw 38 = .ok (.idiv, 1) := by decide +kernel
theorem dX8_bylaw_39 : decode cX8_bylaw 39 = .ok (.goto 48, 3) := by decide +kernel
theorem dX8_bylaw_42 : decode cX8_bylaw 42 = .ok (.iload_n 2, 1) := by decide +kernel
theorem dX8_bylaw_43 : decode cX8_bylaw 43 = .ok (.iconst 1, 1) := by decide +kernel
theorem dX8_bylaw_44 : decode cX8_bylaw 44 = .ok (.if_icmp .ne 10, 3) := by decide +kernel
theorem dX8_bylaw_47 : decode cX8_bylaw 47 = .ok (.iload_n 3, 1) := by decide +kernel
theorem dX8_bylaw_48 : decode cX8_bylaw 48 = .ok (.bipush 20, 2) := by decide +kernel
theorem dX8_bylaw_50 : decode cX8_bylaw 50 = .ok (.irem, 1) := by decide +kernel
theorem dX8_bylaw_51 : decode cX8_bylaw 51 = .ok (.goto 36, 3) := by decide +kernel
theorem dX8_bylaw_54 : decode cX8_bylaw 54 = .ok (.iload_n 2, 1) := by decide +kernel
theorem dX8_bylaw_55 : decode cX8_bylaw 55 = .ok (.iconst 5, 1) := by decide +kernel
theorem dX8_bylaw_56 : decode cX8_bylaw 56 = .ok (.if_icmp .ne 15, 3) := by decide +kernel
theorem dX8_bylaw_59 : decode cX8_bylaw 59 = .ok (.aload_n 0, 1) := by decide +kernel
theorem dX8_bylaw_60 : decode cX8_bylaw 60 = .ok (.iconst 0, 1) := by decide +kernel
theorem dX8_bylaw_61 : decode cX8_bylaw 61 = .ok (.iload_n 3, 1) := by decide +kernel
theorem dX8_bylaw_62 : decode cX8_bylaw 62 = .ok (.bipush 20, 2) := by decide +kernel
theorem dX8_bylaw_64 : decode cX8_bylaw 64 = .ok (.idiv, 1) := by decide +kernel
theorem dX8_bylaw_65 : decode cX8_bylaw 65 = .ok (.invokevirtual 51, 3) := by decide +kernel
theorem dX8_bylaw_68 : decode cX8_bylaw 68 = .ok (.goto 19, 3) := by decide +kernel
theorem dX8_bylaw_71 : decode cX8_bylaw 71 = .ok (.aload_n 0, 1) := by decide +kernel
theorem dX8_bylaw_72 : decode cX8_bylaw 72 = .ok (.getfield 7, 3) := by decide +kernel
theorem dX8_bylaw_75 : decode cX8_bylaw 75 = .ok (.sipush 192, 3) := by decide +kernel
theorem dX8_bylaw_78 : decode cX8_bylaw 78 = .ok (.iconst 3, 1) := by decide +kernel
theorem dX8_bylaw_79 : decode cX8_bylaw 79 = .ok (.iload_n 3, 1) := by decide +kernel
theorem dX8_bylaw_80 : decode cX8_bylaw 80 = .ok (.imul, 1) := by decide +kernel
theorem dX8_bylaw_81 : decode cX8_bylaw 81 = .ok (.iadd, 1) := by decide +kernel
theorem dX8_bylaw_82 : decode cX8_bylaw 82 = .ok (.iload_n 2, 1) := by decide +kernel
theorem dX8_bylaw_83 : decode cX8_bylaw 83 = .ok (.iadd, 1) := by decide +kernel
theorem dX8_bylaw_84 : decode cX8_bylaw 84 = .ok (.iconst 2, 1) := by decide +kernel
theorem dX8_bylaw_85 : decode cX8_bylaw 85 = .ok (.isub, 1) := by decide +kernel
theorem dX8_bylaw_86 : decode cX8_bylaw 86 = .ok (.iaload, 1) := by decide +kernel
theorem dX8_bylaw_87 : decode cX8_bylaw 87 = .ok (.ireturn, 1) := by decide +kernel
theorem dX8_petitionOf_0 : decode cX8_petitionOf 0 = .ok (.aload_n 0, 1) := by decide +kernel
theorem dX8_petitionOf_1 : decode cX8_petitionOf 1 = .ok (.iload_n 1, 1) := by decide +kernel
theorem dX8_petitionOf_2 : decode cX8_petitionOf 2 = .ok (.invokevirtual 90, 3) := by decide +kernel
theorem dX8_petitionOf_5 : decode cX8_petitionOf 5 = .ok (.ifCond .ne 5, 3) := by decide +kernel
theorem dX8_petitionOf_8 : decode cX8_petitionOf 8 = .ok (.iconst (-1), 1) := by decide +kernel
theorem dX8_petitionOf_9 : decode cX8_petitionOf 9 = .ok (.ireturn, 1) := by decide +kernel
theorem dX8_petitionOf_10 : decode cX8_petitionOf 10 = .ok (.iconst 0, 1) := by decide +kernel
theorem dX8_petitionOf_11 : decode cX8_petitionOf 11 = .ok (.iload_n 1, 1) := by decide +kernel
theorem dX8_petitionOf_12 : decode cX8_petitionOf 12 = .ok (.invokestatic 36, 3) := by decide +kernel
theorem dX8_petitionOf_15 : decode cX8_petitionOf 15 = .ok (.istore_n 3, 1) := by decide +kernel
theorem dX8_petitionOf_16 : decode cX8_petitionOf 16 = .ok (.iload_n 2, 1) := by decide +kernel
theorem dX8_petitionOf_17 : decode cX8_petitionOf 17 = .ok (.iconst 0, 1) := by decide +kernel
theorem dX8_petitionOf_18 : decode cX8_petitionOf 18 = .ok (.iconst 3, 1) := by decide +kernel
theorem dX8_petitionOf_19 : decode cX8_petitionOf 19 = .ok (.invokestatic 76, 3) := by decide +kernel
theorem dX8_petitionOf_22 : decode cX8_petitionOf 22 = .ok (.ifCond .eq 14, 3) := by decide +kernel
theorem dX8_petitionOf_25 : decode cX8_petitionOf 25 = .ok (.aload_n 0, 1) := by decide +kernel
theorem dX8_petitionOf_26 : decode cX8_petitionOf 26 = .ok (.getfield 7, 3) := by decide +kernel
theorem dX8_petitionOf_29 : decode cX8_petitionOf 29 = .ok (.iload_n 3, 1) := by decide +kernel
theorem dX8_petitionOf_30 : decode cX8_petitionOf 30 = .ok (.iload_n 2, 1) := by decide +kernel
theorem dX8_petitionOf_31 : decode cX8_petitionOf 31 = .ok (.iadd, 1) := by decide +kernel
theorem dX8_petitionOf_32 : decode cX8_petitionOf 32 = .ok (.iaload, 1) := by decide +kernel
theorem dX8_petitionOf_33 : decode cX8_petitionOf 33 = .ok (.goto 35, 3) := by decide +kernel
theorem dX8_petitionOf_36 : decode cX8_petitionOf 36 = .ok (.iload_n 2, 1) := by decide +kernel
theorem dX8_petitionOf_37 : decode cX8_petitionOf 37 = .ok (.iconst 4, 1) := by decide +kernel
theorem dX8_petitionOf_38 : decode cX8_petitionOf 38 = .ok (.if_icmp .ne 12, 3) := by decide +kernel
theorem dX8_petitionOf_41 : decode cX8_petitionOf 41 = .ok (.aload_n 0, 1) := by decide +kernel
theorem dX8_petitionOf_42 : decode cX8_petitionOf 42 = .ok (.iconst 0, 1) := by decide +kernel
theorem dX8_petitionOf_43 : decode cX8_petitionOf 43 = .ok (.iload_n 1, 1) := by decide +kernel
theorem dX8_petitionOf_44 : decode cX8_petitionOf 44 = .ok (.invokevirtual 58, 3) := by decide +kernel
theorem dX8_petitionOf_47 : decode cX8_petitionOf 47 = .ok (.goto 21, 3) := by decide +kernel
theorem dX8_petitionOf_50 : decode cX8_petitionOf 50 = .ok (.iload_n 2, 1) := by decide +kernel
theorem dX8_petitionOf_51 : decode cX8_petitionOf 51 = .ok (.iconst 5, 1) := by decide +kernel
theorem dX8_petitionOf_52 : decode cX8_petitionOf 52 = .ok (.if_icmp .ne 14, 3) := by decide +kernel
theorem dX8_petitionOf_55 : decode cX8_petitionOf 55 = .ok (.aload_n 0, 1) := by decide +kernel
theorem dX8_petitionOf_56 : decode cX8_petitionOf 56 = .ok (.getfield 7, 3) := by decide +kernel
theorem dX8_petitionOf_59 : decode cX8_petitionOf 59 = .ok (.iload_n 3, 1) := by decide +kernel
theorem dX8_petitionOf_60 : decode cX8_petitionOf 60 = .ok (.iconst 4, 1) := by decide +kernel
theorem dX8_petitionOf_61 : decode cX8_petitionOf 61 = .ok (.iadd, 1) := by decide +kernel
theorem dX8_petitionOf_62 : decode cX8_petitionOf 62 = .ok (.iaload, 1) := by decide +kernel
theorem dX8_petitionOf_63 : decode cX8_petitionOf 63 = .ok (.goto 5, 3) := by decide +kernel
theorem dX8_petitionOf_66 : decode cX8_petitionOf 66 = .ok (.bipush (-2), 2) := by decide +kernel
theorem dX8_petitionOf_68 : decode cX8_petitionOf 68 = .ok (.ireturn, 1) := by decide +kernel
theorem dX8_heard_0 : decode cX8_heard 0 = .ok (.iload_n 1, 1) := by decide +kernel
theorem dX8_heard_1 : decode cX8_heard 1 = .ok (.ifCond .ge 6, 3) := by decide +kernel
theorem dX8_heard_4 : decode cX8_heard 4 = .ok (.bipush (-2), 2) := by decide +kernel
theorem dX8_heard_6 : decode cX8_heard 6 = .ok (.ireturn, 1) := by decide +kernel
theorem dX8_heard_7 : decode cX8_heard 7 = .ok (.aload_n 0, 1) := by decide +kernel
theorem dX8_heard_8 : decode cX8_heard 8 = .ok (.iconst 0, 1) := by decide +kernel
theorem dX8_heard_9 : decode cX8_heard 9 = .ok (.invokevirtual 61, 3) := by decide +kernel
theorem dX8_heard_12 : decode cX8_heard 12 = .ok (.iload_n 1, 1) := by decide +kernel
theorem dX8_heard_13 : decode cX8_heard 13 = .ok (.aload_n 0, 1) := by decide +kernel
theorem dX8_heard_14 : decode cX8_heard 14 = .ok (.getfield 7, 3) := by decide +kernel
theorem dX8_heard_17 : decode cX8_heard 17 = .ok (.bipush 6, 2) := by decide +kernel
theorem dX8_heard_19 : decode cX8_heard 19 = .ok (.iaload, 1) := by decide +kernel
theorem dX8_heard_20 : decode cX8_heard 20 = .ok (.if_icmp .ge 12, 3) := by decide +kernel
theorem dX8_heard_23 : decode cX8_heard 23 = .ok (.aload_n 0, 1) := by decide +kernel
theorem dX8_heard_24 : decode cX8_heard 24 = .ok (.getfield 23, 3) := by decide +kernel
theorem dX8_heard_27 : decode cX8_heard 27 = .ok (.iload_n 1, 1) := by decide +kernel
theorem dX8_heard_28 : decode cX8_heard 28 = .ok (.iaload, 1) := by decide +kernel
theorem dX8_heard_29 : decode cX8_heard 29 = .ok (.goto 5, 3) := by decide +kernel
theorem dX8_heard_32 : decode cX8_heard 32 = .ok (.bipush (-5), 2) := by decide +kernel
theorem dX8_heard_34 : decode cX8_heard 34 = .ok (.ireturn, 1) := by decide +kernel
theorem dX8_ruling_0 : decode cX8_ruling 0 = .ok (.iconst 0, 1) := by decide +kernel
theorem dX8_ruling_1 : decode cX8_ruling 1 = .ok (.iload_n 1, 1) := by decide +kernel
theorem dX8_ruling_2 : decode cX8_ruling 2 = .ok (.iload_n 2, 1) := by decide +kernel
theorem dX8_ruling_3 : decode cX8_ruling 3 = .ok (.invokestatic 43, 3) := by decide +kernel
theorem dX8_ruling_6 : decode cX8_ruling 6 = .ok (.istore_n 3, 1) := by decide +kernel
theorem dX8_ruling_7 : decode cX8_ruling 7 = .ok (.iconst 0, 1) := by decide +kernel
theorem dX8_ruling_8 : decode cX8_ruling 8 = .ok (.bipush 6, 2) := by decide +kernel
theorem dX8_ruling_10 : decode cX8_ruling 10 = .ok (.iload_n 2, 1) := by decide +kernel
theorem dX8_ruling_11 : decode cX8_ruling 11 = .ok (.invokestatic 43, 3) := by decide +kernel
theorem dX8_ruling_14 : decode cX8_ruling 14 = .ok (.istore 4, 2) := by decide +kernel
theorem dX8_ruling_16 : decode cX8_ruling 16 = .ok (.aload_n 0, 1) := by decide +kernel
theorem dX8_ruling_17 : decode cX8_ruling 17 = .ok (.getfield 7, 3) := by decide +kernel
theorem dX8_ruling_20 : decode cX8_ruling 20 = .ok (.iload_n 3, 1) := by decide +kernel
theorem dX8_ruling_21 : decode cX8_ruling 21 = .ok (.iaload, 1) := by decide +kernel
theorem dX8_ruling_22 : decode cX8_ruling 22 = .ok (.bipush (-5), 2) := by decide +kernel
theorem dX8_ruling_24 : decode cX8_ruling 24 = .ok (.if_icmp .eq 15, 3) := by decide +kernel
theorem dX8_ruling_27 : decode cX8_ruling 27 = .ok (.aload_n 0, 1) := by decide +kernel
theorem dX8_ruling_28 : decode cX8_ruling 28 = .ok (.getfield 7, 3) := by decide +kernel
theorem dX8_ruling_31 : decode cX8_ruling 31 = .ok (.iload 4, 2) := by decide +kernel
theorem dX8_ruling_33 : decode cX8_ruling 33 = .ok (.iaload, 1) := by decide +kernel
theorem dX8_ruling_34 : decode cX8_ruling 34 = .ok (.bipush (-5), 2) := by decide +kernel
theorem dX8_ruling_36 : decode cX8_ruling 36 = .ok (.if_icmp .ne 38, 3) := by decide +kernel
theorem dX8_ruling_39 : decode cX8_ruling 39 = .ok (.aload_n 0, 1) := by decide +kernel
theorem dX8_ruling_40 : decode cX8_ruling 40 = .ok (.getfield 7, 3) := by decide +kernel
theorem dX8_ruling_43 : decode cX8_ruling 43 = .ok (.iload_n 3, 1) := by decide +kernel
theorem dX8_ruling_44 : decode cX8_ruling 44 = .ok (.iaload, 1) := by decide +kernel
theorem dX8_ruling_45 : decode cX8_ruling 45 = .ok (.bipush (-5), 2) := by decide +kernel
theorem dX8_ruling_47 : decode cX8_ruling 47 = .ok (.if_icmp .eq 7, 3) := by decide +kernel
theorem dX8_ruling_50 : decode cX8_ruling 50 = .ok (.iload_n 1, 1) := by decide +kernel
theorem dX8_ruling_51 : decode cX8_ruling 51 = .ok (.goto 22, 3) := by decide +kernel
theorem dX8_ruling_54 : decode cX8_ruling 54 = .ok (.aload_n 0, 1) := by decide +kernel
theorem dX8_ruling_55 : decode cX8_ruling 55 = .ok (.getfield 7, 3) := by decide +kernel
theorem dX8_ruling_58 : decode cX8_ruling 58 = .ok (.iload 4, 2) := by decide +kernel
theorem dX8_ruling_60 : decode cX8_ruling 60 = .ok (.iaload, 1) := by decide +kernel
theorem dX8_ruling_61 : decode cX8_ruling 61 = .ok (.bipush (-5), 2) := by decide +kernel
theorem dX8_ruling_63 : decode cX8_ruling 63 = .ok (.if_icmp .eq 8, 3) := by decide +kernel
theorem dX8_ruling_66 : decode cX8_ruling 66 = .ok (.bipush 6, 2) := by decide +kernel
theorem dX8_ruling_68 : decode cX8_ruling 68 = .ok (.goto 5, 3) := by decide +kernel
theorem dX8_ruling_71 : decode cX8_ruling 71 = .ok (.bipush (-5), 2) := by decide +kernel
theorem dX8_ruling_73 : decode cX8_ruling 73 = .ok (.ireturn, 1) := by decide +kernel
theorem dX8_ruling_74 : decode cX8_ruling 74 = .ok (.aload_n 0, 1) := by decide +kernel
theorem dX8_ruling_75 : decode cX8_ruling 75 = .ok (.getfield 7, 3) := by decide +kernel
theorem dX8_ruling_78 : decode cX8_ruling 78 = .ok (.iload 4, 2) := by decide +kernel
theorem dX8_ruling_80 : decode cX8_ruling 80 = .ok (.iconst 1, 1) := by decide +kernel
theorem dX8_ruling_81 : decode cX8_ruling 81 = .ok (.iadd, 1) := by decide +kernel
theorem dX8_ruling_82 : decode cX8_ruling 82 = .ok (.iaload, 1) := by decide +kernel
theorem dX8_ruling_83 : decode cX8_ruling 83 = .ok (.aload_n 0, 1) := by decide +kernel
theorem dX8_ruling_84 : decode cX8_ruling 84 = .ok (.getfield 7, 3) := by decide +kernel
theorem dX8_ruling_87 : decode cX8_ruling 87 = .ok (.iload_n 3, 1) := by decide +kernel
theorem dX8_ruling_88 : decode cX8_ruling 88 = .ok (.iconst 1, 1) := by decide +kernel
theorem dX8_ruling_89 : decode cX8_ruling 89 = .ok (.iadd, 1) := by decide +kernel
theorem dX8_ruling_90 : decode cX8_ruling 90 = .ok (.iaload, 1) := by decide +kernel
theorem dX8_ruling_91 : decode cX8_ruling 91 = .ok (.if_icmp .le 8, 3) := by decide +kernel
theorem dX8_ruling_94 : decode cX8_ruling 94 = .ok (.bipush 6, 2) := by decide +kernel
theorem dX8_ruling_96 : decode cX8_ruling 96 = .ok (.goto 4, 3) := by decide +kernel
theorem dX8_ruling_99 : decode cX8_ruling 99 = .ok (.iload_n 1, 1) := by decide +kernel
theorem dX8_ruling_100 : decode cX8_ruling 100 = .ok (.ireturn, 1) := by decide +kernel
theorem dX8_isAllowed_0 : decode cX8_isAllowed 0 = .ok (.aload_n 0, 1) := by decide +kernel
theorem dX8_isAllowed_1 : decode cX8_isAllowed 1 = .ok (.iload_n 1, 1) := by decide +kernel
theorem dX8_isAllowed_2 : decode cX8_isAllowed 2 = .ok (.iload_n 2, 1) := by decide +kernel
theorem dX8_isAllowed_3 : decode cX8_isAllowed 3 = .ok (.invokevirtual 179, 3) := by decide +kernel
theorem dX8_isAllowed_6 : decode cX8_isAllowed 6 = .ok (.istore_n 3, 1) := by decide +kernel
theorem dX8_isAllowed_7 : decode cX8_isAllowed 7 = .ok (.iload_n 3, 1) := by decide +kernel
theorem dX8_isAllowed_8 : decode cX8_isAllowed 8 = .ok (.bipush (-5), 2) := by decide +kernel
theorem dX8_isAllowed_10 : decode cX8_isAllowed 10 = .ok (.if_icmp .eq 18, 3) := by decide +kernel
theorem dX8_isAllowed_13 : decode cX8_isAllowed 13 = .ok (.aload_n 0, 1) := by decide +kernel
theorem dX8_isAllowed_14 : decode cX8_isAllowed 14 = .ok (.getfield 7, 3) := by decide +kernel
theorem dX8_isAllowed_17 : decode cX8_isAllowed 17 = .ok (.iconst 0, 1) := by decide +kernel
theorem dX8_isAllowed_18 : decode cX8_isAllowed 18 = .ok (.iload_n 3, 1) := by decide +kernel
theorem dX8_isAllowed_19 : decode cX8_isAllowed 19 = .ok (.iload_n 2, 1) := by decide +kernel
theorem dX8_isAllowed_20 : decode cX8_isAllowed 20 = .ok (.invokestatic 43, 3) := by decide +kernel
theorem dX8_isAllowed_23 : decode cX8_isAllowed 23 = .ok (.iaload, 1) := by decide +kernel
theorem dX8_isAllowed_24 : decode cX8_isAllowed 24 = .ok (.iconst 1, 1) := by decide +kernel
theorem dX8_isAllowed_25 : decode cX8_isAllowed 25 = .ok (.if_icmp .ne 7, 3) := by decide +kernel
theorem dX8_isAllowed_28 : decode cX8_isAllowed 28 = .ok (.iconst 1, 1) := by decide +kernel
theorem dX8_isAllowed_29 : decode cX8_isAllowed 29 = .ok (.goto 4, 3) := by decide +kernel
theorem dX8_isAllowed_32 : decode cX8_isAllowed 32 = .ok (.iconst 0, 1) := by decide +kernel
theorem dX8_isAllowed_33 : decode cX8_isAllowed 33 = .ok (.ireturn, 1) := by decide +kernel
theorem dX8_rule_0 : decode cX8_rule 0 = .ok (.iload_n 1, 1) := by decide +kernel
theorem dX8_rule_1 : decode cX8_rule 1 = .ok (.invokestatic 80, 3) := by decide +kernel
theorem dX8_rule_4 : decode cX8_rule 4 = .ok (.ifCond .eq 10, 3) := by decide +kernel
theorem dX8_rule_7 : decode cX8_rule 7 = .ok (.iload_n 2, 1) := by decide +kernel
theorem dX8_rule_8 : decode cX8_rule 8 = .ok (.invokestatic 87, 3) := by decide +kernel
theorem dX8_rule_11 : decode cX8_rule 11 = .ok (.ifCond .ne 5, 3) := by decide +kernel
theorem dX8_rule_14 : decode cX8_rule 14 = .ok (.iconst (-1), 1) := by decide +kernel
theorem dX8_rule_15 : decode cX8_rule 15 = .ok (.ireturn, 1) := by decide +kernel
theorem dX8_rule_16 : decode cX8_rule 16 = .ok (.aload_n 0, 1) := by decide +kernel
theorem dX8_rule_17 : decode cX8_rule 17 = .ok (.iload_n 1, 1) := by decide +kernel
theorem dX8_rule_18 : decode cX8_rule 18 = .ok (.iload_n 2, 1) := by decide +kernel
theorem dX8_rule_19 : decode cX8_rule 19 = .ok (.invokevirtual 179, 3) := by decide +kernel
theorem dX8_rule_22 : decode cX8_rule 22 = .ok (.istore 4, 2) := by decide +kernel
theorem dX8_rule_24 : decode cX8_rule 24 = .ok (.iload_n 3, 1) := by decide +kernel
theorem dX8_rule_25 : decode cX8_rule 25 = .ok (.tableswitch 67 0 2 #[27, 37, 40], 27) := by decide +kernel
theorem dX8_rule_52 : decode cX8_rule 52 = .ok (.aload_n 0, 1) := by decide +kernel
theorem dX8_rule_53 : decode cX8_rule 53 = .ok (.iload_n 1, 1) := by decide +kernel
theorem dX8_rule_54 : decode cX8_rule 54 = .ok (.iload_n 2, 1) := by decide +kernel
theorem dX8_rule_55 : decode cX8_rule 55 = .ok (.invokevirtual 182, 3) := by decide +kernel
theorem dX8_rule_58 : decode cX8_rule 58 = .ok (.invokestatic 54, 3) := by decide +kernel
theorem dX8_rule_61 : decode cX8_rule 61 = .ok (.ireturn, 1) := by decide +kernel
theorem dX8_rule_62 : decode cX8_rule 62 = .ok (.iload 4, 2) := by decide +kernel
theorem dX8_rule_64 : decode cX8_rule 64 = .ok (.ireturn, 1) := by decide +kernel
theorem dX8_rule_65 : decode cX8_rule 65 = .ok (.iload 4, 2) := by decide +kernel
theorem dX8_rule_67 : decode cX8_rule 67 = .ok (.bipush (-5), 2) := by decide +kernel
theorem dX8_rule_69 : decode cX8_rule 69 = .ok (.if_icmp .ne 8, 3) := by decide +kernel
theorem dX8_rule_72 : decode cX8_rule 72 = .ok (.bipush (-5), 2) := by decide +kernel
theorem dX8_rule_74 : decode cX8_rule 74 = .ok (.goto 17, 3) := by decide +kernel
theorem dX8_rule_77 : decode cX8_rule 77 = .ok (.aload_n 0, 1) := by decide +kernel
theorem dX8_rule_78 : decode cX8_rule 78 = .ok (.getfield 7, 3) := by decide +kernel
theorem dX8_rule_81 : decode cX8_rule 81 = .ok (.iconst 0, 1) := by decide +kernel
theorem dX8_rule_82 : decode cX8_rule 82 = .ok (.iload 4, 2) := by decide +kernel
theorem dX8_rule_84 : decode cX8_rule 84 = .ok (.iload_n 2, 1) := by decide +kernel
theorem dX8_rule_85 : decode cX8_rule 85 = .ok (.invokestatic 43, 3) := by decide +kernel
theorem dX8_rule_88 : decode cX8_rule 88 = .ok (.iconst 1, 1) := by decide +kernel
theorem dX8_rule_89 : decode cX8_rule 89 = .ok (.iadd, 1) := by decide +kernel
theorem dX8_rule_90 : decode cX8_rule 90 = .ok (.iaload, 1) := by decide +kernel
theorem dX8_rule_91 : decode cX8_rule 91 = .ok (.ireturn, 1) := by decide +kernel
theorem dX8_rule_92 : decode cX8_rule 92 = .ok (.bipush (-2), 2) := by decide +kernel
theorem dX8_rule_94 : decode cX8_rule 94 = .ok (.ireturn, 1) := by decide +kernel
theorem dX8_tries_0 : decode cX8_tries 0 = .ok (.aload_n 0, 1) := by decide +kernel
theorem dX8_tries_1 : decode cX8_tries 1 = .ok (.iconst 0, 1) := by decide +kernel
theorem dX8_tries_2 : decode cX8_tries 2 = .ok (.bipush 7, 2) := by decide +kernel
theorem dX8_tries_4 : decode cX8_tries 4 = .ok (.invokevirtual 32, 3) := by decide +kernel
theorem dX8_tries_7 : decode cX8_tries 7 = .ok (.aload_n 0, 1) := by decide +kernel
theorem dX8_tries_8 : decode cX8_tries 8 = .ok (.sipush 4284, 3) := by decide +kernel
theorem dX8_tries_11 : decode cX8_tries 11 = .ok (.invokevirtual 72, 3) := by decide +kernel
theorem dX8_tries_14 : decode cX8_tries 14 = .ok (.istore_n 1, 1) := by decide +kernel
theorem dX8_tries_15 : decode cX8_tries 15 = .ok (.return_, 1) := by decide +kernel
theorem dX8_reason_0 : decode cX8_reason 0 = .ok (.aload_n 0, 1) := by decide +kernel
theorem dX8_reason_1 : decode cX8_reason 1 = .ok (.iload_n 1, 1) := by decide +kernel
theorem dX8_reason_2 : decode cX8_reason 2 = .ok (.invokevirtual 90, 3) := by decide +kernel
theorem dX8_reason_5 : decode cX8_reason 5 = .ok (.ifCond .ne 5, 3) := by decide +kernel
theorem dX8_reason_8 : decode cX8_reason 8 = .ok (.iconst (-1), 1) := by decide +kernel
theorem dX8_reason_9 : decode cX8_reason 9 = .ok (.ireturn, 1) := by decide +kernel
theorem dX8_reason_10 : decode cX8_reason 10 = .ok (.aload_n 0, 1) := by decide +kernel
theorem dX8_reason_11 : decode cX8_reason 11 = .ok (.invokevirtual 185, 3) := by decide +kernel
theorem dX8_reason_14 : decode cX8_reason 14 = .ok (.aload_n 0, 1) := by decide +kernel
theorem dX8_reason_15 : decode cX8_reason 15 = .ok (.getfield 26, 3) := by decide +kernel
theorem dX8_reason_18 : decode cX8_reason 18 = .ok (.iload_n 1, 1) := by decide +kernel
theorem dX8_reason_19 : decode cX8_reason 19 = .ok (.iaload, 1) := by decide +kernel
theorem dX8_reason_20 : decode cX8_reason 20 = .ok (.ireturn, 1) := by decide +kernel
theorem dX8_wouldPass_0 : decode cX8_wouldPass 0 = .ok (.aload_n 0, 1) := by decide +kernel
theorem dX8_wouldPass_1 : decode cX8_wouldPass 1 = .ok (.invokevirtual 185, 3) := by decide +kernel
theorem dX8_wouldPass_4 : decode cX8_wouldPass 4 = .ok (.iconst 0, 1) := by decide +kernel
theorem dX8_wouldPass_5 : decode cX8_wouldPass 5 = .ok (.istore_n 1, 1) := by decide +kernel
theorem dX8_wouldPass_6 : decode cX8_wouldPass 6 = .ok (.iconst 0, 1) := by decide +kernel
theorem dX8_wouldPass_7 : decode cX8_wouldPass 7 = .ok (.istore_n 2, 1) := by decide +kernel
theorem dX8_wouldPass_8 : decode cX8_wouldPass 8 = .ok (.iload_n 2, 1) := by decide +kernel
theorem dX8_wouldPass_9 : decode cX8_wouldPass 9 = .ok (.aload_n 0, 1) := by decide +kernel
theorem dX8_wouldPass_10 : decode cX8_wouldPass 10 = .ok (.getfield 7, 3) := by decide +kernel
theorem dX8_wouldPass_13 : decode cX8_wouldPass 13 = .ok (.bipush 6, 2) := by decide +kernel
theorem dX8_wouldPass_15 : decode cX8_wouldPass 15 = .ok (.iaload, 1) := by decide +kernel
theorem dX8_wouldPass_16 : decode cX8_wouldPass 16 = .ok (.if_icmp .ge 31, 3) := by decide +kernel
theorem dX8_wouldPass_19 : decode cX8_wouldPass 19 = .ok (.iload_n 1, 1) := by decide +kernel
theorem dX8_wouldPass_20 : decode cX8_wouldPass 20 = .ok (.aload_n 0, 1) := by decide +kernel
theorem dX8_wouldPass_21 : decode cX8_wouldPass 21 = .ok (.getfield 26, 3) := by decide +kernel
theorem dX8_wouldPass_24 : decode cX8_wouldPass 24 = .ok (.iload_n 2, 1) := by decide +kernel
theorem dX8_wouldPass_25 : decode cX8_wouldPass 25 = .ok (.iaload, 1) := by decide +kernel
theorem dX8_wouldPass_26 : decode cX8_wouldPass 26 = .ok (.ifCond .ne 7, 3) := by decide +kernel
theorem dX8_wouldPass_29 : decode cX8_wouldPass 29 = .ok (.iconst 1, 1) := by decide +kernel
theorem dX8_wouldPass_30 : decode cX8_wouldPass 30 = .ok (.goto 4, 3) := by decide +kernel
theorem dX8_wouldPass_33 : decode cX8_wouldPass 33 = .ok (.iconst 0, 1) := by decide +kernel
theorem dX8_wouldPass_34 : decode cX8_wouldPass 34 = .ok (.invokestatic 54, 3) := by decide +kernel
theorem dX8_wouldPass_37 : decode cX8_wouldPass 37 = .ok (.iload_n 2, 1) := by decide +kernel
theorem dX8_wouldPass_38 : decode cX8_wouldPass 38 = .ok (.ishl, 1) := by decide +kernel
theorem dX8_wouldPass_39 : decode cX8_wouldPass 39 = .ok (.ior, 1) := by decide +kernel
theorem dX8_wouldPass_40 : decode cX8_wouldPass 40 = .ok (.istore_n 1, 1) := by decide +kernel
theorem dX8_wouldPass_41 : decode cX8_wouldPass 41 = .ok (.iinc 2 1, 3) := by decide +kernel
theorem dX8_wouldPass_44 : decode cX8_wouldPass 44 = .ok (.goto (-36), 3) := by decide +kernel
theorem dX8_wouldPass_47 : decode cX8_wouldPass 47 = .ok (.iload_n 1, 1) := by decide +kernel
theorem dX8_wouldPass_48 : decode cX8_wouldPass 48 = .ok (.ireturn, 1) := by decide +kernel
theorem dX8_lacks_0 : decode cX8_lacks 0 = .ok (.aload_n 0, 1) := by decide +kernel
theorem dX8_lacks_1 : decode cX8_lacks 1 = .ok (.iload_n 1, 1) := by decide +kernel
theorem dX8_lacks_2 : decode cX8_lacks 2 = .ok (.invokevirtual 90, 3) := by decide +kernel
theorem dX8_lacks_5 : decode cX8_lacks 5 = .ok (.ifCond .ne 5, 3) := by decide +kernel
theorem dX8_lacks_8 : decode cX8_lacks 8 = .ok (.iconst (-1), 1) := by decide +kernel
theorem dX8_lacks_9 : decode cX8_lacks 9 = .ok (.ireturn, 1) := by decide +kernel
theorem dX8_lacks_10 : decode cX8_lacks 10 = .ok (.aload_n 0, 1) := by decide +kernel
theorem dX8_lacks_11 : decode cX8_lacks 11 = .ok (.iconst 0, 1) := by decide +kernel
theorem dX8_lacks_12 : decode cX8_lacks 12 = .ok (.iload_n 1, 1) := by decide +kernel
theorem dX8_lacks_13 : decode cX8_lacks 13 = .ok (.invokevirtual 58, 3) := by decide +kernel
theorem dX8_lacks_16 : decode cX8_lacks 16 = .ok (.istore_n 2, 1) := by decide +kernel
theorem dX8_lacks_17 : decode cX8_lacks 17 = .ok (.iconst 0, 1) := by decide +kernel
theorem dX8_lacks_18 : decode cX8_lacks 18 = .ok (.istore_n 3, 1) := by decide +kernel
theorem dX8_lacks_19 : decode cX8_lacks 19 = .ok (.iload_n 3, 1) := by decide +kernel
theorem dX8_lacks_20 : decode cX8_lacks 20 = .ok (.bipush 120, 2) := by decide +kernel
theorem dX8_lacks_22 : decode cX8_lacks 22 = .ok (.if_icmp .gt 23, 3) := by decide +kernel
theorem dX8_lacks_25 : decode cX8_lacks 25 = .ok (.aload_n 0, 1) := by decide +kernel
theorem dX8_lacks_26 : decode cX8_lacks 26 = .ok (.iconst 0, 1) := by decide +kernel
theorem dX8_lacks_27 : decode cX8_lacks 27 = .ok (.iload_n 1, 1) := by decide +kernel
theorem dX8_lacks_28 : decode cX8_lacks 28 = .ok (.iload_n 2, 1) := by decide +kernel
theorem dX8_lacks_29 : decode cX8_lacks 29 = .ok (.iload_n 3, 1) := by decide +kernel
theorem dX8_lacks_30 : decode cX8_lacks 30 = .ok (.iadd, 1) := by decide +kernel
theorem dX8_lacks_31 : decode cX8_lacks 31 = .ok (.invokevirtual 65, 3) := by decide +kernel
theorem dX8_lacks_34 : decode cX8_lacks 34 = .ok (.ifCond .ne 5, 3) := by decide +kernel
theorem dX8_lacks_37 : decode cX8_lacks 37 = .ok (.iload_n 3, 1) := by decide +kernel
theorem dX8_lacks_38 : decode cX8_lacks 38 = .ok (.ireturn, 1) := by decide +kernel
theorem dX8_lacks_39 : decode cX8_lacks 39 = .ok (.iinc 3 1, 3) := by decide +kernel
theorem dX8_lacks_42 : decode cX8_lacks 42 = .ok (.goto (-23), 3) := by decide +kernel
theorem dX8_lacks_45 : decode cX8_lacks 45 = .ok (.bipush (-5), 2) := by decide +kernel
theorem dX8_lacks_47 : decode cX8_lacks 47 = .ok (.ireturn, 1) := by decide +kernel
theorem dX8_free_0 : decode cX8_free 0 = .ok (.iconst 0, 1) := by decide +kernel
theorem dX8_free_1 : decode cX8_free 1 = .ok (.istore_n 1, 1) := by decide +kernel
theorem dX8_free_2 : decode cX8_free 2 = .ok (.iconst 0, 1) := by decide +kernel
theorem dX8_free_3 : decode cX8_free 3 = .ok (.istore_n 2, 1) := by decide +kernel
theorem dX8_free_4 : decode cX8_free 4 = .ok (.iload_n 2, 1) := by decide +kernel
theorem dX8_free_5 : decode cX8_free 5 = .ok (.aload_n 0, 1) := by decide +kernel
theorem dX8_free_6 : decode cX8_free 6 = .ok (.getfield 7, 3) := by decide +kernel
theorem dX8_free_9 : decode cX8_free 9 = .ok (.iconst 5, 1) := by decide +kernel
theorem dX8_free_10 : decode cX8_free 10 = .ok (.iaload, 1) := by decide +kernel
theorem dX8_free_11 : decode cX8_free 11 = .ok (.if_icmp .ge 39, 3) := by decide +kernel
theorem dX8_free_14 : decode cX8_free 14 = .ok (.iload_n 1, 1) := by decide +kernel
theorem dX8_free_15 : decode cX8_free 15 = .ok (.aload_n 0, 1) := by decide +kernel
theorem dX8_free_16 : decode cX8_free 16 = .ok (.getfield 7, 3) := by decide +kernel
theorem dX8_free_19 : decode cX8_free 19 = .ok (.iconst 0, 1) := by decide +kernel
theorem dX8_free_20 : decode cX8_free 20 = .ok (.iload_n 2, 1) := by decide +kernel
theorem dX8_free_21 : decode cX8_free 21 = .ok (.invokestatic 40, 3) := by decide +kernel
theorem dX8_free_24 : decode cX8_free 24 = .ok (.iconst 2, 1) := by decide +kernel
theorem dX8_free_25 : decode cX8_free 25 = .ok (.iadd, 1) := by decide +kernel
theorem dX8_free_26 : decode cX8_free 26 = .ok (.iaload, 1) := by decide +kernel
theorem dX8_free_27 : decode cX8_free 27 = .ok (.bipush (-5), 2) := by decide +kernel
theorem dX8_free_29 : decode cX8_free 29 = .ok (.if_icmp .ne 7, 3) := by decide +kernel
theorem dX8_free_32 : decode cX8_free 32 = .ok (.iconst 1, 1) := by decide +kernel
theorem dX8_free_33 : decode cX8_free 33 = .ok (.goto 4, 3) := by decide +kernel
theorem dX8_free_36 : decode cX8_free 36 = .ok (.iconst 0, 1) := by decide +kernel
theorem dX8_free_37 : decode cX8_free 37 = .ok (.invokestatic 54, 3) := by decide +kernel
theorem dX8_free_40 : decode cX8_free 40 = .ok (.iload_n 2, 1) := by decide +kernel
theorem dX8_free_41 : decode cX8_free 41 = .ok (.ishl, 1) := by decide +kernel
theorem dX8_free_42 : decode cX8_free 42 = .ok (.ior, 1) := by decide +kernel
theorem dX8_free_43 : decode cX8_free 43 = .ok (.istore_n 1, 1) := by decide +kernel
theorem dX8_free_44 : decode cX8_free 44 = .ok (.iinc 2 1, 3) := by decide +kernel
theorem dX8_free_47 : decode cX8_free 47 = .ok (.goto (-43), 3) := by decide +kernel
theorem dX8_free_50 : decode cX8_free 50 = .ok (.iload_n 1, 1) := by decide +kernel
theorem dX8_free_51 : decode cX8_free 51 = .ok (.ireturn, 1) := by decide +kernel
theorem dX8_oldestAt_0 : decode cX8_oldestAt 0 = .ok (.bipush (-5), 2) := by decide +kernel
theorem dX8_oldestAt_2 : decode cX8_oldestAt 2 = .ok (.istore_n 2, 1) := by decide +kernel
theorem dX8_oldestAt_3 : decode cX8_oldestAt 3 = .ok (.iconst 0, 1) := by decide +kernel
theorem dX8_oldestAt_4 : decode cX8_oldestAt 4 = .ok (.istore_n 3, 1) := by decide +kernel
theorem dX8_oldestAt_5 : decode cX8_oldestAt 5 = .ok (.iload_n 3, 1) := by decide +kernel
theorem dX8_oldestAt_6 : decode cX8_oldestAt 6 = .ok (.sipush 140, 3) := by decide +kernel
theorem dX8_oldestAt_9 : decode cX8_oldestAt 9 = .ok (.if_icmp .ge 80, 3) := by decide +kernel
theorem dX8_oldestAt_12 : decode cX8_oldestAt 12 = .ok (.aload_n 0, 1) := by decide +kernel
theorem dX8_oldestAt_13 : decode cX8_oldestAt 13 = .ok (.iload_n 1, 1) := by decide +kernel
theorem dX8_oldestAt_14 : decode cX8_oldestAt 14 = .ok (.iload_n 3, 1) := by decide +kernel
theorem dX8_oldestAt_15 : decode cX8_oldestAt 15 = .ok (.bipush 20, 2) := by decide +kernel
theorem dX8_oldestAt_17 : decode cX8_oldestAt 17 = .ok (.irem, 1) := by decide +kernel
theorem dX8_oldestAt_18 : decode cX8_oldestAt 18 = .ok (.invokevirtual 179, 3) := by decide +kernel
theorem dX8_oldestAt_21 : decode cX8_oldestAt 21 = .ok (.iload_n 3, 1) := by decide +kernel
theorem dX8_oldestAt_22 : decode cX8_oldestAt 22 = .ok (.bipush 20, 2) := by decide +kernel
theorem dX8_oldestAt_24 : decode cX8_oldestAt 24 = .ok (.idiv, 1) := by decide +kernel
theorem dX8_oldestAt_25 : decode cX8_oldestAt 25 = .ok (.if_icmp .ne 7, 3) := by decide +kernel
theorem dX8_oldestAt_28 : decode cX8_oldestAt 28 = .ok (.iconst 1, 1) := by decide +kernel
theorem dX8_oldestAt_29 : decode cX8_oldestAt 29 = .ok (.goto 4, 3) := by decide +kernel
theorem dX8_oldestAt_32 : decode cX8_oldestAt 32 = .ok (.iconst 0, 1) := by decide +kernel
theorem dX8_oldestAt_33 : decode cX8_oldestAt 33 = .ok (.istore 4, 2) := by decide +kernel
theorem dX8_oldestAt_35 : decode cX8_oldestAt 35 = .ok (.iload 4, 2) := by decide +kernel
theorem dX8_oldestAt_37 : decode cX8_oldestAt 37 = .ok (.ifCond .eq 44, 3) := by decide +kernel
theorem dX8_oldestAt_40 : decode cX8_oldestAt 40 = .ok (.iload_n 2, 1) := by decide +kernel
theorem dX8_oldestAt_41 : decode cX8_oldestAt 41 = .ok (.bipush (-5), 2) := by decide +kernel
theorem dX8_oldestAt_43 : decode cX8_oldestAt 43 = .ok (.if_icmp .eq 34, 3) := by decide +kernel
theorem dX8_oldestAt_46 : decode cX8_oldestAt 46 = .ok (.aload_n 0, 1) := by decide +kernel
theorem dX8_oldestAt_47 : decode cX8_oldestAt 47 = .ok (.getfield 7, 3) := by decide +kernel
theorem dX8_oldestAt_50 : decode cX8_oldestAt 50 = .ok (.sipush 192, 3) := by decide +kernel
theorem dX8_oldestAt_53 : decode cX8_oldestAt 53 = .ok (.iconst 3, 1) := by decide +kernel
theorem dX8_oldestAt_54 : decode cX8_oldestAt 54 = .ok (.iload_n 3, 1) := by decide +kernel
theorem dX8_oldestAt_55 : decode cX8_oldestAt 55 = .ok (.imul, 1) := by decide +kernel
theorem dX8_oldestAt_56 : decode cX8_oldestAt 56 = .ok (.iadd, 1) := by decide +kernel
theorem dX8_oldestAt_57 : decode cX8_oldestAt 57 = .ok (.iconst 2, 1) := by decide +kernel
theorem dX8_oldestAt_58 : decode cX8_oldestAt 58 = .ok (.iadd, 1) := by decide +kernel
theorem dX8_oldestAt_59 : decode cX8_oldestAt 59 = .ok (.iaload, 1) := by decide +kernel
theorem dX8_oldestAt_60 : decode cX8_oldestAt 60 = .ok (.aload_n 0, 1) := by decide +kernel
theorem dX8_oldestAt_61 : decode cX8_oldestAt 61 = .ok (.getfield 7, 3) := by decide +kernel
theorem dX8_oldestAt_64 : decode cX8_oldestAt 64 = .ok (.sipush 192, 3) := by decide +kernel
theorem dX8_oldestAt_67 : decode cX8_oldestAt 67 = .ok (.iconst 3, 1) := by decide +kernel
theorem dX8_oldestAt_68 : decode cX8_oldestAt 68 = .ok (.iload_n 2, 1) := by decide +kernel
theorem dX8_oldestAt_69 : decode cX8_oldestAt 69 = .ok (.imul, 1) := by decide +kernel
theorem dX8_oldestAt_70 : decode cX8_oldestAt 70 = .ok (.iadd, 1) := by decide +kernel
theorem dX8_oldestAt_71 : decode cX8_oldestAt 71 = .ok (.iconst 2, 1) := by decide +kernel
theorem dX8_oldestAt_72 : decode cX8_oldestAt 72 = .ok (.iadd, 1) := by decide +kernel
theorem dX8_oldestAt_73 : decode cX8_oldestAt 73 = .ok (.iaload, 1) := by decide +kernel
theorem dX8_oldestAt_74 : decode cX8_oldestAt 74 = .ok (.if_icmp .ge 7, 3) := by decide +kernel
theorem dX8_oldestAt_77 : decode cX8_oldestAt 77 = .ok (.iload_n 3, 1) := by decide +kernel
theorem dX8_oldestAt_78 : decode cX8_oldestAt 78 = .ok (.goto 4, 3) := by decide +kernel
theorem dX8_oldestAt_81 : decode cX8_oldestAt 81 = .ok (.iload_n 2, 1) := by decide +kernel
theorem dX8_oldestAt_82 : decode cX8_oldestAt 82 = .ok (.istore_n 2, 1) := by decide +kernel
theorem dX8_oldestAt_83 : decode cX8_oldestAt 83 = .ok (.iinc 3 1, 3) := by decide +kernel
theorem dX8_oldestAt_86 : decode cX8_oldestAt 86 = .ok (.goto (-81), 3) := by decide +kernel
theorem dX8_oldestAt_89 : decode cX8_oldestAt 89 = .ok (.iload_n 2, 1) := by decide +kernel
theorem dX8_oldestAt_90 : decode cX8_oldestAt 90 = .ok (.ireturn, 1) := by decide +kernel
theorem dX8_oldest_0 : decode cX8_oldest 0 = .ok (.aload_n 0, 1) := by decide +kernel
theorem dX8_oldest_1 : decode cX8_oldest 1 = .ok (.iload_n 1, 1) := by decide +kernel
theorem dX8_oldest_2 : decode cX8_oldest 2 = .ok (.invokevirtual 84, 3) := by decide +kernel
theorem dX8_oldest_5 : decode cX8_oldest 5 = .ok (.ifCond .ne 5, 3) := by decide +kernel
theorem dX8_oldest_8 : decode cX8_oldest 8 = .ok (.iconst (-1), 1) := by decide +kernel
theorem dX8_oldest_9 : decode cX8_oldest 9 = .ok (.ireturn, 1) := by decide +kernel
theorem dX8_oldest_10 : decode cX8_oldest 10 = .ok (.iload_n 2, 1) := by decide +kernel
theorem dX8_oldest_11 : decode cX8_oldest 11 = .ok (.iconst 0, 1) := by decide +kernel
theorem dX8_oldest_12 : decode cX8_oldest 12 = .ok (.iconst 1, 1) := by decide +kernel
theorem dX8_oldest_13 : decode cX8_oldest 13 = .ok (.invokestatic 76, 3) := by decide +kernel
theorem dX8_oldest_16 : decode cX8_oldest 16 = .ok (.ifCond .ne 6, 3) := by decide +kernel
theorem dX8_oldest_19 : decode cX8_oldest 19 = .ok (.bipush (-2), 2) := by decide +kernel
theorem dX8_oldest_21 : decode cX8_oldest 21 = .ok (.ireturn, 1) := by decide +kernel
theorem dX8_oldest_22 : decode cX8_oldest 22 = .ok (.aload_n 0, 1) := by decide +kernel
theorem dX8_oldest_23 : decode cX8_oldest 23 = .ok (.aload_n 0, 1) := by decide +kernel
theorem dX8_oldest_24 : decode cX8_oldest 24 = .ok (.getfield 7, 3) := by decide +kernel
theorem dX8_oldest_27 : decode cX8_oldest 27 = .ok (.iconst 0, 1) := by decide +kernel
theorem dX8_oldest_28 : decode cX8_oldest 28 = .ok (.iload_n 1, 1) := by decide +kernel
theorem dX8_oldest_29 : decode cX8_oldest 29 = .ok (.invokestatic 40, 3) := by decide +kernel
theorem dX8_oldest_32 : decode cX8_oldest 32 = .ok (.iaload, 1) := by decide +kernel
theorem dX8_oldest_33 : decode cX8_oldest 33 = .ok (.invokevirtual 188, 3) := by decide +kernel
theorem dX8_oldest_36 : decode cX8_oldest 36 = .ok (.istore_n 3, 1) := by decide +kernel
theorem dX8_oldest_37 : decode cX8_oldest 37 = .ok (.iload_n 3, 1) := by decide +kernel
theorem dX8_oldest_38 : decode cX8_oldest 38 = .ok (.bipush (-5), 2) := by decide +kernel
theorem dX8_oldest_40 : decode cX8_oldest 40 = .ok (.if_icmp .ne 8, 3) := by decide +kernel
theorem dX8_oldest_43 : decode cX8_oldest 43 = .ok (.bipush (-5), 2) := by decide +kernel
theorem dX8_oldest_45 : decode cX8_oldest 45 = .ok (.goto 29, 3) := by decide +kernel
theorem dX8_oldest_48 : decode cX8_oldest 48 = .ok (.iload_n 2, 1) := by decide +kernel
theorem dX8_oldest_49 : decode cX8_oldest 49 = .ok (.ifCond .ne 11, 3) := by decide +kernel
theorem dX8_oldest_52 : decode cX8_oldest 52 = .ok (.aload_n 0, 1) := by decide +kernel
theorem dX8_oldest_53 : decode cX8_oldest 53 = .ok (.iload_n 3, 1) := by decide +kernel
theorem dX8_oldest_54 : decode cX8_oldest 54 = .ok (.invokevirtual 191, 3) := by decide +kernel
theorem dX8_oldest_57 : decode cX8_oldest 57 = .ok (.goto 17, 3) := by decide +kernel
theorem dX8_oldest_60 : decode cX8_oldest 60 = .ok (.aload_n 0, 1) := by decide +kernel
theorem dX8_oldest_61 : decode cX8_oldest 61 = .ok (.getfield 7, 3) := by decide +kernel
theorem dX8_oldest_64 : decode cX8_oldest 64 = .ok (.sipush 192, 3) := by decide +kernel
theorem dX8_oldest_67 : decode cX8_oldest 67 = .ok (.iconst 3, 1) := by decide +kernel
theorem dX8_oldest_68 : decode cX8_oldest 68 = .ok (.iload_n 3, 1) := by decide +kernel
theorem dX8_oldest_69 : decode cX8_oldest 69 = .ok (.imul, 1) := by decide +kernel
theorem dX8_oldest_70 : decode cX8_oldest 70 = .ok (.iadd, 1) := by decide +kernel
theorem dX8_oldest_71 : decode cX8_oldest 71 = .ok (.iconst 2, 1) := by decide +kernel
theorem dX8_oldest_72 : decode cX8_oldest 72 = .ok (.iadd, 1) := by decide +kernel
theorem dX8_oldest_73 : decode cX8_oldest 73 = .ok (.iaload, 1) := by decide +kernel
theorem dX8_oldest_74 : decode cX8_oldest 74 = .ok (.ireturn, 1) := by decide +kernel
theorem dX8_forbiddenAtCombs_0 : decode cX8_forbiddenAtCombs 0 = .ok (.iconst 0, 1) := by decide +kernel
theorem dX8_forbiddenAtCombs_1 : decode cX8_forbiddenAtCombs 1 = .ok (.istore_n 1, 1) := by decide +kernel
theorem dX8_forbiddenAtCombs_2 : decode cX8_forbiddenAtCombs 2 = .ok (.iconst 0, 1) := by decide +kernel
theorem dX8_forbiddenAtCombs_3 : decode cX8_forbiddenAtCombs 3 = .ok (.istore_n 2, 1) := by decide +kernel
theorem dX8_forbiddenAtCombs_4 : decode cX8_forbiddenAtCombs 4 = .ok (.iload_n 2, 1) := by decide +kernel
theorem dX8_forbiddenAtCombs_5 : decode cX8_forbiddenAtCombs 5 = .ok (.bipush 120, 2) := by decide +kernel
theorem dX8_forbiddenAtCombs_7 : decode cX8_forbiddenAtCombs 7 = .ok (.if_icmp .ge 35, 3) := by decide +kernel
theorem dX8_forbiddenAtCombs_10 : decode cX8_forbiddenAtCombs 10 = .ok (.iload_n 1, 1) := by decide +kernel
theorem dX8_forbiddenAtCombs_11 : decode cX8_forbiddenAtCombs 11 = .ok (.aload_n 0, 1) := by decide +kernel
theorem dX8_forbiddenAtCombs_12 : decode cX8_forbiddenAtCombs 12 = .ok (.iload_n 2, 1) := by decide +kernel
theorem dX8_forbiddenAtCombs_13 : decode cX8_forbiddenAtCombs 13 = .ok (.bipush 20, 2) := by decide +kernel
theorem dX8_forbiddenAtCombs_15 : decode cX8_forbiddenAtCombs 15 = .ok (.idiv, 1) := by decide +kernel
theorem dX8_forbiddenAtCombs_16 : decode cX8_forbiddenAtCombs 16 = .ok (.iload_n 2, 1) := by decide +kernel
theorem dX8_forbiddenAtCombs_17 : decode cX8_forbiddenAtCombs 17 = .ok (.bipush 20, 2) := by decide +kernel
theorem dX8_forbiddenAtCombs_19 : decode cX8_forbiddenAtCombs 19 = .ok (.irem, 1) := by decide +kernel
theorem dX8_forbiddenAtCombs_20 : decode cX8_forbiddenAtCombs 20 = .ok (.invokevirtual 182, 3) := by decide +kernel
theorem dX8_forbiddenAtCombs_23 : decode cX8_forbiddenAtCombs 23 = .ok (.ifCond .ne 7, 3) := by decide +kernel
theorem dX8_forbiddenAtCombs_26 : decode cX8_forbiddenAtCombs 26 = .ok (.iconst 1, 1) := by decide +kernel
theorem dX8_forbiddenAtCombs_27 : decode cX8_forbiddenAtCombs 27 = .ok (.goto 4, 3) := by decide +kernel
theorem dX8_forbiddenAtCombs_30 : decode cX8_forbiddenAtCombs 30 = .ok (.iconst 0, 1) := by decide +kernel
theorem dX8_forbiddenAtCombs_31 : decode cX8_forbiddenAtCombs 31 = .ok (.invokestatic 54, 3) := by decide +kernel
theorem dX8_forbiddenAtCombs_34 : decode cX8_forbiddenAtCombs 34 = .ok (.iadd, 1) := by decide +kernel
theorem dX8_forbiddenAtCombs_35 : decode cX8_forbiddenAtCombs 35 = .ok (.istore_n 1, 1) := by decide +kernel
theorem dX8_forbiddenAtCombs_36 : decode cX8_forbiddenAtCombs 36 = .ok (.iinc 2 1, 3) := by decide +kernel
theorem dX8_forbiddenAtCombs_39 : decode cX8_forbiddenAtCombs 39 = .ok (.goto (-35), 3) := by decide +kernel
theorem dX8_forbiddenAtCombs_42 : decode cX8_forbiddenAtCombs 42 = .ok (.iload_n 1, 1) := by decide +kernel
theorem dX8_forbiddenAtCombs_43 : decode cX8_forbiddenAtCombs 43 = .ok (.ireturn, 1) := by decide +kernel
theorem dX8_count_0 : decode cX8_count 0 = .ok (.iload_n 1, 1) := by decide +kernel
theorem dX8_count_1 : decode cX8_count 1 = .ok (.tableswitch 141 0 15 #[79, 79, 79, 79, 88, 88, 103, 103, 103, 103, 103, 116, 121, 121, 131, 136], 79) := by decide +kernel
theorem dX8_count_80 : decode cX8_count 80 = .ok (.aload_n 0, 1) := by decide +kernel
theorem dX8_count_81 : decode cX8_count 81 = .ok (.getfield 7, 3) := by decide +kernel
theorem dX8_count_84 : decode cX8_count 84 = .ok (.iconst 2, 1) := by decide +kernel
theorem dX8_count_85 : decode cX8_count 85 = .ok (.iload_n 1, 1) := by decide +kernel
theorem dX8_count_86 : decode cX8_count 86 = .ok (.iadd, 1) := by decide +kernel
theorem dX8_count_87 : decode cX8_count 87 = .ok (.iaload, 1) := by decide +kernel
theorem dX8_count_88 : decode cX8_count 88 = .ok (.ireturn, 1) := by decide +kernel
theorem dX8_count_89 : decode cX8_count 89 = .ok (.aload_n 0, 1) := by decide +kernel
theorem dX8_count_90 : decode cX8_count 90 = .ok (.iload_n 1, 1) := by decide +kernel
theorem dX8_count_91 : decode cX8_count 91 = .ok (.iconst 5, 1) := by decide +kernel
theorem dX8_count_92 : decode cX8_count 92 = .ok (.if_icmp .ne 7, 3) := by decide +kernel
theorem dX8_count_95 : decode cX8_count 95 = .ok (.iconst 1, 1) := by decide +kernel
theorem dX8_count_96 : decode cX8_count 96 = .ok (.goto 4, 3) := by decide +kernel
theorem dX8_count_99 : decode cX8_count 99 = .ok (.iconst 0, 1) := by decide +kernel
theorem dX8_count_100 : decode cX8_count 100 = .ok (.invokevirtual 170, 3) := by decide +kernel
theorem dX8_count_103 : decode cX8_count 103 = .ok (.ireturn, 1) := by decide +kernel
theorem dX8_count_104 : decode cX8_count 104 = .ok (.aload_n 0, 1) := by decide +kernel
theorem dX8_count_105 : decode cX8_count 105 = .ok (.getfield 7, 3) := by decide +kernel
theorem dX8_count_108 : decode cX8_count 108 = .ok (.bipush 6, 2) := by decide +kernel
theorem dX8_count_110 : decode cX8_count 110 = .ok (.iload_n 1, 1) := by decide +kernel
theorem dX8_count_111 : decode cX8_count 111 = .ok (.iadd, 1) := by decide +kernel
theorem dX8_count_112 : decode cX8_count 112 = .ok (.bipush 6, 2) := by decide +kernel
theorem dX8_count_114 : decode cX8_count 114 = .ok (.isub, 1) := by decide +kernel
theorem dX8_count_115 : decode cX8_count 115 = .ok (.iaload, 1) := by decide +kernel
theorem dX8_count_116 : decode cX8_count 116 = .ok (.ireturn, 1) := by decide +kernel
theorem dX8_count_117 : decode cX8_count 117 = .ok (.aload_n 0, 1) := by decide +kernel
theorem dX8_count_118 : decode cX8_count 118 = .ok (.invokevirtual 194, 3) := by decide +kernel
theorem dX8_count_121 : decode cX8_count 121 = .ok (.ireturn, 1) := by decide +kernel
theorem dX8_count_122 : decode cX8_count 122 = .ok (.aload_n 0, 1) := by decide +kernel
theorem dX8_count_123 : decode cX8_count 123 = .ok (.getfield 7, 3) := by decide +kernel
theorem dX8_count_126 : decode cX8_count 126 = .ok (.iload_n 1, 1) := by decide +kernel
theorem dX8_count_127 : decode cX8_count 127 = .ok (.bipush 12, 2) := by decide +kernel
theorem dX8_count_129 : decode cX8_count 129 = .ok (.isub, 1) := by decide +kernel
theorem dX8_count_130 : decode cX8_count 130 = .ok (.iaload, 1) := by decide +kernel
theorem dX8_count_131 : decode cX8_count 131 = .ok (.ireturn, 1) := by decide +kernel
theorem dX8_count_132 : decode cX8_count 132 = .ok (.aload_n 0, 1) := by decide +kernel
theorem dX8_count_133 : decode cX8_count 133 = .ok (.getfield 29, 3) := by decide +kernel
theorem dX8_count_136 : decode cX8_count 136 = .ok (.ireturn, 1) := by decide +kernel
theorem dX8_count_137 : decode cX8_count 137 = .ok (.aload_n 0, 1) := by decide +kernel
theorem dX8_count_138 : decode cX8_count 138 = .ok (.getfield 121, 3) := by decide +kernel
theorem dX8_count_141 : decode cX8_count 141 = .ok (.ireturn, 1) := by decide +kernel
theorem dX8_count_142 : decode cX8_count 142 = .ok (.bipush (-2), 2) := by decide +kernel
theorem dX8_count_144 : decode cX8_count 144 = .ok (.ireturn, 1) := by decide +kernel
theorem dL_law_0 : decode cL_law 0 = .ok (.new 7, 3) := by decide +kernel
theorem dL_law_3 : decode cL_law 3 = .ok (.dup, 1) := by decide +kernel
theorem dL_law_4 : decode cL_law 4 = .ok (.invokespecial 9, 3) := by decide +kernel
theorem dL_law_7 : decode cL_law 7 = .ok (.astore_n 1, 1) := by decide +kernel
theorem dL_law_8 : decode cL_law 8 = .ok (.new 10, 3) := by decide +kernel
theorem dL_law_11 : decode cL_law 11 = .ok (.dup, 1) := by decide +kernel
theorem dL_law_12 : decode cL_law 12 = .ok (.invokespecial 12, 3) := by decide +kernel
theorem dL_law_15 : decode cL_law 15 = .ok (.astore_n 2, 1) := by decide +kernel
theorem dL_law_16 : decode cL_law 16 = .ok (.iconst 0, 1) := by decide +kernel
theorem dL_law_17 : decode cL_law 17 = .ok (.istore_n 3, 1) := by decide +kernel
theorem dL_law_18 : decode cL_law 18 = .ok (.iload_n 3, 1) := by decide +kernel
theorem dL_law_19 : decode cL_law 19 = .ok (.aload_n 0, 1) := by decide +kernel
theorem dL_law_20 : decode cL_law 20 = .ok (.arraylength, 1) := by decide +kernel
theorem dL_law_21 : decode cL_law 21 = .ok (.iconst 5, 1) := by decide +kernel
theorem dL_law_22 : decode cL_law 22 = .ok (.isub, 1) := by decide +kernel
theorem dL_law_23 : decode cL_law 23 = .ok (.if_icmp .gt 741, 3) := by decide +kernel
theorem dL_law_26 : decode cL_law 26 = .ok (.aload_n 0, 1) := by decide +kernel
theorem dL_law_27 : decode cL_law 27 = .ok (.iload_n 3, 1) := by decide +kernel
theorem dL_law_28 : decode cL_law 28 = .ok (.iaload, 1) := by decide +kernel
theorem dL_law_29 : decode cL_law 29 = .ok (.bipush 31, 2) := by decide +kernel
theorem dL_law_31 : decode cL_law 31 = .ok (.iand, 1) := by decide +kernel
theorem dL_law_32 : decode cL_law 32 = .ok (.tableswitch 726 0 23 #[112, 145, 178, 231, 264, 287, 320, 345, 358, 371, 394, 407, 420, 433, 466, 499, 532, 555, 598, 621, 634, 657, 670, 703], 112) := by decide +kernel
theorem dL_law_144 : decode cL_law 144 = .ok (.aload_n 1, 1) := by decide +kernel
theorem dL_law_145 : decode cL_law 145 = .ok (.aload_n 0, 1) := by decide +kernel
theorem dL_law_146 : decode cL_law 146 = .ok (.iload_n 3, 1) := by decide +kernel
theorem dL_law_147 : decode cL_law 147 = .ok (.iconst 1, 1) := by decide +kernel
theorem dL_law_148 : decode cL_law 148 = .ok (.iadd, 1) := by decide +kernel
theorem dL_law_149 : decode cL_law 149 = .ok (.iaload, 1) := by decide +kernel
theorem dL_law_150 : decode cL_law 150 = .ok (.aload_n 0, 1) := by decide +kernel
theorem dL_law_151 : decode cL_law 151 = .ok (.iload_n 3, 1) := by decide +kernel
theorem dL_law_152 : decode cL_law 152 = .ok (.iconst 2, 1) := by decide +kernel
theorem dL_law_153 : decode cL_law 153 = .ok (.iadd, 1) := by decide +kernel
theorem dL_law_154 : decode cL_law 154 = .ok (.iaload, 1) := by decide +kernel
theorem dL_law_155 : decode cL_law 155 = .ok (.invokevirtual 13, 3) := by decide +kernel
theorem dL_law_158 : decode cL_law 158 = .ok (.aload_n 2, 1) := by decide +kernel
theorem dL_law_159 : decode cL_law 159 = .ok (.aload_n 0, 1) := by decide +kernel
theorem dL_law_160 : decode cL_law 160 = .ok (.iload_n 3, 1) := by decide +kernel
theorem dL_law_161 : decode cL_law 161 = .ok (.iconst 1, 1) := by decide +kernel
theorem dL_law_162 : decode cL_law 162 = .ok (.iadd, 1) := by decide +kernel
theorem dL_law_163 : decode cL_law 163 = .ok (.iaload, 1) := by decide +kernel
theorem dL_law_164 : decode cL_law 164 = .ok (.aload_n 0, 1) := by decide +kernel
theorem dL_law_165 : decode cL_law 165 = .ok (.iload_n 3, 1) := by decide +kernel
theorem dL_law_166 : decode cL_law 166 = .ok (.iconst 2, 1) := by decide +kernel
theorem dL_law_167 : decode cL_law 167 = .ok (.iadd, 1) := by decide +kernel
theorem dL_law_168 : decode cL_law 168 = .ok (.iaload, 1) := by decide +kernel
theorem dL_law_169 : decode cL_law 169 = .ok (.invokevirtual 17, 3) := by decide +kernel
theorem dL_law_172 : decode cL_law 172 = .ok (.if_icmp .eq 586, 3) := by decide +kernel
theorem dL_law_175 : decode cL_law 175 = .ok (.iconst 0, 1) := by decide +kernel
theorem dL_law_176 : decode cL_law 176 = .ok (.ireturn, 1) := by decide +kernel
theorem dL_law_177 : decode cL_law 177 = .ok (.aload_n 1, 1) := by decide +kernel
theorem dL_law_178 : decode cL_law 178 = .ok (.aload_n 0, 1) := by decide +kernel
theorem dL_law_179 : decode cL_law 179 = .ok (.iload_n 3, 1) := by decide +kernel
theorem dL_law_180 : decode cL_law 180 = .ok (.iconst 1, 1) := by decide +kernel
theorem dL_law_181 : decode cL_law 181 = .ok (.iadd, 1) := by decide +kernel
theorem dL_law_182 : decode cL_law 182 = .ok (.iaload, 1) := by decide +kernel
theorem dL_law_183 : decode cL_law 183 = .ok (.aload_n 0, 1) := by decide +kernel
theorem dL_law_184 : decode cL_law 184 = .ok (.iload_n 3, 1) := by decide +kernel
theorem dL_law_185 : decode cL_law 185 = .ok (.iconst 2, 1) := by decide +kernel
theorem dL_law_186 : decode cL_law 186 = .ok (.iadd, 1) := by decide +kernel
theorem dL_law_187 : decode cL_law 187 = .ok (.iaload, 1) := by decide +kernel
theorem dL_law_188 : decode cL_law 188 = .ok (.invokevirtual 18, 3) := by decide +kernel
theorem dL_law_191 : decode cL_law 191 = .ok (.aload_n 2, 1) := by decide +kernel
theorem dL_law_192 : decode cL_law 192 = .ok (.aload_n 0, 1) := by decide +kernel
theorem dL_law_193 : decode cL_law 193 = .ok (.iload_n 3, 1) := by decide +kernel
theorem dL_law_194 : decode cL_law 194 = .ok (.iconst 1, 1) := by decide +kernel
theorem dL_law_195 : decode cL_law 195 = .ok (.iadd, 1) := by decide +kernel
theorem dL_law_196 : decode cL_law 196 = .ok (.iaload, 1) := by decide +kernel
theorem dL_law_197 : decode cL_law 197 = .ok (.aload_n 0, 1) := by decide +kernel
theorem dL_law_198 : decode cL_law 198 = .ok (.iload_n 3, 1) := by decide +kernel
theorem dL_law_199 : decode cL_law 199 = .ok (.iconst 2, 1) := by decide +kernel
theorem dL_law_200 : decode cL_law 200 = .ok (.iadd, 1) := by decide +kernel
theorem dL_law_201 : decode cL_law 201 = .ok (.iaload, 1) := by decide +kernel
theorem dL_law_202 : decode cL_law 202 = .ok (.invokevirtual 21, 3) := by decide +kernel
theorem dL_law_205 : decode cL_law 205 = .ok (.if_icmp .eq 553, 3) := by decide +kernel
theorem dL_law_208 : decode cL_law 208 = .ok (.iconst 0, 1) := by decide +kernel
theorem dL_law_209 : decode cL_law 209 = .ok (.ireturn, 1) := by decide +kernel
theorem dL_law_210 : decode cL_law 210 = .ok (.aload_n 1, 1) := by decide +kernel
theorem dL_law_211 : decode cL_law 211 = .ok (.aload_n 0, 1) := by decide +kernel
theorem dL_law_212 : decode cL_law 212 = .ok (.iload_n 3, 1) := by decide +kernel
theorem dL_law_213 : decode cL_law 213 = .ok (.iconst 1, 1) := by decide +kernel
theorem dL_law_214 : decode cL_law 214 = .ok (.iadd, 1) := by decide +kernel
theorem dL_law_215 : decode cL_law 215 = .ok (.iaload, 1) := by decide +kernel
theorem dL_law_216 : decode cL_law 216 = .ok (.aload_n 0, 1) := by decide +kernel
theorem dL_law_217 : decode cL_law 217 = .ok (.iload_n 3, 1) := by decide +kernel
theorem dL_law_218 : decode cL_law 218 = .ok (.iconst 2, 1) := by decide +kernel
theorem dL_law_219 : decode cL_law 219 = .ok (.iadd, 1) := by decide +kernel
theorem dL_law_220 : decode cL_law 220 = .ok (.iaload, 1) := by decide +kernel
theorem dL_law_221 : decode cL_law 221 = .ok (.aload_n 0, 1) := by decide +kernel
theorem dL_law_222 : decode cL_law 222 = .ok (.iload_n 3, 1) := by decide +kernel
theorem dL_law_223 : decode cL_law 223 = .ok (.iconst 3, 1) := by decide +kernel
theorem dL_law_224 : decode cL_law 224 = .ok (.iadd, 1) := by decide +kernel
theorem dL_law_225 : decode cL_law 225 = .ok (.iaload, 1) := by decide +kernel
theorem dL_law_226 : decode cL_law 226 = .ok (.aload_n 0, 1) := by decide +kernel
theorem dL_law_227 : decode cL_law 227 = .ok (.iload_n 3, 1) := by decide +kernel
theorem dL_law_228 : decode cL_law 228 = .ok (.iconst 4, 1) := by decide +kernel
theorem dL_law_229 : decode cL_law 229 = .ok (.iadd, 1) := by decide +kernel
theorem dL_law_230 : decode cL_law 230 = .ok (.iaload, 1) := by decide +kernel
theorem dL_law_231 : decode cL_law 231 = .ok (.invokevirtual 22, 3) := by decide +kernel
theorem dL_law_234 : decode cL_law 234 = .ok (.aload_n 2, 1) := by decide +kernel
theorem dL_law_235 : decode cL_law 235 = .ok (.aload_n 0, 1) := by decide +kernel
theorem dL_law_236 : decode cL_law 236 = .ok (.iload_n 3, 1) := by decide +kernel
theorem dL_law_237 : decode cL_law 237 = .ok (.iconst 1, 1) := by decide +kernel
theorem dL_law_238 : decode cL_law 238 = .ok (.iadd, 1) := by decide +kernel
theorem dL_law_239 : decode cL_law 239 = .ok (.iaload, 1) := by decide +kernel
theorem dL_law_240 : decode cL_law 240 = .ok (.aload_n 0, 1) := by decide +kernel
theorem dL_law_241 : decode cL_law 241 = .ok (.iload_n 3, 1) := by decide +kernel
theorem dL_law_242 : decode cL_law 242 = .ok (.iconst 2, 1) := by decide +kernel
theorem dL_law_243 : decode cL_law 243 = .ok (.iadd, 1) := by decide +kernel
theorem dL_law_244 : decode cL_law 244 = .ok (.iaload, 1) := by decide +kernel
theorem dL_law_245 : decode cL_law 245 = .ok (.aload_n 0, 1) := by decide +kernel
theorem dL_law_246 : decode cL_law 246 = .ok (.iload_n 3, 1) := by decide +kernel
theorem dL_law_247 : decode cL_law 247 = .ok (.iconst 3, 1) := by decide +kernel
theorem dL_law_248 : decode cL_law 248 = .ok (.iadd, 1) := by decide +kernel
theorem dL_law_249 : decode cL_law 249 = .ok (.iaload, 1) := by decide +kernel
theorem dL_law_250 : decode cL_law 250 = .ok (.aload_n 0, 1) := by decide +kernel
theorem dL_law_251 : decode cL_law 251 = .ok (.iload_n 3, 1) := by decide +kernel
theorem dL_law_252 : decode cL_law 252 = .ok (.iconst 4, 1) := by decide +kernel
theorem dL_law_253 : decode cL_law 253 = .ok (.iadd, 1) := by decide +kernel
theorem dL_law_254 : decode cL_law 254 = .ok (.iaload, 1) := by decide +kernel
theorem dL_law_255 : decode cL_law 255 = .ok (.invokevirtual 26, 3) := by decide +kernel
theorem dL_law_258 : decode cL_law 258 = .ok (.if_icmp .eq 500, 3) := by decide +kernel
theorem dL_law_261 : decode cL_law 261 = .ok (.iconst 0, 1) := by decide +kernel
theorem dL_law_262 : decode cL_law 262 = .ok (.ireturn, 1) := by decide +kernel
theorem dL_law_263 : decode cL_law 263 = .ok (.aload_n 1, 1) := by decide +kernel
theorem dL_law_264 : decode cL_law 264 = .ok (.aload_n 0, 1) := by decide +kernel
theorem dL_law_265 : decode cL_law 265 = .ok (.iload_n 3, 1) := by decide +kernel
theorem dL_law_266 : decode cL_law 266 = .ok (.iconst 1, 1) := by decide +kernel
theorem dL_law_267 : decode cL_law 267 = .ok (.iadd, 1) := by decide +kernel
theorem dL_law_268 : decode cL_law 268 = .ok (.iaload, 1) := by decide +kernel
theorem dL_law_269 : decode cL_law 269 = .ok (.aload_n 0, 1) := by decide +kernel
theorem dL_law_270 : decode cL_law 270 = .ok (.iload_n 3, 1) := by decide +kernel
theorem dL_law_271 : decode cL_law 271 = .ok (.iconst 2, 1) := by decide +kernel
theorem dL_law_272 : decode cL_law 272 = .ok (.iadd, 1) := by decide +kernel
theorem dL_law_273 : decode cL_law 273 = .ok (.iaload, 1) := by decide +kernel
theorem dL_law_274 : decode cL_law 274 = .ok (.invokevirtual 27, 3) := by decide +kernel
theorem dL_law_277 : decode cL_law 277 = .ok (.aload_n 2, 1) := by decide +kernel
theorem dL_law_278 : decode cL_law 278 = .ok (.aload_n 0, 1) := by decide +kernel
theorem dL_law_279 : decode cL_law 279 = .ok (.iload_n 3, 1) := by decide +kernel
theorem dL_law_280 : decode cL_law 280 = .ok (.iconst 1, 1) := by decide +kernel
theorem dL_law_281 : decode cL_law 281 = .ok (.iadd, 1) := by decide +kernel
theorem dL_law_282 : decode cL_law 282 = .ok (.iaload, 1) := by decide +kernel
theorem dL_law_283 : decode cL_law 283 = .ok (.aload_n 0, 1) := by decide +kernel
theorem dL_law_284 : decode cL_law 284 = .ok (.iload_n 3, 1) := by decide +kernel
theorem dL_law_285 : decode cL_law 285 = .ok (.iconst 2, 1) := by decide +kernel
theorem dL_law_286 : decode cL_law 286 = .ok (.iadd, 1) := by decide +kernel
theorem dL_law_287 : decode cL_law 287 = .ok (.iaload, 1) := by decide +kernel
theorem dL_law_288 : decode cL_law 288 = .ok (.invokevirtual 30, 3) := by decide +kernel
theorem dL_law_291 : decode cL_law 291 = .ok (.if_icmp .eq 467, 3) := by decide +kernel
theorem dL_law_294 : decode cL_law 294 = .ok (.iconst 0, 1) := by decide +kernel
theorem dL_law_295 : decode cL_law 295 = .ok (.ireturn, 1) := by decide +kernel
theorem dL_law_296 : decode cL_law 296 = .ok (.aload_n 1, 1) := by decide +kernel
theorem dL_law_297 : decode cL_law 297 = .ok (.aload_n 0, 1) := by decide +kernel
theorem dL_law_298 : decode cL_law 298 = .ok (.iload_n 3, 1) := by decide +kernel
theorem dL_law_299 : decode cL_law 299 = .ok (.iconst 1, 1) := by decide +kernel
theorem dL_law_300 : decode cL_law 300 = .ok (.iadd, 1) := by decide +kernel
theorem dL_law_301 : decode cL_law 301 = .ok (.iaload, 1) := by decide +kernel
theorem dL_law_302 : decode cL_law 302 = .ok (.invokevirtual 31, 3) := by decide +kernel
theorem dL_law_305 : decode cL_law 305 = .ok (.aload_n 2, 1) := by decide +kernel
theorem dL_law_306 : decode cL_law 306 = .ok (.aload_n 0, 1) := by decide +kernel
theorem dL_law_307 : decode cL_law 307 = .ok (.iload_n 3, 1) := by decide +kernel
theorem dL_law_308 : decode cL_law 308 = .ok (.iconst 1, 1) := by decide +kernel
theorem dL_law_309 : decode cL_law 309 = .ok (.iadd, 1) := by decide +kernel
theorem dL_law_310 : decode cL_law 310 = .ok (.iaload, 1) := by decide +kernel
theorem dL_law_311 : decode cL_law 311 = .ok (.invokevirtual 35, 3) := by decide +kernel
theorem dL_law_314 : decode cL_law 314 = .ok (.if_icmp .eq 444, 3) := by decide +kernel
theorem dL_law_317 : decode cL_law 317 = .ok (.iconst 0, 1) := by decide +kernel
theorem dL_law_318 : decode cL_law 318 = .ok (.ireturn, 1) := by decide +kernel
theorem dL_law_319 : decode cL_law 319 = .ok (.aload_n 1, 1) := by decide +kernel
theorem dL_law_320 : decode cL_law 320 = .ok (.aload_n 0, 1) := by decide +kernel
theorem dL_law_321 : decode cL_law 321 = .ok (.iload_n 3, 1) := by decide +kernel
theorem dL_law_322 : decode cL_law 322 = .ok (.iconst 1, 1) := by decide +kernel
theorem dL_law_323 : decode cL_law 323 = .ok (.iadd, 1) := by decide +kernel
theorem dL_law_324 : decode cL_law 324 = .ok (.iaload, 1) := by decide +kernel
theorem dL_law_325 : decode cL_law 325 = .ok (.aload_n 0, 1) := by decide +kernel
theorem dL_law_326 : decode cL_law 326 = .ok (.iload_n 3, 1) := by decide +kernel
theorem dL_law_327 : decode cL_law 327 = .ok (.iconst 2, 1) := by decide +kernel
theorem dL_law_328 : decode cL_law 328 = .ok (.iadd, 1) := by decide +kernel
theorem dL_law_329 : decode cL_law 329 = .ok (.iaload, 1) := by decide +kernel
theorem dL_law_330 : decode cL_law 330 = .ok (.invokevirtual 36, 3) := by decide +kernel
theorem dL_law_333 : decode cL_law 333 = .ok (.aload_n 2, 1) := by decide +kernel
theorem dL_law_334 : decode cL_law 334 = .ok (.aload_n 0, 1) := by decide +kernel
theorem dL_law_335 : decode cL_law 335 = .ok (.iload_n 3, 1) := by decide +kernel
theorem dL_law_336 : decode cL_law 336 = .ok (.iconst 1, 1) := by decide +kernel
theorem dL_law_337 : decode cL_law 337 = .ok (.iadd, 1) := by decide +kernel
theorem dL_law_338 : decode cL_law 338 = .ok (.iaload, 1) := by decide +kernel
theorem dL_law_339 : decode cL_law 339 = .ok (.aload_n 0, 1) := by decide +kernel
theorem dL_law_340 : decode cL_law 340 = .ok (.iload_n 3, 1) := by decide +kernel
theorem dL_law_341 : decode cL_law 341 = .ok (.iconst 2, 1) := by decide +kernel
theorem dL_law_342 : decode cL_law 342 = .ok (.iadd, 1) := by decide +kernel
theorem dL_law_343 : decode cL_law 343 = .ok (.iaload, 1) := by decide +kernel
theorem dL_law_344 : decode cL_law 344 = .ok (.invokevirtual 39, 3) := by decide +kernel
theorem dL_law_347 : decode cL_law 347 = .ok (.if_icmp .eq 411, 3) := by decide +kernel
theorem dL_law_350 : decode cL_law 350 = .ok (.iconst 0, 1) := by decide +kernel
theorem dL_law_351 : decode cL_law 351 = .ok (.ireturn, 1) := by decide +kernel
theorem dL_law_352 : decode cL_law 352 = .ok (.aload_n 1, 1) := by decide +kernel
theorem dL_law_353 : decode cL_law 353 = .ok (.aload_n 0, 1) := by decide +kernel
theorem dL_law_354 : decode cL_law 354 = .ok (.iload_n 3, 1) := by decide +kernel
theorem dL_law_355 : decode cL_law 355 = .ok (.iconst 1, 1) := by decide +kernel
theorem dL_law_356 : decode cL_law 356 = .ok (.iadd, 1) := by decide +kernel
theorem dL_law_357 : decode cL_law 357 = .ok (.iaload, 1) := by decide +kernel
theorem dL_law_358 : decode cL_law 358 = .ok (.i2c, 1) := by decide +kernel
theorem dL_law_359 : decode cL_law 359 = .ok (.invokevirtual 40, 3) := by decide +kernel
theorem dL_law_362 : decode cL_law 362 = .ok (.aload_n 2, 1) := by decide +kernel
theorem dL_law_363 : decode cL_law 363 = .ok (.aload_n 0, 1) := by decide +kernel
theorem dL_law_364 : decode cL_law 364 = .ok (.iload_n 3, 1) := by decide +kernel
theorem dL_law_365 : decode cL_law 365 = .ok (.iconst 1, 1) := by decide +kernel
theorem dL_law_366 : decode cL_law 366 = .ok (.iadd, 1) := by decide +kernel
theorem dL_law_367 : decode cL_law 367 = .ok (.iaload, 1) := by decide +kernel
theorem dL_law_368 : decode cL_law 368 = .ok (.i2c, 1) := by decide +kernel
theorem dL_law_369 : decode cL_law 369 = .ok (.invokevirtual 44, 3) := by decide +kernel
theorem dL_law_372 : decode cL_law 372 = .ok (.if_icmp .eq 386, 3) := by decide +kernel
theorem dL_law_375 : decode cL_law 375 = .ok (.iconst 0, 1) := by decide +kernel
theorem dL_law_376 : decode cL_law 376 = .ok (.ireturn, 1) := by decide +kernel
theorem dL_law_377 : decode cL_law 377 = .ok (.aload_n 1, 1) := by decide +kernel
theorem dL_law_378 : decode cL_law 378 = .ok (.invokevirtual 45, 3) := by decide +kernel
theorem dL_law_381 : decode cL_law 381 = .ok (.aload_n 2, 1) := by decide +kernel
theorem dL_law_382 : decode cL_law 382 = .ok (.invokevirtual 49, 3) := by decide +kernel
theorem dL_law_385 : decode cL_law 385 = .ok (.if_icmp .eq 373, 3) := by decide +kernel
theorem dL_law_388 : decode cL_law 388 = .ok (.iconst 0, 1) := by decide +kernel
theorem dL_law_389 : decode cL_law 389 = .ok (.ireturn, 1) := by decide +kernel
theorem dL_law_390 : decode cL_law 390 = .ok (.aload_n 1, 1) := by decide +kernel
theorem dL_law_391 : decode cL_law 391 = .ok (.invokevirtual 50, 3) := by decide +kernel
theorem dL_law_394 : decode cL_law 394 = .ok (.aload_n 2, 1) := by decide +kernel
theorem dL_law_395 : decode cL_law 395 = .ok (.invokevirtual 53, 3) := by decide +kernel
theorem dL_law_398 : decode cL_law 398 = .ok (.if_icmp .eq 360, 3) := by decide +kernel
theorem dL_law_401 : decode cL_law 401 = .ok (.iconst 0, 1) := by decide +kernel
theorem dL_law_402 : decode cL_law 402 = .ok (.ireturn, 1) := by decide +kernel
theorem dL_law_403 : decode cL_law 403 = .ok (.aload_n 1, 1) := by decide +kernel
theorem dL_law_404 : decode cL_law 404 = .ok (.aload_n 0, 1) := by decide +kernel
theorem dL_law_405 : decode cL_law 405 = .ok (.iload_n 3, 1) := by decide +kernel
theorem dL_law_406 : decode cL_law 406 = .ok (.iconst 1, 1) := by decide +kernel
theorem dL_law_407 : decode cL_law 407 = .ok (.iadd, 1) := by decide +kernel
theorem dL_law_408 : decode cL_law 408 = .ok (.iaload, 1) := by decide +kernel
theorem dL_law_409 : decode cL_law 409 = .ok (.invokevirtual 54, 3) := by decide +kernel
theorem dL_law_412 : decode cL_law 412 = .ok (.aload_n 2, 1) := by decide +kernel
theorem dL_law_413 : decode cL_law 413 = .ok (.aload_n 0, 1) := by decide +kernel
theorem dL_law_414 : decode cL_law 414 = .ok (.iload_n 3, 1) := by decide +kernel
theorem dL_law_415 : decode cL_law 415 = .ok (.iconst 1, 1) := by decide +kernel
theorem dL_law_416 : decode cL_law 416 = .ok (.iadd, 1) := by decide +kernel
theorem dL_law_417 : decode cL_law 417 = .ok (.iaload, 1) := by decide +kernel
theorem dL_law_418 : decode cL_law 418 = .ok (.invokevirtual 57, 3) := by decide +kernel
theorem dL_law_421 : decode cL_law 421 = .ok (.if_icmp .eq 337, 3) := by decide +kernel
theorem dL_law_424 : decode cL_law 424 = .ok (.iconst 0, 1) := by decide +kernel
theorem dL_law_425 : decode cL_law 425 = .ok (.ireturn, 1) := by decide +kernel
theorem dL_law_426 : decode cL_law 426 = .ok (.aload_n 1, 1) := by decide +kernel
theorem dL_law_427 : decode cL_law 427 = .ok (.invokevirtual 58, 3) := by decide +kernel
theorem dL_law_430 : decode cL_law 430 = .ok (.aload_n 2, 1) := by decide +kernel
theorem dL_law_431 : decode cL_law 431 = .ok (.invokevirtual 61, 3) := by decide +kernel
theorem dL_law_434 : decode cL_law 434 = .ok (.if_icmp .eq 324, 3) := by decide +kernel
theorem dL_law_437 : decode cL_law 437 = .ok (.iconst 0, 1) := by decide +kernel
theorem dL_law_438 : decode cL_law 438 = .ok (.ireturn, 1) := by decide +kernel
theorem dL_law_439 : decode cL_law 439 = .ok (.aload_n 1, 1) := by decide +kernel
theorem dL_law_440 : decode cL_law 440 = .ok (.invokevirtual 62, 3) := by decide +kernel
theorem dL_law_443 : decode cL_law 443 = .ok (.aload_n 2, 1) := by decide +kernel
theorem dL_law_444 : decode cL_law 444 = .ok (.invokevirtual 65, 3) := by decide +kernel
theorem dL_law_447 : decode cL_law 447 = .ok (.if_icmp .eq 311, 3) := by decide +kernel
theorem dL_law_450 : decode cL_law 450 = .ok (.iconst 0, 1) := by decide +kernel
theorem dL_law_451 : decode cL_law 451 = .ok (.ireturn, 1) := by decide +kernel
theorem dL_law_452 : decode cL_law 452 = .ok (.aload_n 1, 1) := by decide +kernel
theorem dL_law_453 : decode cL_law 453 = .ok (.invokevirtual 66, 3) := by decide +kernel
theorem dL_law_456 : decode cL_law 456 = .ok (.aload_n 2, 1) := by decide +kernel
theorem dL_law_457 : decode cL_law 457 = .ok (.invokevirtual 69, 3) := by decide +kernel
theorem dL_law_460 : decode cL_law 460 = .ok (.if_icmp .eq 298, 3) := by decide +kernel
theorem dL_law_463 : decode cL_law 463 = .ok (.iconst 0, 1) := by decide +kernel
theorem dL_law_464 : decode cL_law 464 = .ok (.ireturn, 1) := by decide +kernel
theorem dL_law_465 : decode cL_law 465 = .ok (.aload_n 1, 1) := by decide +kernel
theorem dL_law_466 : decode cL_law 466 = .ok (.aload_n 0, 1) := by decide +kernel
theorem dL_law_467 : decode cL_law 467 = .ok (.iload_n 3, 1) := by decide +kernel
theorem dL_law_468 : decode cL_law 468 = .ok (.iconst 1, 1) := by decide +kernel
theorem dL_law_469 : decode cL_law 469 = .ok (.iadd, 1) := by decide +kernel
theorem dL_law_470 : decode cL_law 470 = .ok (.iaload, 1) := by decide +kernel
theorem dL_law_471 : decode cL_law 471 = .ok (.aload_n 0, 1) := by decide +kernel
theorem dL_law_472 : decode cL_law 472 = .ok (.iload_n 3, 1) := by decide +kernel
theorem dL_law_473 : decode cL_law 473 = .ok (.iconst 2, 1) := by decide +kernel
theorem dL_law_474 : decode cL_law 474 = .ok (.iadd, 1) := by decide +kernel
theorem dL_law_475 : decode cL_law 475 = .ok (.iaload, 1) := by decide +kernel
theorem dL_law_476 : decode cL_law 476 = .ok (.invokevirtual 70, 3) := by decide +kernel
theorem dL_law_479 : decode cL_law 479 = .ok (.aload_n 2, 1) := by decide +kernel
theorem dL_law_480 : decode cL_law 480 = .ok (.aload_n 0, 1) := by decide +kernel
theorem dL_law_481 : decode cL_law 481 = .ok (.iload_n 3, 1) := by decide +kernel
theorem dL_law_482 : decode cL_law 482 = .ok (.iconst 1, 1) := by decide +kernel
theorem dL_law_483 : decode cL_law 483 = .ok (.iadd, 1) := by decide +kernel
theorem dL_law_484 : decode cL_law 484 = .ok (.iaload, 1) := by decide +kernel
theorem dL_law_485 : decode cL_law 485 = .ok (.aload_n 0, 1) := by decide +kernel
theorem dL_law_486 : decode cL_law 486 = .ok (.iload_n 3, 1) := by decide +kernel
theorem dL_law_487 : decode cL_law 487 = .ok (.iconst 2, 1) := by decide +kernel
theorem dL_law_488 : decode cL_law 488 = .ok (.iadd, 1) := by decide +kernel
theorem dL_law_489 : decode cL_law 489 = .ok (.iaload, 1) := by decide +kernel
theorem dL_law_490 : decode cL_law 490 = .ok (.invokevirtual 73, 3) := by decide +kernel
theorem dL_law_493 : decode cL_law 493 = .ok (.if_icmp .eq 265, 3) := by decide +kernel
theorem dL_law_496 : decode cL_law 496 = .ok (.iconst 0, 1) := by decide +kernel
theorem dL_law_497 : decode cL_law 497 = .ok (.ireturn, 1) := by decide +kernel
theorem dL_law_498 : decode cL_law 498 = .ok (.aload_n 1, 1) := by decide +kernel
theorem dL_law_499 : decode cL_law 499 = .ok (.aload_n 0, 1) := by decide +kernel
theorem dL_law_500 : decode cL_law 500 = .ok (.iload_n 3, 1) := by decide +kernel
theorem dL_law_501 : decode cL_law 501 = .ok (.iconst 1, 1) := by decide +kernel
theorem dL_law_502 : decode cL_law 502 = .ok (.iadd, 1) := by decide +kernel
theorem dL_law_503 : decode cL_law 503 = .ok (.iaload, 1) := by decide +kernel
theorem dL_law_504 : decode cL_law 504 = .ok (.aload_n 0, 1) := by decide +kernel
theorem dL_law_505 : decode cL_law 505 = .ok (.iload_n 3, 1) := by decide +kernel
theorem dL_law_506 : decode cL_law 506 = .ok (.iconst 2, 1) := by decide +kernel
theorem dL_law_507 : decode cL_law 507 = .ok (.iadd, 1) := by decide +kernel
theorem dL_law_508 : decode cL_law 508 = .ok (.iaload, 1) := by decide +kernel
theorem dL_law_509 : decode cL_law 509 = .ok (.invokevirtual 74, 3) := by decide +kernel
theorem dL_law_512 : decode cL_law 512 = .ok (.aload_n 2, 1) := by decide +kernel
theorem dL_law_513 : decode cL_law 513 = .ok (.aload_n 0, 1) := by decide +kernel
theorem dL_law_514 : decode cL_law 514 = .ok (.iload_n 3, 1) := by decide +kernel
theorem dL_law_515 : decode cL_law 515 = .ok (.iconst 1, 1) := by decide +kernel
theorem dL_law_516 : decode cL_law 516 = .ok (.iadd, 1) := by decide +kernel
theorem dL_law_517 : decode cL_law 517 = .ok (.iaload, 1) := by decide +kernel
theorem dL_law_518 : decode cL_law 518 = .ok (.aload_n 0, 1) := by decide +kernel
theorem dL_law_519 : decode cL_law 519 = .ok (.iload_n 3, 1) := by decide +kernel
theorem dL_law_520 : decode cL_law 520 = .ok (.iconst 2, 1) := by decide +kernel
theorem dL_law_521 : decode cL_law 521 = .ok (.iadd, 1) := by decide +kernel
theorem dL_law_522 : decode cL_law 522 = .ok (.iaload, 1) := by decide +kernel
theorem dL_law_523 : decode cL_law 523 = .ok (.invokevirtual 77, 3) := by decide +kernel
theorem dL_law_526 : decode cL_law 526 = .ok (.if_icmp .eq 232, 3) := by decide +kernel
theorem dL_law_529 : decode cL_law 529 = .ok (.iconst 0, 1) := by decide +kernel
theorem dL_law_530 : decode cL_law 530 = .ok (.ireturn, 1) := by decide +kernel
theorem dL_law_531 : decode cL_law 531 = .ok (.aload_n 1, 1) := by decide +kernel
theorem dL_law_532 : decode cL_law 532 = .ok (.aload_n 0, 1) := by decide +kernel
theorem dL_law_533 : decode cL_law 533 = .ok (.iload_n 3, 1) := by decide +kernel
theorem dL_law_534 : decode cL_law 534 = .ok (.iconst 1, 1) := by decide +kernel
theorem dL_law_535 : decode cL_law 535 = .ok (.iadd, 1) := by decide +kernel
theorem dL_law_536 : decode cL_law 536 = .ok (.iaload, 1) := by decide +kernel
theorem dL_law_537 : decode cL_law 537 = .ok (.aload_n 0, 1) := by decide +kernel
theorem dL_law_538 : decode cL_law 538 = .ok (.iload_n 3, 1) := by decide +kernel
theorem dL_law_539 : decode cL_law 539 = .ok (.iconst 2, 1) := by decide +kernel
theorem dL_law_540 : decode cL_law 540 = .ok (.iadd, 1) := by decide +kernel
theorem dL_law_541 : decode cL_law 541 = .ok (.iaload, 1) := by decide +kernel
theorem dL_law_542 : decode cL_law 542 = .ok (.invokevirtual 78, 3) := by decide +kernel
theorem dL_law_545 : decode cL_law 545 = .ok (.aload_n 2, 1) := by decide +kernel
theorem dL_law_546 : decode cL_law 546 = .ok (.aload_n 0, 1) := by decide +kernel
theorem dL_law_547 : decode cL_law 547 = .ok (.iload_n 3, 1) := by decide +kernel
theorem dL_law_548 : decode cL_law 548 = .ok (.iconst 1, 1) := by decide +kernel
theorem dL_law_549 : decode cL_law 549 = .ok (.iadd, 1) := by decide +kernel
theorem dL_law_550 : decode cL_law 550 = .ok (.iaload, 1) := by decide +kernel
theorem dL_law_551 : decode cL_law 551 = .ok (.aload_n 0, 1) := by decide +kernel
theorem dL_law_552 : decode cL_law 552 = .ok (.iload_n 3, 1) := by decide +kernel
theorem dL_law_553 : decode cL_law 553 = .ok (.iconst 2, 1) := by decide +kernel
theorem dL_law_554 : decode cL_law 554 = .ok (.iadd, 1) := by decide +kernel
theorem dL_law_555 : decode cL_law 555 = .ok (.iaload, 1) := by decide +kernel
theorem dL_law_556 : decode cL_law 556 = .ok (.invokevirtual 81, 3) := by decide +kernel
theorem dL_law_559 : decode cL_law 559 = .ok (.if_icmp .eq 199, 3) := by decide +kernel
theorem dL_law_562 : decode cL_law 562 = .ok (.iconst 0, 1) := by decide +kernel
theorem dL_law_563 : decode cL_law 563 = .ok (.ireturn, 1) := by decide +kernel
theorem dL_law_564 : decode cL_law 564 = .ok (.aload_n 1, 1) := by decide +kernel
theorem dL_law_565 : decode cL_law 565 = .ok (.aload_n 0, 1) := by decide +kernel
theorem dL_law_566 : decode cL_law 566 = .ok (.iload_n 3, 1) := by decide +kernel
theorem dL_law_567 : decode cL_law 567 = .ok (.iconst 1, 1) := by decide +kernel
theorem dL_law_568 : decode cL_law 568 = .ok (.iadd, 1) := by decide +kernel
theorem dL_law_569 : decode cL_law 569 = .ok (.iaload, 1) := by decide +kernel
theorem dL_law_570 : decode cL_law 570 = .ok (.invokevirtual 82, 3) := by decide +kernel
theorem dL_law_573 : decode cL_law 573 = .ok (.aload_n 2, 1) := by decide +kernel
theorem dL_law_574 : decode cL_law 574 = .ok (.aload_n 0, 1) := by decide +kernel
theorem dL_law_575 : decode cL_law 575 = .ok (.iload_n 3, 1) := by decide +kernel
theorem dL_law_576 : decode cL_law 576 = .ok (.iconst 1, 1) := by decide +kernel
theorem dL_law_577 : decode cL_law 577 = .ok (.iadd, 1) := by decide +kernel
theorem dL_law_578 : decode cL_law 578 = .ok (.iaload, 1) := by decide +kernel
theorem dL_law_579 : decode cL_law 579 = .ok (.invokevirtual 85, 3) := by decide +kernel
theorem dL_law_582 : decode cL_law 582 = .ok (.if_icmp .eq 176, 3) := by decide +kernel
theorem dL_law_585 : decode cL_law 585 = .ok (.iconst 0, 1) := by decide +kernel
theorem dL_law_586 : decode cL_law 586 = .ok (.ireturn, 1) := by decide +kernel
theorem dL_law_587 : decode cL_law 587 = .ok (.aload_n 1, 1) := by decide +kernel
theorem dL_law_588 : decode cL_law 588 = .ok (.aload_n 0, 1) := by decide +kernel
theorem dL_law_589 : decode cL_law 589 = .ok (.iload_n 3, 1) := by decide +kernel
theorem dL_law_590 : decode cL_law 590 = .ok (.iconst 1, 1) := by decide +kernel
theorem dL_law_591 : decode cL_law 591 = .ok (.iadd, 1) := by decide +kernel
theorem dL_law_592 : decode cL_law 592 = .ok (.iaload, 1) := by decide +kernel
theorem dL_law_593 : decode cL_law 593 = .ok (.aload_n 0, 1) := by decide +kernel
theorem dL_law_594 : decode cL_law 594 = .ok (.iload_n 3, 1) := by decide +kernel
theorem dL_law_595 : decode cL_law 595 = .ok (.iconst 2, 1) := by decide +kernel
theorem dL_law_596 : decode cL_law 596 = .ok (.iadd, 1) := by decide +kernel
theorem dL_law_597 : decode cL_law 597 = .ok (.iaload, 1) := by decide +kernel
theorem dL_law_598 : decode cL_law 598 = .ok (.aload_n 0, 1) := by decide +kernel
theorem dL_law_599 : decode cL_law 599 = .ok (.iload_n 3, 1) := by decide +kernel
theorem dL_law_600 : decode cL_law 600 = .ok (.iconst 3, 1) := by decide +kernel
theorem dL_law_601 : decode cL_law 601 = .ok (.iadd, 1) := by decide +kernel
theorem dL_law_602 : decode cL_law 602 = .ok (.iaload, 1) := by decide +kernel
theorem dL_law_603 : decode cL_law 603 = .ok (.invokevirtual 86, 3) := by decide +kernel
theorem dL_law_606 : decode cL_law 606 = .ok (.aload_n 2, 1) := by decide +kernel
theorem dL_law_607 : decode cL_law 607 = .ok (.aload_n 0, 1) := by decide +kernel
theorem dL_law_608 : decode cL_law 608 = .ok (.iload_n 3, 1) := by decide +kernel
theorem dL_law_609 : decode cL_law 609 = .ok (.iconst 1, 1) := by decide +kernel
theorem dL_law_610 : decode cL_law 610 = .ok (.iadd, 1) := by decide +kernel
theorem dL_law_611 : decode cL_law 611 = .ok (.iaload, 1) := by decide +kernel
theorem dL_law_612 : decode cL_law 612 = .ok (.aload_n 0, 1) := by decide +kernel
theorem dL_law_613 : decode cL_law 613 = .ok (.iload_n 3, 1) := by decide +kernel
theorem dL_law_614 : decode cL_law 614 = .ok (.iconst 2, 1) := by decide +kernel
theorem dL_law_615 : decode cL_law 615 = .ok (.iadd, 1) := by decide +kernel
theorem dL_law_616 : decode cL_law 616 = .ok (.iaload, 1) := by decide +kernel
theorem dL_law_617 : decode cL_law 617 = .ok (.aload_n 0, 1) := by decide +kernel
theorem dL_law_618 : decode cL_law 618 = .ok (.iload_n 3, 1) := by decide +kernel
theorem dL_law_619 : decode cL_law 619 = .ok (.iconst 3, 1) := by decide +kernel
theorem dL_law_620 : decode cL_law 620 = .ok (.iadd, 1) := by decide +kernel
theorem dL_law_621 : decode cL_law 621 = .ok (.iaload, 1) := by decide +kernel
theorem dL_law_622 : decode cL_law 622 = .ok (.invokevirtual 90, 3) := by decide +kernel
theorem dL_law_625 : decode cL_law 625 = .ok (.if_icmp .eq 133, 3) := by decide +kernel
theorem dL_law_628 : decode cL_law 628 = .ok (.iconst 0, 1) := by decide +kernel
theorem dL_law_629 : decode cL_law 629 = .ok (.ireturn, 1) := by decide +kernel
theorem dL_law_630 : decode cL_law 630 = .ok (.aload_n 1, 1) := by decide +kernel
theorem dL_law_631 : decode cL_law 631 = .ok (.aload_n 0, 1) := by decide +kernel
theorem dL_law_632 : decode cL_law 632 = .ok (.iload_n 3, 1) := by decide +kernel
theorem dL_law_633 : decode cL_law 633 = .ok (.iconst 1, 1) := by decide +kernel
theorem dL_law_634 : decode cL_law 634 = .ok (.iadd, 1) := by decide +kernel
theorem dL_law_635 : decode cL_law 635 = .ok (.iaload, 1) := by decide +kernel
theorem dL_law_636 : decode cL_law 636 = .ok (.invokevirtual 91, 3) := by decide +kernel
theorem dL_law_639 : decode cL_law 639 = .ok (.aload_n 2, 1) := by decide +kernel
theorem dL_law_640 : decode cL_law 640 = .ok (.aload_n 0, 1) := by decide +kernel
theorem dL_law_641 : decode cL_law 641 = .ok (.iload_n 3, 1) := by decide +kernel
theorem dL_law_642 : decode cL_law 642 = .ok (.iconst 1, 1) := by decide +kernel
theorem dL_law_643 : decode cL_law 643 = .ok (.iadd, 1) := by decide +kernel
theorem dL_law_644 : decode cL_law 644 = .ok (.iaload, 1) := by decide +kernel
theorem dL_law_645 : decode cL_law 645 = .ok (.invokevirtual 94, 3) := by decide +kernel
theorem dL_law_648 : decode cL_law 648 = .ok (.if_icmp .eq 110, 3) := by decide +kernel
theorem dL_law_651 : decode cL_law 651 = .ok (.iconst 0, 1) := by decide +kernel
theorem dL_law_652 : decode cL_law 652 = .ok (.ireturn, 1) := by decide +kernel
theorem dL_law_653 : decode cL_law 653 = .ok (.aload_n 1, 1) := by decide +kernel
theorem dL_law_654 : decode cL_law 654 = .ok (.invokevirtual 95, 3) := by decide +kernel
theorem dL_law_657 : decode cL_law 657 = .ok (.aload_n 2, 1) := by decide +kernel
theorem dL_law_658 : decode cL_law 658 = .ok (.invokevirtual 98, 3) := by decide +kernel
theorem dL_law_661 : decode cL_law 661 = .ok (.if_icmp .eq 97, 3) := by decide +kernel
theorem dL_law_664 : decode cL_law 664 = .ok (.iconst 0, 1) := by decide +kernel
theorem dL_law_665 : decode cL_law 665 = .ok (.ireturn, 1) := by decide +kernel
theorem dL_law_666 : decode cL_law 666 = .ok (.aload_n 1, 1) := by decide +kernel
theorem dL_law_667 : decode cL_law 667 = .ok (.aload_n 0, 1) := by decide +kernel
theorem dL_law_668 : decode cL_law 668 = .ok (.iload_n 3, 1) := by decide +kernel
theorem dL_law_669 : decode cL_law 669 = .ok (.iconst 1, 1) := by decide +kernel
theorem dL_law_670 : decode cL_law 670 = .ok (.iadd, 1) := by decide +kernel
theorem dL_law_671 : decode cL_law 671 = .ok (.iaload, 1) := by decide +kernel
theorem dL_law_672 : decode cL_law 672 = .ok (.invokevirtual 99, 3) := by decide +kernel
theorem dL_law_675 : decode cL_law 675 = .ok (.aload_n 2, 1) := by decide +kernel
theorem dL_law_676 : decode cL_law 676 = .ok (.aload_n 0, 1) := by decide +kernel
theorem dL_law_677 : decode cL_law 677 = .ok (.iload_n 3, 1) := by decide +kernel
theorem dL_law_678 : decode cL_law 678 = .ok (.iconst 1, 1) := by decide +kernel
theorem dL_law_679 : decode cL_law 679 = .ok (.iadd, 1) := by decide +kernel
theorem dL_law_680 : decode cL_law 680 = .ok (.iaload, 1) := by decide +kernel
theorem dL_law_681 : decode cL_law 681 = .ok (.invokevirtual 102, 3) := by decide +kernel
theorem dL_law_684 : decode cL_law 684 = .ok (.if_icmp .eq 74, 3) := by decide +kernel
theorem dL_law_687 : decode cL_law 687 = .ok (.iconst 0, 1) := by decide +kernel
theorem dL_law_688 : decode cL_law 688 = .ok (.ireturn, 1) := by decide +kernel
theorem dL_law_689 : decode cL_law 689 = .ok (.aload_n 1, 1) := by decide +kernel
theorem dL_law_690 : decode cL_law 690 = .ok (.invokevirtual 103, 3) := by decide +kernel
theorem dL_law_693 : decode cL_law 693 = .ok (.aload_n 2, 1) := by decide +kernel
theorem dL_law_694 : decode cL_law 694 = .ok (.invokevirtual 106, 3) := by decide +kernel
theorem dL_law_697 : decode cL_law 697 = .ok (.if_icmp .eq 61, 3) := by decide +kernel
theorem dL_law_700 : decode cL_law 700 = .ok (.iconst 0, 1) := by decide +kernel
theorem dL_law_701 : decode cL_law 701 = .ok (.ireturn, 1) := by decide +kernel
theorem dL_law_702 : decode cL_law 702 = .ok (.aload_n 1, 1) := by decide +kernel
theorem dL_law_703 : decode cL_law 703 = .ok (.aload_n 0, 1) := by decide +kernel
theorem dL_law_704 : decode cL_law 704 = .ok (.iload_n 3, 1) := by decide +kernel
theorem dL_law_705 : decode cL_law 705 = .ok (.iconst 1, 1) := by decide +kernel
theorem dL_law_706 : decode cL_law 706 = .ok (.iadd, 1) := by decide +kernel
theorem dL_law_707 : decode cL_law 707 = .ok (.iaload, 1) := by decide +kernel
theorem dL_law_708 : decode cL_law 708 = .ok (.aload_n 0, 1) := by decide +kernel
theorem dL_law_709 : decode cL_law 709 = .ok (.iload_n 3, 1) := by decide +kernel
theorem dL_law_710 : decode cL_law 710 = .ok (.iconst 2, 1) := by decide +kernel
theorem dL_law_711 : decode cL_law 711 = .ok (.iadd, 1) := by decide +kernel
theorem dL_law_712 : decode cL_law 712 = .ok (.iaload, 1) := by decide +kernel
theorem dL_law_713 : decode cL_law 713 = .ok (.invokevirtual 107, 3) := by decide +kernel
theorem dL_law_716 : decode cL_law 716 = .ok (.aload_n 2, 1) := by decide +kernel
theorem dL_law_717 : decode cL_law 717 = .ok (.aload_n 0, 1) := by decide +kernel
theorem dL_law_718 : decode cL_law 718 = .ok (.iload_n 3, 1) := by decide +kernel
theorem dL_law_719 : decode cL_law 719 = .ok (.iconst 1, 1) := by decide +kernel
theorem dL_law_720 : decode cL_law 720 = .ok (.iadd, 1) := by decide +kernel
theorem dL_law_721 : decode cL_law 721 = .ok (.iaload, 1) := by decide +kernel
theorem dL_law_722 : decode cL_law 722 = .ok (.aload_n 0, 1) := by decide +kernel
theorem dL_law_723 : decode cL_law 723 = .ok (.iload_n 3, 1) := by decide +kernel
theorem dL_law_724 : decode cL_law 724 = .ok (.iconst 2, 1) := by decide +kernel
theorem dL_law_725 : decode cL_law 725 = .ok (.iadd, 1) := by decide +kernel
theorem dL_law_726 : decode cL_law 726 = .ok (.iaload, 1) := by decide +kernel
theorem dL_law_727 : decode cL_law 727 = .ok (.invokevirtual 110, 3) := by decide +kernel
theorem dL_law_730 : decode cL_law 730 = .ok (.if_icmp .eq 28, 3) := by decide +kernel
theorem dL_law_733 : decode cL_law 733 = .ok (.iconst 0, 1) := by decide +kernel
theorem dL_law_734 : decode cL_law 734 = .ok (.ireturn, 1) := by decide +kernel
theorem dL_law_735 : decode cL_law 735 = .ok (.aload_n 1, 1) := by decide +kernel
theorem dL_law_736 : decode cL_law 736 = .ok (.aload_n 0, 1) := by decide +kernel
theorem dL_law_737 : decode cL_law 737 = .ok (.iload_n 3, 1) := by decide +kernel
theorem dL_law_738 : decode cL_law 738 = .ok (.iconst 1, 1) := by decide +kernel
theorem dL_law_739 : decode cL_law 739 = .ok (.iadd, 1) := by decide +kernel
theorem dL_law_740 : decode cL_law 740 = .ok (.iaload, 1) := by decide +kernel
theorem dL_law_741 : decode cL_law 741 = .ok (.invokevirtual 111, 3) := by decide +kernel
theorem dL_law_744 : decode cL_law 744 = .ok (.aload_n 2, 1) := by decide +kernel
theorem dL_law_745 : decode cL_law 745 = .ok (.aload_n 0, 1) := by decide +kernel
theorem dL_law_746 : decode cL_law 746 = .ok (.iload_n 3, 1) := by decide +kernel
theorem dL_law_747 : decode cL_law 747 = .ok (.iconst 1, 1) := by decide +kernel
theorem dL_law_748 : decode cL_law 748 = .ok (.iadd, 1) := by decide +kernel
theorem dL_law_749 : decode cL_law 749 = .ok (.iaload, 1) := by decide +kernel
theorem dL_law_750 : decode cL_law 750 = .ok (.invokevirtual 114, 3) := by decide +kernel
theorem dL_law_753 : decode cL_law 753 = .ok (.if_icmp .eq 5, 3) := by decide +kernel
theorem dL_law_756 : decode cL_law 756 = .ok (.iconst 0, 1) := by decide +kernel
theorem dL_law_757 : decode cL_law 757 = .ok (.ireturn, 1) := by decide +kernel
theorem dL_law_758 : decode cL_law 758 = .ok (.iinc 3 5, 3) := by decide +kernel
theorem dL_law_761 : decode cL_law 761 = .ok (.goto (-743), 3) := by decide +kernel
theorem dL_law_764 : decode cL_law 764 = .ok (.iconst 1, 1) := by decide +kernel
theorem dL_law_765 : decode cL_law 765 = .ok (.ireturn, 1) := by decide +kernel
