theorem dX0_init_0 : decode cX0_init 0 = .ok (.aload_n 0, 1) := by decide +kernel
theorem dX0_init_1 : decode cX0_init 1 = .ok (.invokespecial 3, 3) := by decide +kernel
theorem dX0_init_4 : decode cX0_init 4 = .ok (.aload_n 0, 1) := by decide +kernel
theorem dX0_init_5 : decode cX0_init 5 = .ok (.iconst 4, 1) := by decide +kernel
theorem dX0_init_6 : decode cX0_init 6 = .ok (.anewarray 9, 3) := by decide +kernel
theorem dX0_init_9 : decode cX0_init 9 = .ok (.putfield 11, 3) := by decide +kernel
theorem dX0_init_12 : decode cX0_init 12 = .ok (.iconst 0, 1) := by decide +kernel
theorem dX0_init_13 : decode cX0_init 13 = .ok (.istore_n 1, 1) := by decide +kernel
theorem dX0_init_14 : decode cX0_init 14 = .ok (.iload_n 1, 1) := by decide +kernel
theorem dX0_init_15 : decode cX0_init 15 = .ok (.iconst 4, 1) := by decide +kernel
theorem dX0_init_16 : decode cX0_init 16 = .ok (.if_icmp .ge 22, 3) := by decide +kernel
theorem dX0_init_19 : decode cX0_init 19 = .ok (.aload_n 0, 1) := by decide +kernel
theorem dX0_init_20 : decode cX0_init 20 = .ok (.getfield 11, 3) := by decide +kernel
theorem dX0_init_23 : decode cX0_init 23 = .ok (.iload_n 1, 1) := by decide +kernel
theorem dX0_init_24 : decode cX0_init 24 = .ok (.new 9, 3) := by decide +kernel
theorem dX0_init_27 : decode cX0_init 27 = .ok (.dup, 1) := by decide +kernel
theorem dX0_init_28 : decode cX0_init 28 = .ok (.invokespecial 17, 3) := by decide +kernel
theorem dX0_init_31 : decode cX0_init 31 = .ok (.aastore, 1) := by decide +kernel
theorem dX0_init_32 : decode cX0_init 32 = .ok (.iinc 1 1, 3) := by decide +kernel
theorem dX0_init_35 : decode cX0_init 35 = .ok (.goto (-21), 3) := by decide +kernel
theorem dX0_init_38 : decode cX0_init 38 = .ok (.return_, 1) := by decide +kernel
theorem dX0_remember_0 : decode cX0_remember 0 = .ok (.aload_n 0, 1) := by decide +kernel
theorem dX0_remember_1 : decode cX0_remember 1 = .ok (.getfield 18, 3) := by decide +kernel
theorem dX0_remember_4 : decode cX0_remember 4 = .ok (.iconst 4, 1) := by decide +kernel
theorem dX0_remember_5 : decode cX0_remember 5 = .ok (.if_icmp .ne 25, 3) := by decide +kernel
theorem dX0_remember_8 : decode cX0_remember 8 = .ok (.aload_n 0, 1) := by decide +kernel
theorem dX0_remember_9 : decode cX0_remember 9 = .ok (.aload_n 0, 1) := by decide +kernel
theorem dX0_remember_10 : decode cX0_remember 10 = .ok (.getfield 22, 3) := by decide +kernel
theorem dX0_remember_13 : decode cX0_remember 13 = .ok (.iconst 1, 1) := by decide +kernel
theorem dX0_remember_14 : decode cX0_remember 14 = .ok (.iadd, 1) := by decide +kernel
theorem dX0_remember_15 : decode cX0_remember 15 = .ok (.iconst 4, 1) := by decide +kernel
theorem dX0_remember_16 : decode cX0_remember 16 = .ok (.irem, 1) := by decide +kernel
theorem dX0_remember_17 : decode cX0_remember 17 = .ok (.putfield 22, 3) := by decide +kernel
theorem dX0_remember_20 : decode cX0_remember 20 = .ok (.aload_n 0, 1) := by decide +kernel
theorem dX0_remember_21 : decode cX0_remember 21 = .ok (.dup, 1) := by decide +kernel
theorem dX0_remember_22 : decode cX0_remember 22 = .ok (.getfield 18, 3) := by decide +kernel
theorem dX0_remember_25 : decode cX0_remember 25 = .ok (.iconst 1, 1) := by decide +kernel
theorem dX0_remember_26 : decode cX0_remember 26 = .ok (.isub, 1) := by decide +kernel
theorem dX0_remember_27 : decode cX0_remember 27 = .ok (.putfield 18, 3) := by decide +kernel
theorem dX0_remember_30 : decode cX0_remember 30 = .ok (.aload_n 0, 1) := by decide +kernel
theorem dX0_remember_31 : decode cX0_remember 31 = .ok (.getfield 11, 3) := by decide +kernel
theorem dX0_remember_34 : decode cX0_remember 34 = .ok (.aload_n 0, 1) := by decide +kernel
theorem dX0_remember_35 : decode cX0_remember 35 = .ok (.getfield 22, 3) := by decide +kernel
theorem dX0_remember_38 : decode cX0_remember 38 = .ok (.aload_n 0, 1) := by decide +kernel
theorem dX0_remember_39 : decode cX0_remember 39 = .ok (.getfield 18, 3) := by decide +kernel
theorem dX0_remember_42 : decode cX0_remember 42 = .ok (.iadd, 1) := by decide +kernel
theorem dX0_remember_43 : decode cX0_remember 43 = .ok (.iconst 4, 1) := by decide +kernel
theorem dX0_remember_44 : decode cX0_remember 44 = .ok (.irem, 1) := by decide +kernel
theorem dX0_remember_45 : decode cX0_remember 45 = .ok (.aaload, 1) := by decide +kernel
theorem dX0_remember_46 : decode cX0_remember 46 = .ok (.aload_n 1, 1) := by decide +kernel
theorem dX0_remember_47 : decode cX0_remember 47 = .ok (.invokevirtual 25, 3) := by decide +kernel
theorem dX0_remember_50 : decode cX0_remember 50 = .ok (.aload_n 0, 1) := by decide +kernel
theorem dX0_remember_51 : decode cX0_remember 51 = .ok (.dup, 1) := by decide +kernel
theorem dX0_remember_52 : decode cX0_remember 52 = .ok (.getfield 18, 3) := by decide +kernel
theorem dX0_remember_55 : decode cX0_remember 55 = .ok (.iconst 1, 1) := by decide +kernel
theorem dX0_remember_56 : decode cX0_remember 56 = .ok (.iadd, 1) := by decide +kernel
theorem dX0_remember_57 : decode cX0_remember 57 = .ok (.putfield 18, 3) := by decide +kernel
theorem dX0_remember_60 : decode cX0_remember 60 = .ok (.return_, 1) := by decide +kernel
theorem dX0_takeBack_0 : decode cX0_takeBack 0 = .ok (.aload_n 0, 1) := by decide +kernel
theorem dX0_takeBack_1 : decode cX0_takeBack 1 = .ok (.getfield 18, 3) := by decide +kernel
theorem dX0_takeBack_4 : decode cX0_takeBack 4 = .ok (.ifCond .ne 6, 3) := by decide +kernel
theorem dX0_takeBack_7 : decode cX0_takeBack 7 = .ok (.bipush (-5), 2) := by decide +kernel
theorem dX0_takeBack_9 : decode cX0_takeBack 9 = .ok (.ireturn, 1) := by decide +kernel
theorem dX0_takeBack_10 : decode cX0_takeBack 10 = .ok (.aload_n 0, 1) := by decide +kernel
theorem dX0_takeBack_11 : decode cX0_takeBack 11 = .ok (.dup, 1) := by decide +kernel
theorem dX0_takeBack_12 : decode cX0_takeBack 12 = .ok (.getfield 18, 3) := by decide +kernel
theorem dX0_takeBack_15 : decode cX0_takeBack 15 = .ok (.iconst 1, 1) := by decide +kernel
theorem dX0_takeBack_16 : decode cX0_takeBack 16 = .ok (.isub, 1) := by decide +kernel
theorem dX0_takeBack_17 : decode cX0_takeBack 17 = .ok (.putfield 18, 3) := by decide +kernel
theorem dX0_takeBack_20 : decode cX0_takeBack 20 = .ok (.aload_n 1, 1) := by decide +kernel
theorem dX0_takeBack_21 : decode cX0_takeBack 21 = .ok (.aload_n 0, 1) := by decide +kernel
theorem dX0_takeBack_22 : decode cX0_takeBack 22 = .ok (.getfield 11, 3) := by decide +kernel
theorem dX0_takeBack_25 : decode cX0_takeBack 25 = .ok (.aload_n 0, 1) := by decide +kernel
theorem dX0_takeBack_26 : decode cX0_takeBack 26 = .ok (.getfield 22, 3) := by decide +kernel
theorem dX0_takeBack_29 : decode cX0_takeBack 29 = .ok (.aload_n 0, 1) := by decide +kernel
theorem dX0_takeBack_30 : decode cX0_takeBack 30 = .ok (.getfield 18, 3) := by decide +kernel
theorem dX0_takeBack_33 : decode cX0_takeBack 33 = .ok (.iadd, 1) := by decide +kernel
theorem dX0_takeBack_34 : decode cX0_takeBack 34 = .ok (.iconst 4, 1) := by decide +kernel
theorem dX0_takeBack_35 : decode cX0_takeBack 35 = .ok (.irem, 1) := by decide +kernel
theorem dX0_takeBack_36 : decode cX0_takeBack 36 = .ok (.aaload, 1) := by decide +kernel
theorem dX0_takeBack_37 : decode cX0_takeBack 37 = .ok (.invokevirtual 25, 3) := by decide +kernel
theorem dX0_takeBack_40 : decode cX0_takeBack 40 = .ok (.aload_n 0, 1) := by decide +kernel
theorem dX0_takeBack_41 : decode cX0_takeBack 41 = .ok (.getfield 18, 3) := by decide +kernel
theorem dX0_takeBack_44 : decode cX0_takeBack 44 = .ok (.ireturn, 1) := by decide +kernel
theorem dX1_init_0 : decode cX1_init 0 = .ok (.aload_n 0, 1) := by decide +kernel
theorem dX1_init_1 : decode cX1_init 1 = .ok (.invokespecial 3, 3) := by decide +kernel
theorem dX1_init_4 : decode cX1_init 4 = .ok (.aload_n 0, 1) := by decide +kernel
theorem dX1_init_5 : decode cX1_init 5 = .ok (.sipush 140, 3) := by decide +kernel
theorem dX1_init_8 : decode cX1_init 8 = .ok (.newarray .int, 2) := by decide +kernel
theorem dX1_init_10 : decode cX1_init 10 = .ok (.putfield 9, 3) := by decide +kernel
theorem dX1_init_13 : decode cX1_init 13 = .ok (.aload_n 0, 1) := by decide +kernel
theorem dX1_init_14 : decode cX1_init 14 = .ok (.sipush 140, 3) := by decide +kernel
theorem dX1_init_17 : decode cX1_init 17 = .ok (.newarray .int, 2) := by decide +kernel
theorem dX1_init_19 : decode cX1_init 19 = .ok (.putfield 15, 3) := by decide +kernel
theorem dX1_init_22 : decode cX1_init 22 = .ok (.aload_n 0, 1) := by decide +kernel
theorem dX1_init_23 : decode cX1_init 23 = .ok (.sipush 140, 3) := by decide +kernel
theorem dX1_init_26 : decode cX1_init 26 = .ok (.newarray .int, 2) := by decide +kernel
theorem dX1_init_28 : decode cX1_init 28 = .ok (.putfield 18, 3) := by decide +kernel
theorem dX1_init_31 : decode cX1_init 31 = .ok (.return_, 1) := by decide +kernel
theorem dX1_copyFrom_0 : decode cX1_copyFrom 0 = .ok (.aload_n 1, 1) := by decide +kernel
theorem dX1_copyFrom_1 : decode cX1_copyFrom 1 = .ok (.getfield 9, 3) := by decide +kernel
theorem dX1_copyFrom_4 : decode cX1_copyFrom 4 = .ok (.iconst 0, 1) := by decide +kernel
theorem dX1_copyFrom_5 : decode cX1_copyFrom 5 = .ok (.aload_n 0, 1) := by decide +kernel
theorem dX1_copyFrom_6 : decode cX1_copyFrom 6 = .ok (.getfield 9, 3) := by decide +kernel
theorem dX1_copyFrom_9 : decode cX1_copyFrom 9 = .ok (.iconst 0, 1) := by decide +kernel
theorem dX1_copyFrom_10 : decode cX1_copyFrom 10 = .ok (.sipush 140, 3) := by decide +kernel
theorem dX1_copyFrom_13 : decode cX1_copyFrom 13 = .ok (.invokestatic 21, 3) := by decide +kernel
theorem dX1_copyFrom_16 : decode cX1_copyFrom 16 = .ok (.aload_n 1, 1) := by decide +kernel
theorem dX1_copyFrom_17 : decode cX1_copyFrom 17 = .ok (.getfield 15, 3) := by decide +kernel
theorem dX1_copyFrom_20 : decode cX1_copyFrom 20 = .ok (.iconst 0, 1) := by decide +kernel
theorem dX1_copyFrom_21 : decode cX1_copyFrom 21 = .ok (.aload_n 0, 1) := by decide +kernel
theorem dX1_copyFrom_22 : decode cX1_copyFrom 22 = .ok (.getfield 15, 3) := by decide +kernel
theorem dX1_copyFrom_25 : decode cX1_copyFrom 25 = .ok (.iconst 0, 1) := by decide +kernel
theorem dX1_copyFrom_26 : decode cX1_copyFrom 26 = .ok (.sipush 140, 3) := by decide +kernel
theorem dX1_copyFrom_29 : decode cX1_copyFrom 29 = .ok (.invokestatic 21, 3) := by decide +kernel
theorem dX1_copyFrom_32 : decode cX1_copyFrom 32 = .ok (.aload_n 1, 1) := by decide +kernel
theorem dX1_copyFrom_33 : decode cX1_copyFrom 33 = .ok (.getfield 18, 3) := by decide +kernel
theorem dX1_copyFrom_36 : decode cX1_copyFrom 36 = .ok (.iconst 0, 1) := by decide +kernel
theorem dX1_copyFrom_37 : decode cX1_copyFrom 37 = .ok (.aload_n 0, 1) := by decide +kernel
theorem dX1_copyFrom_38 : decode cX1_copyFrom 38 = .ok (.getfield 18, 3) := by decide +kernel
theorem dX1_copyFrom_41 : decode cX1_copyFrom 41 = .ok (.iconst 0, 1) := by decide +kernel
theorem dX1_copyFrom_42 : decode cX1_copyFrom 42 = .ok (.sipush 140, 3) := by decide +kernel
theorem dX1_copyFrom_45 : decode cX1_copyFrom 45 = .ok (.invokestatic 21, 3) := by decide +kernel
theorem dX1_copyFrom_48 : decode cX1_copyFrom 48 = .ok (.return_, 1) := by decide +kernel
theorem dX1_stanceOf_0 : decode cX1_stanceOf 0 = .ok (.aload_n 0, 1) := by decide +kernel
theorem dX1_stanceOf_1 : decode cX1_stanceOf 1 = .ok (.getfield 9, 3) := by decide +kernel
theorem dX1_stanceOf_4 : decode cX1_stanceOf 4 = .ok (.iload_n 1, 1) := by decide +kernel
theorem dX1_stanceOf_5 : decode cX1_stanceOf 5 = .ok (.bipush 20, 2) := by decide +kernel
theorem dX1_stanceOf_7 : decode cX1_stanceOf 7 = .ok (.imul, 1) := by decide +kernel
theorem dX1_stanceOf_8 : decode cX1_stanceOf 8 = .ok (.iload_n 2, 1) := by decide +kernel
theorem dX1_stanceOf_9 : decode cX1_stanceOf 9 = .ok (.iadd, 1) := by decide +kernel
theorem dX1_stanceOf_10 : decode cX1_stanceOf 10 = .ok (.iaload, 1) := by decide +kernel
theorem dX1_stanceOf_11 : decode cX1_stanceOf 11 = .ok (.ireturn, 1) := by decide +kernel
theorem dX1_strengthOf_0 : decode cX1_strengthOf 0 = .ok (.aload_n 0, 1) := by decide +kernel
theorem dX1_strengthOf_1 : decode cX1_strengthOf 1 = .ok (.getfield 15, 3) := by decide +kernel
theorem dX1_strengthOf_4 : decode cX1_strengthOf 4 = .ok (.iload_n 1, 1) := by decide +kernel
theorem dX1_strengthOf_5 : decode cX1_strengthOf 5 = .ok (.bipush 20, 2) := by decide +kernel
theorem dX1_strengthOf_7 : decode cX1_strengthOf 7 = .ok (.imul, 1) := by decide +kernel
theorem dX1_strengthOf_8 : decode cX1_strengthOf 8 = .ok (.iload_n 2, 1) := by decide +kernel
theorem dX1_strengthOf_9 : decode cX1_strengthOf 9 = .ok (.iadd, 1) := by decide +kernel
theorem dX1_strengthOf_10 : decode cX1_strengthOf 10 = .ok (.iaload, 1) := by decide +kernel
theorem dX1_strengthOf_11 : decode cX1_strengthOf 11 = .ok (.ireturn, 1) := by decide +kernel
theorem dX1_size_0 : decode cX1_size 0 = .ok (.aload_n 0, 1) := by decide +kernel
theorem dX1_size_1 : decode cX1_size 1 = .ok (.sipush 140, 3) := by decide +kernel
theorem dX1_size_4 : decode cX1_size 4 = .ok (.invokevirtual 27, 3) := by decide +kernel
theorem dX1_size_7 : decode cX1_size 7 = .ok (.ireturn, 1) := by decide +kernel
theorem dX1_rankOf_0 : decode cX1_rankOf 0 = .ok (.iconst 0, 1) := by decide +kernel
theorem dX1_rankOf_1 : decode cX1_rankOf 1 = .ok (.istore_n 2, 1) := by decide +kernel
theorem dX1_rankOf_2 : decode cX1_rankOf 2 = .ok (.iconst 0, 1) := by decide +kernel
theorem dX1_rankOf_3 : decode cX1_rankOf 3 = .ok (.istore_n 3, 1) := by decide +kernel
theorem dX1_rankOf_4 : decode cX1_rankOf 4 = .ok (.iload_n 3, 1) := by decide +kernel
theorem dX1_rankOf_5 : decode cX1_rankOf 5 = .ok (.iload_n 1, 1) := by decide +kernel
theorem dX1_rankOf_6 : decode cX1_rankOf 6 = .ok (.if_icmp .ge 28, 3) := by decide +kernel
theorem dX1_rankOf_9 : decode cX1_rankOf 9 = .ok (.iload_n 3, 1) := by decide +kernel
theorem dX1_rankOf_10 : decode cX1_rankOf 10 = .ok (.sipush 140, 3) := by decide +kernel
theorem dX1_rankOf_13 : decode cX1_rankOf 13 = .ok (.if_icmp .ge 21, 3) := by decide +kernel
theorem dX1_rankOf_16 : decode cX1_rankOf 16 = .ok (.aload_n 0, 1) := by decide +kernel
theorem dX1_rankOf_17 : decode cX1_rankOf 17 = .ok (.getfield 15, 3) := by decide +kernel
theorem dX1_rankOf_20 : decode cX1_rankOf 20 = .ok (.iload_n 3, 1) := by decide +kernel
theorem dX1_rankOf_21 : decode cX1_rankOf 21 = .ok (.iaload, 1) := by decide +kernel
theorem dX1_rankOf_22 : decode cX1_rankOf 22 = .ok (.ifCond .le 6, 3) := by decide +kernel
theorem dX1_rankOf_25 : decode cX1_rankOf 25 = .ok (.iinc 2 1, 3) := by decide +kernel
theorem dX1_rankOf_28 : decode cX1_rankOf 28 = .ok (.iinc 3 1, 3) := by decide +kernel
theorem dX1_rankOf_31 : decode cX1_rankOf 31 = .ok (.goto (-27), 3) := by decide +kernel
theorem dX1_rankOf_34 : decode cX1_rankOf 34 = .ok (.iload_n 2, 1) := by decide +kernel
theorem dX1_rankOf_35 : decode cX1_rankOf 35 = .ok (.ireturn, 1) := by decide +kernel
theorem dX1_spotAt_0 : decode cX1_spotAt 0 = .ok (.iconst 0, 1) := by decide +kernel
theorem dX1_spotAt_1 : decode cX1_spotAt 1 = .ok (.istore_n 2, 1) := by decide +kernel
theorem dX1_spotAt_2 : decode cX1_spotAt 2 = .ok (.iconst 0, 1) := by decide +kernel
theorem dX1_spotAt_3 : decode cX1_spotAt 3 = .ok (.istore_n 3, 1) := by decide +kernel
theorem dX1_spotAt_4 : decode cX1_spotAt 4 = .ok (.iload_n 3, 1) := by decide +kernel
theorem dX1_spotAt_5 : decode cX1_spotAt 5 = .ok (.sipush 140, 3) := by decide +kernel
theorem dX1_spotAt_8 : decode cX1_spotAt 8 = .ok (.if_icmp .ge 28, 3) := by decide +kernel
theorem dX1_spotAt_11 : decode cX1_spotAt 11 = .ok (.aload_n 0, 1) := by decide +kernel
theorem dX1_spotAt_12 : decode cX1_spotAt 12 = .ok (.getfield 15, 3) := by decide +kernel
theorem dX1_spotAt_15 : decode cX1_spotAt 15 = .ok (.iload_n 3, 1) := by decide +kernel
theorem dX1_spotAt_16 : decode cX1_spotAt 16 = .ok (.iaload, 1) := by decide +kernel
theorem dX1_spotAt_17 : decode cX1_spotAt 17 = .ok (.ifCond .le 13, 3) := by decide +kernel
theorem dX1_spotAt_20 : decode cX1_spotAt 20 = .ok (.iload_n 2, 1) := by decide +kernel
theorem dX1_spotAt_21 : decode cX1_spotAt 21 = .ok (.iload_n 1, 1) := by decide +kernel
theorem dX1_spotAt_22 : decode cX1_spotAt 22 = .ok (.if_icmp .ne 5, 3) := by decide +kernel
theorem dX1_spotAt_25 : decode cX1_spotAt 25 = .ok (.iload_n 3, 1) := by decide +kernel
theorem dX1_spotAt_26 : decode cX1_spotAt 26 = .ok (.ireturn, 1) := by decide +kernel
theorem dX1_spotAt_27 : decode cX1_spotAt 27 = .ok (.iinc 2 1, 3) := by decide +kernel
theorem dX1_spotAt_30 : decode cX1_spotAt 30 = .ok (.iinc 3 1, 3) := by decide +kernel
theorem dX1_spotAt_33 : decode cX1_spotAt 33 = .ok (.goto (-29), 3) := by decide +kernel
theorem dX1_spotAt_36 : decode cX1_spotAt 36 = .ok (.bipush (-5), 2) := by decide +kernel
theorem dX1_spotAt_38 : decode cX1_spotAt 38 = .ok (.ireturn, 1) := by decide +kernel
theorem dX1_rulingPlace_0 : decode cX1_rulingPlace 0 = .ok (.aload_n 0, 1) := by decide +kernel
theorem dX1_rulingPlace_1 : decode cX1_rulingPlace 1 = .ok (.iload_n 1, 1) := by decide +kernel
theorem dX1_rulingPlace_2 : decode cX1_rulingPlace 2 = .ok (.iload_n 2, 1) := by decide +kernel
theorem dX1_rulingPlace_3 : decode cX1_rulingPlace 3 = .ok (.invokevirtual 31, 3) := by decide +kernel
theorem dX1_rulingPlace_6 : decode cX1_rulingPlace 6 = .ok (.istore_n 3, 1) := by decide +kernel
theorem dX1_rulingPlace_7 : decode cX1_rulingPlace 7 = .ok (.aload_n 0, 1) := by decide +kernel
theorem dX1_rulingPlace_8 : decode cX1_rulingPlace 8 = .ok (.bipush 6, 2) := by decide +kernel
theorem dX1_rulingPlace_10 : decode cX1_rulingPlace 10 = .ok (.iload_n 2, 1) := by decide +kernel
theorem dX1_rulingPlace_11 : decode cX1_rulingPlace 11 = .ok (.invokevirtual 31, 3) := by decide +kernel
theorem dX1_rulingPlace_14 : decode cX1_rulingPlace 14 = .ok (.istore 4, 2) := by decide +kernel
theorem dX1_rulingPlace_16 : decode cX1_rulingPlace 16 = .ok (.iload_n 3, 1) := by decide +kernel
theorem dX1_rulingPlace_17 : decode cX1_rulingPlace 17 = .ok (.ifCond .ne 11, 3) := by decide +kernel
theorem dX1_rulingPlace_20 : decode cX1_rulingPlace 20 = .ok (.iload 4, 2) := by decide +kernel
theorem dX1_rulingPlace_22 : decode cX1_rulingPlace 22 = .ok (.ifCond .ne 6, 3) := by decide +kernel
theorem dX1_rulingPlace_25 : decode cX1_rulingPlace 25 = .ok (.bipush (-5), 2) := by decide +kernel
theorem dX1_rulingPlace_27 : decode cX1_rulingPlace 27 = .ok (.ireturn, 1) := by decide +kernel
theorem dX1_rulingPlace_28 : decode cX1_rulingPlace 28 = .ok (.iload_n 3, 1) := by decide +kernel
theorem dX1_rulingPlace_29 : decode cX1_rulingPlace 29 = .ok (.iload 4, 2) := by decide +kernel
theorem dX1_rulingPlace_31 : decode cX1_rulingPlace 31 = .ok (.if_icmp .lt 7, 3) := by decide +kernel
theorem dX1_rulingPlace_34 : decode cX1_rulingPlace 34 = .ok (.iload_n 1, 1) := by decide +kernel
theorem dX1_rulingPlace_35 : decode cX1_rulingPlace 35 = .ok (.goto 5, 3) := by decide +kernel
theorem dX1_rulingPlace_38 : decode cX1_rulingPlace 38 = .ok (.bipush 6, 2) := by decide +kernel
theorem dX1_rulingPlace_40 : decode cX1_rulingPlace 40 = .ok (.ireturn, 1) := by decide +kernel
theorem dX1_isForbidden_0 : decode cX1_isForbidden 0 = .ok (.aload_n 0, 1) := by decide +kernel
theorem dX1_isForbidden_1 : decode cX1_isForbidden 1 = .ok (.iload_n 1, 1) := by decide +kernel
theorem dX1_isForbidden_2 : decode cX1_isForbidden 2 = .ok (.iload_n 2, 1) := by decide +kernel
theorem dX1_isForbidden_3 : decode cX1_isForbidden 3 = .ok (.invokevirtual 35, 3) := by decide +kernel
theorem dX1_isForbidden_6 : decode cX1_isForbidden 6 = .ok (.istore_n 3, 1) := by decide +kernel
theorem dX1_isForbidden_7 : decode cX1_isForbidden 7 = .ok (.iload_n 3, 1) := by decide +kernel
theorem dX1_isForbidden_8 : decode cX1_isForbidden 8 = .ok (.bipush (-5), 2) := by decide +kernel
theorem dX1_isForbidden_10 : decode cX1_isForbidden 10 = .ok (.if_icmp .eq 16, 3) := by decide +kernel
theorem dX1_isForbidden_13 : decode cX1_isForbidden 13 = .ok (.aload_n 0, 1) := by decide +kernel
theorem dX1_isForbidden_14 : decode cX1_isForbidden 14 = .ok (.iload_n 3, 1) := by decide +kernel
theorem dX1_isForbidden_15 : decode cX1_isForbidden 15 = .ok (.iload_n 2, 1) := by decide +kernel
theorem dX1_isForbidden_16 : decode cX1_isForbidden 16 = .ok (.invokevirtual 38, 3) := by decide +kernel
theorem dX1_isForbidden_19 : decode cX1_isForbidden 19 = .ok (.ifCond .ne 7, 3) := by decide +kernel
theorem dX1_isForbidden_22 : decode cX1_isForbidden 22 = .ok (.iconst 1, 1) := by decide +kernel
theorem dX1_isForbidden_23 : decode cX1_isForbidden 23 = .ok (.goto 4, 3) := by decide +kernel
theorem dX1_isForbidden_26 : decode cX1_isForbidden 26 = .ok (.iconst 0, 1) := by decide +kernel
theorem dX1_isForbidden_27 : decode cX1_isForbidden 27 = .ok (.ireturn, 1) := by decide +kernel
theorem dX1_forbidding_0 : decode cX1_forbidding 0 = .ok (.iconst 0, 1) := by decide +kernel
theorem dX1_forbidding_1 : decode cX1_forbidding 1 = .ok (.istore_n 1, 1) := by decide +kernel
theorem dX1_forbidding_2 : decode cX1_forbidding 2 = .ok (.iconst 0, 1) := by decide +kernel
theorem dX1_forbidding_3 : decode cX1_forbidding 3 = .ok (.istore_n 2, 1) := by decide +kernel
theorem dX1_forbidding_4 : decode cX1_forbidding 4 = .ok (.iload_n 2, 1) := by decide +kernel
theorem dX1_forbidding_5 : decode cX1_forbidding 5 = .ok (.sipush 140, 3) := by decide +kernel
theorem dX1_forbidding_8 : decode cX1_forbidding 8 = .ok (.if_icmp .ge 30, 3) := by decide +kernel
theorem dX1_forbidding_11 : decode cX1_forbidding 11 = .ok (.aload_n 0, 1) := by decide +kernel
theorem dX1_forbidding_12 : decode cX1_forbidding 12 = .ok (.getfield 15, 3) := by decide +kernel
theorem dX1_forbidding_15 : decode cX1_forbidding 15 = .ok (.iload_n 2, 1) := by decide +kernel
theorem dX1_forbidding_16 : decode cX1_forbidding 16 = .ok (.iaload, 1) := by decide +kernel
theorem dX1_forbidding_17 : decode cX1_forbidding 17 = .ok (.ifCond .le 15, 3) := by decide +kernel
theorem dX1_forbidding_20 : decode cX1_forbidding 20 = .ok (.aload_n 0, 1) := by decide +kernel
theorem dX1_forbidding_21 : decode cX1_forbidding 21 = .ok (.getfield 9, 3) := by decide +kernel
theorem dX1_forbidding_24 : decode cX1_forbidding 24 = .ok (.iload_n 2, 1) := by decide +kernel
theorem dX1_forbidding_25 : decode cX1_forbidding 25 = .ok (.iaload, 1) := by decide +kernel
theorem dX1_forbidding_26 : decode cX1_forbidding 26 = .ok (.ifCond .ne 6, 3) := by decide +kernel
theorem dX1_forbidding_29 : decode cX1_forbidding 29 = .ok (.iinc 1 1, 3) := by decide +kernel
theorem dX1_forbidding_32 : decode cX1_forbidding 32 = .ok (.iinc 2 1, 3) := by decide +kernel
theorem dX1_forbidding_35 : decode cX1_forbidding 35 = .ok (.goto (-31), 3) := by decide +kernel
theorem dX1_forbidding_38 : decode cX1_forbidding 38 = .ok (.iload_n 1, 1) := by decide +kernel
theorem dX1_forbidding_39 : decode cX1_forbidding 39 = .ok (.ireturn, 1) := by decide +kernel
theorem dX1_forbiddenDoings_0 : decode cX1_forbiddenDoings 0 = .ok (.iconst 0, 1) := by decide +kernel
theorem dX1_forbiddenDoings_1 : decode cX1_forbiddenDoings 1 = .ok (.istore_n 1, 1) := by decide +kernel
theorem dX1_forbiddenDoings_2 : decode cX1_forbiddenDoings 2 = .ok (.iconst 0, 1) := by decide +kernel
theorem dX1_forbiddenDoings_3 : decode cX1_forbiddenDoings 3 = .ok (.istore_n 2, 1) := by decide +kernel
theorem dX1_forbiddenDoings_4 : decode cX1_forbiddenDoings 4 = .ok (.iload_n 2, 1) := by decide +kernel
theorem dX1_forbiddenDoings_5 : decode cX1_forbiddenDoings 5 = .ok (.bipush 6, 2) := by decide +kernel
theorem dX1_forbiddenDoings_7 : decode cX1_forbiddenDoings 7 = .ok (.if_icmp .ge 35, 3) := by decide +kernel
theorem dX1_forbiddenDoings_10 : decode cX1_forbiddenDoings 10 = .ok (.iconst 0, 1) := by decide +kernel
theorem dX1_forbiddenDoings_11 : decode cX1_forbiddenDoings 11 = .ok (.istore_n 3, 1) := by decide +kernel
theorem dX1_forbiddenDoings_12 : decode cX1_forbiddenDoings 12 = .ok (.iload_n 3, 1) := by decide +kernel
theorem dX1_forbiddenDoings_13 : decode cX1_forbiddenDoings 13 = .ok (.bipush 20, 2) := by decide +kernel
theorem dX1_forbiddenDoings_15 : decode cX1_forbiddenDoings 15 = .ok (.if_icmp .ge 21, 3) := by decide +kernel
theorem dX1_forbiddenDoings_18 : decode cX1_forbiddenDoings 18 = .ok (.aload_n 0, 1) := by decide +kernel
theorem dX1_forbiddenDoings_19 : decode cX1_forbiddenDoings 19 = .ok (.iload_n 2, 1) := by decide +kernel
theorem dX1_forbiddenDoings_20 : decode cX1_forbiddenDoings 20 = .ok (.iload_n 3, 1) := by decide +kernel
theorem dX1_forbiddenDoings_21 : decode cX1_forbiddenDoings 21 = .ok (.invokevirtual 41, 3) := by decide +kernel
theorem dX1_forbiddenDoings_24 : decode cX1_forbiddenDoings 24 = .ok (.ifCond .eq 6, 3) := by decide +kernel
theorem dX1_forbiddenDoings_27 : decode cX1_forbiddenDoings 27 = .ok (.iinc 1 1, 3) := by decide +kernel
theorem dX1_forbiddenDoings_30 : decode cX1_forbiddenDoings 30 = .ok (.iinc 3 1, 3) := by decide +kernel
theorem dX1_forbiddenDoings_33 : decode cX1_forbiddenDoings 33 = .ok (.goto (-21), 3) := by decide +kernel
theorem dX1_forbiddenDoings_36 : decode cX1_forbiddenDoings 36 = .ok (.iinc 2 1, 3) := by decide +kernel
theorem dX1_forbiddenDoings_39 : decode cX1_forbiddenDoings 39 = .ok (.goto (-35), 3) := by decide +kernel
theorem dX1_forbiddenDoings_42 : decode cX1_forbiddenDoings 42 = .ok (.iload_n 1, 1) := by decide +kernel
theorem dX1_forbiddenDoings_43 : decode cX1_forbiddenDoings 43 = .ok (.ireturn, 1) := by decide +kernel
theorem dX1_oldestSpot_0 : decode cX1_oldestSpot 0 = .ok (.bipush (-5), 2) := by decide +kernel
theorem dX1_oldestSpot_2 : decode cX1_oldestSpot 2 = .ok (.istore_n 2, 1) := by decide +kernel
theorem dX1_oldestSpot_3 : decode cX1_oldestSpot 3 = .ok (.iconst 0, 1) := by decide +kernel
theorem dX1_oldestSpot_4 : decode cX1_oldestSpot 4 = .ok (.istore_n 3, 1) := by decide +kernel
theorem dX1_oldestSpot_5 : decode cX1_oldestSpot 5 = .ok (.iload_n 3, 1) := by decide +kernel
theorem dX1_oldestSpot_6 : decode cX1_oldestSpot 6 = .ok (.sipush 140, 3) := by decide +kernel
theorem dX1_oldestSpot_9 : decode cX1_oldestSpot 9 = .ok (.if_icmp .ge 60, 3) := by decide +kernel
theorem dX1_oldestSpot_12 : decode cX1_oldestSpot 12 = .ok (.aload_n 0, 1) := by decide +kernel
theorem dX1_oldestSpot_13 : decode cX1_oldestSpot 13 = .ok (.iload_n 1, 1) := by decide +kernel
theorem dX1_oldestSpot_14 : decode cX1_oldestSpot 14 = .ok (.iload_n 3, 1) := by decide +kernel
theorem dX1_oldestSpot_15 : decode cX1_oldestSpot 15 = .ok (.bipush 20, 2) := by decide +kernel
theorem dX1_oldestSpot_17 : decode cX1_oldestSpot 17 = .ok (.irem, 1) := by decide +kernel
theorem dX1_oldestSpot_18 : decode cX1_oldestSpot 18 = .ok (.invokevirtual 35, 3) := by decide +kernel
theorem dX1_oldestSpot_21 : decode cX1_oldestSpot 21 = .ok (.iload_n 3, 1) := by decide +kernel
theorem dX1_oldestSpot_22 : decode cX1_oldestSpot 22 = .ok (.bipush 20, 2) := by decide +kernel
theorem dX1_oldestSpot_24 : decode cX1_oldestSpot 24 = .ok (.idiv, 1) := by decide +kernel
theorem dX1_oldestSpot_25 : decode cX1_oldestSpot 25 = .ok (.if_icmp .ne 7, 3) := by decide +kernel
theorem dX1_oldestSpot_28 : decode cX1_oldestSpot 28 = .ok (.iconst 1, 1) := by decide +kernel
theorem dX1_oldestSpot_29 : decode cX1_oldestSpot 29 = .ok (.goto 4, 3) := by decide +kernel
theorem dX1_oldestSpot_32 : decode cX1_oldestSpot 32 = .ok (.iconst 0, 1) := by decide +kernel
theorem dX1_oldestSpot_33 : decode cX1_oldestSpot 33 = .ok (.istore 4, 2) := by decide +kernel
theorem dX1_oldestSpot_35 : decode cX1_oldestSpot 35 = .ok (.iload 4, 2) := by decide +kernel
theorem dX1_oldestSpot_37 : decode cX1_oldestSpot 37 = .ok (.ifCond .eq 26, 3) := by decide +kernel
theorem dX1_oldestSpot_40 : decode cX1_oldestSpot 40 = .ok (.iload_n 2, 1) := by decide +kernel
theorem dX1_oldestSpot_41 : decode cX1_oldestSpot 41 = .ok (.bipush (-5), 2) := by decide +kernel
theorem dX1_oldestSpot_43 : decode cX1_oldestSpot 43 = .ok (.if_icmp .eq 18, 3) := by decide +kernel
theorem dX1_oldestSpot_46 : decode cX1_oldestSpot 46 = .ok (.aload_n 0, 1) := by decide +kernel
theorem dX1_oldestSpot_47 : decode cX1_oldestSpot 47 = .ok (.getfield 18, 3) := by decide +kernel
theorem dX1_oldestSpot_50 : decode cX1_oldestSpot 50 = .ok (.iload_n 3, 1) := by decide +kernel
theorem dX1_oldestSpot_51 : decode cX1_oldestSpot 51 = .ok (.iaload, 1) := by decide +kernel
theorem dX1_oldestSpot_52 : decode cX1_oldestSpot 52 = .ok (.aload_n 0, 1) := by decide +kernel
theorem dX1_oldestSpot_53 : decode cX1_oldestSpot 53 = .ok (.getfield 18, 3) := by decide +kernel
theorem dX1_oldestSpot_56 : decode cX1_oldestSpot 56 = .ok (.iload_n 2, 1) := by decide +kernel
theorem dX1_oldestSpot_57 : decode cX1_oldestSpot 57 = .ok (.iaload, 1) := by decide +kernel
theorem dX1_oldestSpot_58 : decode cX1_oldestSpot 58 = .ok (.if_icmp .ge 5, 3) := by decide +kernel
theorem dX1_oldestSpot_61 : decode cX1_oldestSpot 61 = .ok (.iload_n 3, 1) := by decide +kernel
theorem dX1_oldestSpot_62 : decode cX1_oldestSpot 62 = .ok (.istore_n 2, 1) := by decide +kernel
theorem dX1_oldestSpot_63 : decode cX1_oldestSpot 63 = .ok (.iinc 3 1, 3) := by decide +kernel
theorem dX1_oldestSpot_66 : decode cX1_oldestSpot 66 = .ok (.goto (-61), 3) := by decide +kernel
theorem dX1_oldestSpot_69 : decode cX1_oldestSpot 69 = .ok (.iload_n 2, 1) := by decide +kernel
theorem dX1_oldestSpot_70 : decode cX1_oldestSpot 70 = .ok (.ireturn, 1) := by decide +kernel
theorem dX2_init_0 : decode cX2_init 0 = .ok (.aload_n 0, 1) := by decide +kernel
theorem dX2_init_1 : decode cX2_init 1 = .ok (.invokespecial 3, 3) := by decide +kernel
theorem dX2_init_4 : decode cX2_init 4 = .ok (.aload_n 0, 1) := by decide +kernel
theorem dX2_init_5 : decode cX2_init 5 = .ok (.bipush 60, 2) := by decide +kernel
theorem dX2_init_7 : decode cX2_init 7 = .ok (.newarray .char, 2) := by decide +kernel
theorem dX2_init_9 : decode cX2_init 9 = .ok (.putfield 9, 3) := by decide +kernel
theorem dX2_init_12 : decode cX2_init 12 = .ok (.aload_n 0, 1) := by decide +kernel
theorem dX2_init_13 : decode cX2_init 13 = .ok (.bipush 20, 2) := by decide +kernel
theorem dX2_init_15 : decode cX2_init 15 = .ok (.newarray .int, 2) := by decide +kernel
theorem dX2_init_17 : decode cX2_init 17 = .ok (.putfield 15, 3) := by decide +kernel
theorem dX2_init_20 : decode cX2_init 20 = .ok (.aload_n 0, 1) := by decide +kernel
theorem dX2_init_21 : decode cX2_init 21 = .ok (.bipush 20, 2) := by decide +kernel
theorem dX2_init_23 : decode cX2_init 23 = .ok (.newarray .int, 2) := by decide +kernel
theorem dX2_init_25 : decode cX2_init 25 = .ok (.putfield 19, 3) := by decide +kernel
theorem dX2_init_28 : decode cX2_init 28 = .ok (.aload_n 0, 1) := by decide +kernel
theorem dX2_init_29 : decode cX2_init 29 = .ok (.bipush 20, 2) := by decide +kernel
theorem dX2_init_31 : decode cX2_init 31 = .ok (.newarray .int, 2) := by decide +kernel
theorem dX2_init_33 : decode cX2_init 33 = .ok (.putfield 22, 3) := by decide +kernel
theorem dX2_init_36 : decode cX2_init 36 = .ok (.aload_n 0, 1) := by decide +kernel
theorem dX2_init_37 : decode cX2_init 37 = .ok (.bipush 20, 2) := by decide +kernel
theorem dX2_init_39 : decode cX2_init 39 = .ok (.newarray .int, 2) := by decide +kernel
theorem dX2_init_41 : decode cX2_init 41 = .ok (.putfield 25, 3) := by decide +kernel
theorem dX2_init_44 : decode cX2_init 44 = .ok (.aload_n 0, 1) := by decide +kernel
theorem dX2_init_45 : decode cX2_init 45 = .ok (.bipush 20, 2) := by decide +kernel
theorem dX2_init_47 : decode cX2_init 47 = .ok (.newarray .int, 2) := by decide +kernel
theorem dX2_init_49 : decode cX2_init 49 = .ok (.putfield 28, 3) := by decide +kernel
theorem dX2_init_52 : decode cX2_init 52 = .ok (.return_, 1) := by decide +kernel
theorem dX3_init_0 : decode cX3_init 0 = .ok (.aload_n 0, 1) := by decide +kernel
theorem dX3_init_1 : decode cX3_init 1 = .ok (.invokespecial 3, 3) := by decide +kernel
theorem dX3_init_4 : decode cX3_init 4 = .ok (.aload_n 0, 1) := by decide +kernel
theorem dX3_init_5 : decode cX3_init 5 = .ok (.bipush 12, 2) := by decide +kernel
theorem dX3_init_7 : decode cX3_init 7 = .ok (.newarray .int, 2) := by decide +kernel
theorem dX3_init_9 : decode cX3_init 9 = .ok (.putfield 9, 3) := by decide +kernel
theorem dX3_init_12 : decode cX3_init 12 = .ok (.aload_n 0, 1) := by decide +kernel
theorem dX3_init_13 : decode cX3_init 13 = .ok (.bipush 12, 2) := by decide +kernel
theorem dX3_init_15 : decode cX3_init 15 = .ok (.newarray .int, 2) := by decide +kernel
theorem dX3_init_17 : decode cX3_init 17 = .ok (.putfield 15, 3) := by decide +kernel
theorem dX3_init_20 : decode cX3_init 20 = .ok (.aload_n 0, 1) := by decide +kernel
theorem dX3_init_21 : decode cX3_init 21 = .ok (.bipush 12, 2) := by decide +kernel
theorem dX3_init_23 : decode cX3_init 23 = .ok (.newarray .int, 2) := by decide +kernel
theorem dX3_init_25 : decode cX3_init 25 = .ok (.putfield 18, 3) := by decide +kernel
theorem dX3_init_28 : decode cX3_init 28 = .ok (.aload_n 0, 1) := by decide +kernel
theorem dX3_init_29 : decode cX3_init 29 = .ok (.bipush 12, 2) := by decide +kernel
theorem dX3_init_31 : decode cX3_init 31 = .ok (.newarray .int, 2) := by decide +kernel
theorem dX3_init_33 : decode cX3_init 33 = .ok (.putfield 21, 3) := by decide +kernel
theorem dX3_init_36 : decode cX3_init 36 = .ok (.aload_n 0, 1) := by decide +kernel
theorem dX3_init_37 : decode cX3_init 37 = .ok (.bipush 12, 2) := by decide +kernel
theorem dX3_init_39 : decode cX3_init 39 = .ok (.newarray .int, 2) := by decide +kernel
theorem dX3_init_41 : decode cX3_init 41 = .ok (.putfield 24, 3) := by decide +kernel
theorem dX3_init_44 : decode cX3_init 44 = .ok (.aload_n 0, 1) := by decide +kernel
theorem dX3_init_45 : decode cX3_init 45 = .ok (.bipush 12, 2) := by decide +kernel
theorem dX3_init_47 : decode cX3_init 47 = .ok (.newarray .int, 2) := by decide +kernel
theorem dX3_init_49 : decode cX3_init 49 = .ok (.putfield 27, 3) := by decide +kernel
theorem dX3_init_52 : decode cX3_init 52 = .ok (.return_, 1) := by decide +kernel
theorem dX3_copyFrom_0 : decode cX3_copyFrom 0 = .ok (.aload_n 0, 1) := by decide +kernel
theorem dX3_copyFrom_1 : decode cX3_copyFrom 1 = .ok (.aload_n 1, 1) := by decide +kernel
theorem dX3_copyFrom_2 : decode cX3_copyFrom 2 = .ok (.getfield 30, 3) := by decide +kernel
theorem dX3_copyFrom_5 : decode cX3_copyFrom 5 = .ok (.putfield 30, 3) := by decide +kernel
theorem dX3_copyFrom_8 : decode cX3_copyFrom 8 = .ok (.aload_n 1, 1) := by decide +kernel
theorem dX3_copyFrom_9 : decode cX3_copyFrom 9 = .ok (.getfield 9, 3) := by decide +kernel
theorem dX3_copyFrom_12 : decode cX3_copyFrom 12 = .ok (.iconst 0, 1) := by decide +kernel
theorem dX3_copyFrom_13 : decode cX3_copyFrom 13 = .ok (.aload_n 0, 1) := by decide +kernel
theorem dX3_copyFrom_14 : decode cX3_copyFrom 14 = .ok (.getfield 9, 3) := by decide +kernel
theorem dX3_copyFrom_17 : decode cX3_copyFrom 17 = .ok (.iconst 0, 1) := by decide +kernel
theorem dX3_copyFrom_18 : decode cX3_copyFrom 18 = .ok (.bipush 12, 2) := by decide +kernel
theorem dX3_copyFrom_20 : decode cX3_copyFrom 20 = .ok (.invokestatic 34, 3) := by decide +kernel
theorem dX3_copyFrom_23 : decode cX3_copyFrom 23 = .ok (.aload_n 1, 1) := by decide +kernel
theorem dX3_copyFrom_24 : decode cX3_copyFrom 24 = .ok (.getfield 15, 3) := by decide +kernel
theorem dX3_copyFrom_27 : decode cX3_copyFrom 27 = .ok (.iconst 0, 1) := by decide +kernel
theorem dX3_copyFrom_28 : decode cX3_copyFrom 28 = .ok (.aload_n 0, 1) := by decide +kernel
theorem dX3_copyFrom_29 : decode cX3_copyFrom 29 = .ok (.getfield 15, 3) := by decide +kernel
theorem dX3_copyFrom_32 : decode cX3_copyFrom 32 = .ok (.iconst 0, 1) := by decide +kernel
theorem dX3_copyFrom_33 : decode cX3_copyFrom 33 = .ok (.bipush 12, 2) := by decide +kernel
theorem dX3_copyFrom_35 : decode cX3_copyFrom 35 = .ok (.invokestatic 34, 3) := by decide +kernel
theorem dX3_copyFrom_38 : decode cX3_copyFrom 38 = .ok (.aload_n 1, 1) := by decide +kernel
theorem dX3_copyFrom_39 : decode cX3_copyFrom 39 = .ok (.getfield 18, 3) := by decide +kernel
theorem dX3_copyFrom_42 : decode cX3_copyFrom 42 = .ok (.iconst 0, 1) := by decide +kernel
theorem dX3_copyFrom_43 : decode cX3_copyFrom 43 = .ok (.aload_n 0, 1) := by decide +kernel
theorem dX3_copyFrom_44 : decode cX3_copyFrom 44 = .ok (.getfield 18, 3) := by decide +kernel
theorem dX3_copyFrom_47 : decode cX3_copyFrom 47 = .ok (.iconst 0, 1) := by decide +kernel
theorem dX3_copyFrom_48 : decode cX3_copyFrom 48 = .ok (.bipush 12, 2) := by decide +kernel
theorem dX3_copyFrom_50 : decode cX3_copyFrom 50 = .ok (.invokestatic 34, 3) := by decide +kernel
theorem dX3_copyFrom_53 : decode cX3_copyFrom 53 = .ok (.aload_n 1, 1) := by decide +kernel
theorem dX3_copyFrom_54 : decode cX3_copyFrom 54 = .ok (.getfield 21, 3) := by decide +kernel
theorem dX3_copyFrom_57 : decode cX3_copyFrom 57 = .ok (.iconst 0, 1) := by decide +kernel
theorem dX3_copyFrom_58 : decode cX3_copyFrom 58 = .ok (.aload_n 0, 1) := by decide +kernel
theorem dX3_copyFrom_59 : decode cX3_copyFrom 59 = .ok (.getfield 21, 3) := by decide +kernel
theorem dX3_copyFrom_62 : decode cX3_copyFrom 62 = .ok (.iconst 0, 1) := by decide +kernel
theorem dX3_copyFrom_63 : decode cX3_copyFrom 63 = .ok (.bipush 12, 2) := by decide +kernel
theorem dX3_copyFrom_65 : decode cX3_copyFrom 65 = .ok (.invokestatic 34, 3) := by decide +kernel
theorem dX3_copyFrom_68 : decode cX3_copyFrom 68 = .ok (.aload_n 1, 1) := by decide +kernel
theorem dX3_copyFrom_69 : decode cX3_copyFrom 69 = .ok (.getfield 24, 3) := by decide +kernel
theorem dX3_copyFrom_72 : decode cX3_copyFrom 72 = .ok (.iconst 0, 1) := by decide +kernel
theorem dX3_copyFrom_73 : decode cX3_copyFrom 73 = .ok (.aload_n 0, 1) := by decide +kernel
theorem dX3_copyFrom_74 : decode cX3_copyFrom 74 = .ok (.getfield 24, 3) := by decide +kernel
theorem dX3_copyFrom_77 : decode cX3_copyFrom 77 = .ok (.iconst 0, 1) := by decide +kernel
theorem dX3_copyFrom_78 : decode cX3_copyFrom 78 = .ok (.bipush 12, 2) := by decide +kernel
theorem dX3_copyFrom_80 : decode cX3_copyFrom 80 = .ok (.invokestatic 34, 3) := by decide +kernel
theorem dX3_copyFrom_83 : decode cX3_copyFrom 83 = .ok (.aload_n 1, 1) := by decide +kernel
theorem dX3_copyFrom_84 : decode cX3_copyFrom 84 = .ok (.getfield 27, 3) := by decide +kernel
theorem dX3_copyFrom_87 : decode cX3_copyFrom 87 = .ok (.iconst 0, 1) := by decide +kernel
theorem dX3_copyFrom_88 : decode cX3_copyFrom 88 = .ok (.aload_n 0, 1) := by decide +kernel
theorem dX3_copyFrom_89 : decode cX3_copyFrom 89 = .ok (.getfield 27, 3) := by decide +kernel
theorem dX3_copyFrom_92 : decode cX3_copyFrom 92 = .ok (.iconst 0, 1) := by decide +kernel
theorem dX3_copyFrom_93 : decode cX3_copyFrom 93 = .ok (.bipush 12, 2) := by decide +kernel
theorem dX3_copyFrom_95 : decode cX3_copyFrom 95 = .ok (.invokestatic 34, 3) := by decide +kernel
theorem dX3_copyFrom_98 : decode cX3_copyFrom 98 = .ok (.return_, 1) := by decide +kernel
theorem dX3_has_0 : decode cX3_has 0 = .ok (.iload_n 1, 1) := by decide +kernel
theorem dX3_has_1 : decode cX3_has 1 = .ok (.ifCond .lt 15, 3) := by decide +kernel
theorem dX3_has_4 : decode cX3_has 4 = .ok (.iload_n 1, 1) := by decide +kernel
theorem dX3_has_5 : decode cX3_has 5 = .ok (.aload_n 0, 1) := by decide +kernel
theorem dX3_has_6 : decode cX3_has 6 = .ok (.getfield 30, 3) := by decide +kernel
theorem dX3_has_9 : decode cX3_has 9 = .ok (.if_icmp .ge 7, 3) := by decide +kernel
theorem dX3_has_12 : decode cX3_has 12 = .ok (.iconst 1, 1) := by decide +kernel
theorem dX3_has_13 : decode cX3_has 13 = .ok (.goto 4, 3) := by decide +kernel
theorem dX3_has_16 : decode cX3_has 16 = .ok (.iconst 0, 1) := by decide +kernel
theorem dX3_has_17 : decode cX3_has 17 = .ok (.ireturn, 1) := by decide +kernel
theorem dX3_add_0 : decode cX3_add 0 = .ok (.aload_n 0, 1) := by decide +kernel
theorem dX3_add_1 : decode cX3_add 1 = .ok (.getfield 9, 3) := by decide +kernel
theorem dX3_add_4 : decode cX3_add 4 = .ok (.aload_n 0, 1) := by decide +kernel
theorem dX3_add_5 : decode cX3_add 5 = .ok (.getfield 30, 3) := by decide +kernel
theorem dX3_add_8 : decode cX3_add 8 = .ok (.iload_n 1, 1) := by decide +kernel
theorem dX3_add_9 : decode cX3_add 9 = .ok (.iastore, 1) := by decide +kernel
theorem dX3_add_10 : decode cX3_add 10 = .ok (.aload_n 0, 1) := by decide +kernel
theorem dX3_add_11 : decode cX3_add 11 = .ok (.getfield 15, 3) := by decide +kernel
theorem dX3_add_14 : decode cX3_add 14 = .ok (.aload_n 0, 1) := by decide +kernel
theorem dX3_add_15 : decode cX3_add 15 = .ok (.getfield 30, 3) := by decide +kernel
theorem dX3_add_18 : decode cX3_add 18 = .ok (.iload_n 2, 1) := by decide +kernel
theorem dX3_add_19 : decode cX3_add 19 = .ok (.iastore, 1) := by decide +kernel
theorem dX3_add_20 : decode cX3_add 20 = .ok (.aload_n 0, 1) := by decide +kernel
theorem dX3_add_21 : decode cX3_add 21 = .ok (.getfield 18, 3) := by decide +kernel
theorem dX3_add_24 : decode cX3_add 24 = .ok (.aload_n 0, 1) := by decide +kernel
theorem dX3_add_25 : decode cX3_add 25 = .ok (.getfield 30, 3) := by decide +kernel
theorem dX3_add_28 : decode cX3_add 28 = .ok (.iload_n 3, 1) := by decide +kernel
theorem dX3_add_29 : decode cX3_add 29 = .ok (.iastore, 1) := by decide +kernel
theorem dX3_add_30 : decode cX3_add 30 = .ok (.aload_n 0, 1) := by decide +kernel
theorem dX3_add_31 : decode cX3_add 31 = .ok (.getfield 21, 3) := by decide +kernel
theorem dX3_add_34 : decode cX3_add 34 = .ok (.aload_n 0, 1) := by decide +kernel
theorem dX3_add_35 : decode cX3_add 35 = .ok (.getfield 30, 3) := by decide +kernel
theorem dX3_add_38 : decode cX3_add 38 = .ok (.iload 4, 2) := by decide +kernel
theorem dX3_add_40 : decode cX3_add 40 = .ok (.iastore, 1) := by decide +kernel
theorem dX3_add_41 : decode cX3_add 41 = .ok (.aload_n 0, 1) := by decide +kernel
theorem dX3_add_42 : decode cX3_add 42 = .ok (.getfield 24, 3) := by decide +kernel
theorem dX3_add_45 : decode cX3_add 45 = .ok (.aload_n 0, 1) := by decide +kernel
theorem dX3_add_46 : decode cX3_add 46 = .ok (.getfield 30, 3) := by decide +kernel
theorem dX3_add_49 : decode cX3_add 49 = .ok (.iload 5, 2) := by decide +kernel
theorem dX3_add_51 : decode cX3_add 51 = .ok (.iastore, 1) := by decide +kernel
theorem dX3_add_52 : decode cX3_add 52 = .ok (.aload_n 0, 1) := by decide +kernel
theorem dX3_add_53 : decode cX3_add 53 = .ok (.getfield 27, 3) := by decide +kernel
theorem dX3_add_56 : decode cX3_add 56 = .ok (.aload_n 0, 1) := by decide +kernel
theorem dX3_add_57 : decode cX3_add 57 = .ok (.getfield 30, 3) := by decide +kernel
theorem dX3_add_60 : decode cX3_add 60 = .ok (.iconst 0, 1) := by decide +kernel
theorem dX3_add_61 : decode cX3_add 61 = .ok (.iastore, 1) := by decide +kernel
theorem dX3_add_62 : decode cX3_add 62 = .ok (.aload_n 0, 1) := by decide +kernel
theorem dX3_add_63 : decode cX3_add 63 = .ok (.dup, 1) := by decide +kernel
theorem dX3_add_64 : decode cX3_add 64 = .ok (.getfield 30, 3) := by decide +kernel
theorem dX3_add_67 : decode cX3_add 67 = .ok (.iconst 1, 1) := by decide +kernel
theorem dX3_add_68 : decode cX3_add 68 = .ok (.iadd, 1) := by decide +kernel
theorem dX3_add_69 : decode cX3_add 69 = .ok (.putfield 30, 3) := by decide +kernel
theorem dX3_add_72 : decode cX3_add 72 = .ok (.aload_n 0, 1) := by decide +kernel
theorem dX3_add_73 : decode cX3_add 73 = .ok (.getfield 30, 3) := by decide +kernel
theorem dX3_add_76 : decode cX3_add 76 = .ok (.iconst 1, 1) := by decide +kernel
theorem dX3_add_77 : decode cX3_add 77 = .ok (.isub, 1) := by decide +kernel
theorem dX3_add_78 : decode cX3_add 78 = .ok (.ireturn, 1) := by decide +kernel
theorem dX3_madeBy_0 : decode cX3_madeBy 0 = .ok (.iconst 0, 1) := by decide +kernel
theorem dX3_madeBy_1 : decode cX3_madeBy 1 = .ok (.istore_n 2, 1) := by decide +kernel
theorem dX3_madeBy_2 : decode cX3_madeBy 2 = .ok (.iload_n 2, 1) := by decide +kernel
theorem dX3_madeBy_3 : decode cX3_madeBy 3 = .ok (.aload_n 0, 1) := by decide +kernel
theorem dX3_madeBy_4 : decode cX3_madeBy 4 = .ok (.getfield 30, 3) := by decide +kernel
theorem dX3_madeBy_7 : decode cX3_madeBy 7 = .ok (.if_icmp .ge 21, 3) := by decide +kernel
theorem dX3_madeBy_10 : decode cX3_madeBy 10 = .ok (.aload_n 0, 1) := by decide +kernel
theorem dX3_madeBy_11 : decode cX3_madeBy 11 = .ok (.getfield 9, 3) := by decide +kernel
theorem dX3_madeBy_14 : decode cX3_madeBy 14 = .ok (.iload_n 2, 1) := by decide +kernel
theorem dX3_madeBy_15 : decode cX3_madeBy 15 = .ok (.iaload, 1) := by decide +kernel
theorem dX3_madeBy_16 : decode cX3_madeBy 16 = .ok (.iload_n 1, 1) := by decide +kernel
theorem dX3_madeBy_17 : decode cX3_madeBy 17 = .ok (.if_icmp .ne 5, 3) := by decide +kernel
theorem dX3_madeBy_20 : decode cX3_madeBy 20 = .ok (.iload_n 2, 1) := by decide +kernel
theorem dX3_madeBy_21 : decode cX3_madeBy 21 = .ok (.ireturn, 1) := by decide +kernel
theorem dX3_madeBy_22 : decode cX3_madeBy 22 = .ok (.iinc 2 1, 3) := by decide +kernel
theorem dX3_madeBy_25 : decode cX3_madeBy 25 = .ok (.goto (-23), 3) := by decide +kernel
theorem dX3_madeBy_28 : decode cX3_madeBy 28 = .ok (.bipush (-5), 2) := by decide +kernel
theorem dX3_madeBy_30 : decode cX3_madeBy 30 = .ok (.ireturn, 1) := by decide +kernel
theorem dX3_makers_0 : decode cX3_makers 0 = .ok (.iconst 0, 1) := by decide +kernel
theorem dX3_makers_1 : decode cX3_makers 1 = .ok (.istore_n 1, 1) := by decide +kernel
theorem dX3_makers_2 : decode cX3_makers 2 = .ok (.iconst 0, 1) := by decide +kernel
theorem dX3_makers_3 : decode cX3_makers 3 = .ok (.istore_n 2, 1) := by decide +kernel
theorem dX3_makers_4 : decode cX3_makers 4 = .ok (.iload_n 2, 1) := by decide +kernel
theorem dX3_makers_5 : decode cX3_makers 5 = .ok (.aload_n 0, 1) := by decide +kernel
theorem dX3_makers_6 : decode cX3_makers 6 = .ok (.getfield 30, 3) := by decide +kernel
theorem dX3_makers_9 : decode cX3_makers 9 = .ok (.if_icmp .ge 20, 3) := by decide +kernel
theorem dX3_makers_12 : decode cX3_makers 12 = .ok (.iload_n 1, 1) := by decide +kernel
theorem dX3_makers_13 : decode cX3_makers 13 = .ok (.iconst 1, 1) := by decide +kernel
theorem dX3_makers_14 : decode cX3_makers 14 = .ok (.aload_n 0, 1) := by decide +kernel
theorem dX3_makers_15 : decode cX3_makers 15 = .ok (.getfield 9, 3) := by decide +kernel
theorem dX3_makers_18 : decode cX3_makers 18 = .ok (.iload_n 2, 1) := by decide +kernel
theorem dX3_makers_19 : decode cX3_makers 19 = .ok (.iaload, 1) := by decide +kernel
theorem dX3_makers_20 : decode cX3_makers 20 = .ok (.ishl, 1) := by decide +kernel
theorem dX3_makers_21 : decode cX3_makers 21 = .ok (.ior, 1) := by decide +kernel
theorem dX3_makers_22 : decode cX3_makers 22 = .ok (.istore_n 1, 1) := by decide +kernel
theorem dX3_makers_23 : decode cX3_makers 23 = .ok (.iinc 2 1, 3) := by decide +kernel
theorem dX3_makers_26 : decode cX3_makers 26 = .ok (.goto (-22), 3) := by decide +kernel
theorem dX3_makers_29 : decode cX3_makers 29 = .ok (.iload_n 1, 1) := by decide +kernel
theorem dX3_makers_30 : decode cX3_makers 30 = .ok (.ireturn, 1) := by decide +kernel
theorem dX3_secondedBy_0 : decode cX3_secondedBy 0 = .ok (.iconst 0, 1) := by decide +kernel
theorem dX3_secondedBy_1 : decode cX3_secondedBy 1 = .ok (.istore_n 2, 1) := by decide +kernel
theorem dX3_secondedBy_2 : decode cX3_secondedBy 2 = .ok (.iconst 0, 1) := by decide +kernel
theorem dX3_secondedBy_3 : decode cX3_secondedBy 3 = .ok (.istore_n 3, 1) := by decide +kernel
theorem dX3_secondedBy_4 : decode cX3_secondedBy 4 = .ok (.iload_n 3, 1) := by decide +kernel
theorem dX3_secondedBy_5 : decode cX3_secondedBy 5 = .ok (.aload_n 0, 1) := by decide +kernel
theorem dX3_secondedBy_6 : decode cX3_secondedBy 6 = .ok (.getfield 30, 3) := by decide +kernel
theorem dX3_secondedBy_9 : decode cX3_secondedBy 9 = .ok (.if_icmp .ge 28, 3) := by decide +kernel
theorem dX3_secondedBy_12 : decode cX3_secondedBy 12 = .ok (.aload_n 0, 1) := by decide +kernel
theorem dX3_secondedBy_13 : decode cX3_secondedBy 13 = .ok (.getfield 27, 3) := by decide +kernel
theorem dX3_secondedBy_16 : decode cX3_secondedBy 16 = .ok (.iload_n 3, 1) := by decide +kernel
theorem dX3_secondedBy_17 : decode cX3_secondedBy 17 = .ok (.iaload, 1) := by decide +kernel
theorem dX3_secondedBy_18 : decode cX3_secondedBy 18 = .ok (.iload_n 1, 1) := by decide +kernel
theorem dX3_secondedBy_19 : decode cX3_secondedBy 19 = .ok (.ishr, 1) := by decide +kernel
theorem dX3_secondedBy_20 : decode cX3_secondedBy 20 = .ok (.iconst 1, 1) := by decide +kernel
theorem dX3_secondedBy_21 : decode cX3_secondedBy 21 = .ok (.iand, 1) := by decide +kernel
theorem dX3_secondedBy_22 : decode cX3_secondedBy 22 = .ok (.ifCond .eq 9, 3) := by decide +kernel
theorem dX3_secondedBy_25 : decode cX3_secondedBy 25 = .ok (.iload_n 2, 1) := by decide +kernel
theorem dX3_secondedBy_26 : decode cX3_secondedBy 26 = .ok (.iconst 1, 1) := by decide +kernel
theorem dX3_secondedBy_27 : decode cX3_secondedBy 27 = .ok (.iload_n 3, 1) := by decide +kernel
theorem dX3_secondedBy_28 : decode cX3_secondedBy 28 = .ok (.ishl, 1) := by decide +kernel
theorem dX3_secondedBy_29 : decode cX3_secondedBy 29 = .ok (.ior, 1) := by decide +kernel
theorem dX3_secondedBy_30 : decode cX3_secondedBy 30 = .ok (.istore_n 2, 1) := by decide +kernel
theorem dX3_secondedBy_31 : decode cX3_secondedBy 31 = .ok (.iinc 3 1, 3) := by decide +kernel
theorem dX3_secondedBy_34 : decode cX3_secondedBy 34 = .ok (.goto (-30), 3) := by decide +kernel
theorem dX3_secondedBy_37 : decode cX3_secondedBy 37 = .ok (.iload_n 2, 1) := by decide +kernel
theorem dX3_secondedBy_38 : decode cX3_secondedBy 38 = .ok (.ireturn, 1) := by decide +kernel
theorem dX3_atRank_0 : decode cX3_atRank 0 = .ok (.iconst 0, 1) := by decide +kernel
theorem dX3_atRank_1 : decode cX3_atRank 1 = .ok (.istore_n 2, 1) := by decide +kernel
theorem dX3_atRank_2 : decode cX3_atRank 2 = .ok (.iload_n 2, 1) := by decide +kernel
theorem dX3_atRank_3 : decode cX3_atRank 3 = .ok (.aload_n 0, 1) := by decide +kernel
theorem dX3_atRank_4 : decode cX3_atRank 4 = .ok (.getfield 30, 3) := by decide +kernel
theorem dX3_atRank_7 : decode cX3_atRank 7 = .ok (.if_icmp .ge 20, 3) := by decide +kernel
theorem dX3_atRank_10 : decode cX3_atRank 10 = .ok (.aload_n 0, 1) := by decide +kernel
theorem dX3_atRank_11 : decode cX3_atRank 11 = .ok (.iload_n 2, 1) := by decide +kernel
theorem dX3_atRank_12 : decode cX3_atRank 12 = .ok (.invokevirtual 40, 3) := by decide +kernel
theorem dX3_atRank_15 : decode cX3_atRank 15 = .ok (.iload_n 1, 1) := by decide +kernel
theorem dX3_atRank_16 : decode cX3_atRank 16 = .ok (.if_icmp .ne 5, 3) := by decide +kernel
theorem dX3_atRank_19 : decode cX3_atRank 19 = .ok (.iload_n 2, 1) := by decide +kernel
theorem dX3_atRank_20 : decode cX3_atRank 20 = .ok (.ireturn, 1) := by decide +kernel
theorem dX3_atRank_21 : decode cX3_atRank 21 = .ok (.iinc 2 1, 3) := by decide +kernel
theorem dX3_atRank_24 : decode cX3_atRank 24 = .ok (.goto (-22), 3) := by decide +kernel
theorem dX3_atRank_27 : decode cX3_atRank 27 = .ok (.bipush (-5), 2) := by decide +kernel
theorem dX3_atRank_29 : decode cX3_atRank 29 = .ok (.ireturn, 1) := by decide +kernel
theorem dX3_rankOf_0 : decode cX3_rankOf 0 = .ok (.iconst 0, 1) := by decide +kernel
theorem dX3_rankOf_1 : decode cX3_rankOf 1 = .ok (.istore_n 2, 1) := by decide +kernel
theorem dX3_rankOf_2 : decode cX3_rankOf 2 = .ok (.iconst 0, 1) := by decide +kernel
theorem dX3_rankOf_3 : decode cX3_rankOf 3 = .ok (.istore_n 3, 1) := by decide +kernel
theorem dX3_rankOf_4 : decode cX3_rankOf 4 = .ok (.iload_n 3, 1) := by decide +kernel
theorem dX3_rankOf_5 : decode cX3_rankOf 5 = .ok (.aload_n 0, 1) := by decide +kernel
theorem dX3_rankOf_6 : decode cX3_rankOf 6 = .ok (.getfield 30, 3) := by decide +kernel
theorem dX3_rankOf_9 : decode cX3_rankOf 9 = .ok (.if_icmp .ge 71, 3) := by decide +kernel
theorem dX3_rankOf_12 : decode cX3_rankOf 12 = .ok (.aload_n 0, 1) := by decide +kernel
theorem dX3_rankOf_13 : decode cX3_rankOf 13 = .ok (.getfield 24, 3) := by decide +kernel
theorem dX3_rankOf_16 : decode cX3_rankOf 16 = .ok (.iload_n 3, 1) := by decide +kernel
theorem dX3_rankOf_17 : decode cX3_rankOf 17 = .ok (.iaload, 1) := by decide +kernel
theorem dX3_rankOf_18 : decode cX3_rankOf 18 = .ok (.aload_n 0, 1) := by decide +kernel
theorem dX3_rankOf_19 : decode cX3_rankOf 19 = .ok (.getfield 24, 3) := by decide +kernel
theorem dX3_rankOf_22 : decode cX3_rankOf 22 = .ok (.iload_n 1, 1) := by decide +kernel
theorem dX3_rankOf_23 : decode cX3_rankOf 23 = .ok (.iaload, 1) := by decide +kernel
theorem dX3_rankOf_24 : decode cX3_rankOf 24 = .ok (.if_icmp .le 7, 3) := by decide +kernel
theorem dX3_rankOf_27 : decode cX3_rankOf 27 = .ok (.iconst 1, 1) := by decide +kernel
theorem dX3_rankOf_28 : decode cX3_rankOf 28 = .ok (.goto 4, 3) := by decide +kernel
theorem dX3_rankOf_31 : decode cX3_rankOf 31 = .ok (.iconst 0, 1) := by decide +kernel
theorem dX3_rankOf_32 : decode cX3_rankOf 32 = .ok (.istore 4, 2) := by decide +kernel
theorem dX3_rankOf_34 : decode cX3_rankOf 34 = .ok (.aload_n 0, 1) := by decide +kernel
theorem dX3_rankOf_35 : decode cX3_rankOf 35 = .ok (.getfield 24, 3) := by decide +kernel
theorem dX3_rankOf_38 : decode cX3_rankOf 38 = .ok (.iload_n 3, 1) := by decide +kernel
theorem dX3_rankOf_39 : decode cX3_rankOf 39 = .ok (.iaload, 1) := by decide +kernel
theorem dX3_rankOf_40 : decode cX3_rankOf 40 = .ok (.aload_n 0, 1) := by decide +kernel
theorem dX3_rankOf_41 : decode cX3_rankOf 41 = .ok (.getfield 24, 3) := by decide +kernel
theorem dX3_rankOf_44 : decode cX3_rankOf 44 = .ok (.iload_n 1, 1) := by decide +kernel
theorem dX3_rankOf_45 : decode cX3_rankOf 45 = .ok (.iaload, 1) := by decide +kernel
theorem dX3_rankOf_46 : decode cX3_rankOf 46 = .ok (.if_icmp .ne 12, 3) := by decide +kernel
theorem dX3_rankOf_49 : decode cX3_rankOf 49 = .ok (.iload_n 3, 1) := by decide +kernel
theorem dX3_rankOf_50 : decode cX3_rankOf 50 = .ok (.iload_n 1, 1) := by decide +kernel
theorem dX3_rankOf_51 : decode cX3_rankOf 51 = .ok (.if_icmp .ge 7, 3) := by decide +kernel
theorem dX3_rankOf_54 : decode cX3_rankOf 54 = .ok (.iconst 1, 1) := by decide +kernel
theorem dX3_rankOf_55 : decode cX3_rankOf 55 = .ok (.goto 4, 3) := by decide +kernel
theorem dX3_rankOf_58 : decode cX3_rankOf 58 = .ok (.iconst 0, 1) := by decide +kernel
theorem dX3_rankOf_59 : decode cX3_rankOf 59 = .ok (.istore 5, 2) := by decide +kernel
theorem dX3_rankOf_61 : decode cX3_rankOf 61 = .ok (.iload 4, 2) := by decide +kernel
theorem dX3_rankOf_63 : decode cX3_rankOf 63 = .ok (.ifCond .ne 8, 3) := by decide +kernel
theorem dX3_rankOf_66 : decode cX3_rankOf 66 = .ok (.iload 5, 2) := by decide +kernel
theorem dX3_rankOf_68 : decode cX3_rankOf 68 = .ok (.ifCond .eq 6, 3) := by decide +kernel
theorem dX3_rankOf_71 : decode cX3_rankOf 71 = .ok (.iinc 2 1, 3) := by decide +kernel
theorem dX3_rankOf_74 : decode cX3_rankOf 74 = .ok (.iinc 3 1, 3) := by decide +kernel
theorem dX3_rankOf_77 : decode cX3_rankOf 77 = .ok (.goto (-73), 3) := by decide +kernel
theorem dX3_rankOf_80 : decode cX3_rankOf 80 = .ok (.iload_n 2, 1) := by decide +kernel
theorem dX3_rankOf_81 : decode cX3_rankOf 81 = .ok (.ireturn, 1) := by decide +kernel
theorem dX4_init_0 : decode cX4_init 0 = .ok (.aload_n 0, 1) := by decide +kernel
theorem dX4_init_1 : decode cX4_init 1 = .ok (.invokespecial 3, 3) := by decide +kernel
theorem dX4_init_4 : decode cX4_init 4 = .ok (.aload_n 0, 1) := by decide +kernel
theorem dX4_init_5 : decode cX4_init 5 = .ok (.bipush 12, 2) := by decide +kernel
theorem dX4_init_7 : decode cX4_init 7 = .ok (.newarray .int, 2) := by decide +kernel
theorem dX4_init_9 : decode cX4_init 9 = .ok (.putfield 9, 3) := by decide +kernel
theorem dX4_init_12 : decode cX4_init 12 = .ok (.aload_n 0, 1) := by decide +kernel
theorem dX4_init_13 : decode cX4_init 13 = .ok (.bipush 12, 2) := by decide +kernel
theorem dX4_init_15 : decode cX4_init 15 = .ok (.newarray .int, 2) := by decide +kernel
theorem dX4_init_17 : decode cX4_init 17 = .ok (.putfield 15, 3) := by decide +kernel
theorem dX4_init_20 : decode cX4_init 20 = .ok (.aload_n 0, 1) := by decide +kernel
theorem dX4_init_21 : decode cX4_init 21 = .ok (.bipush 12, 2) := by decide +kernel
theorem dX4_init_23 : decode cX4_init 23 = .ok (.newarray .int, 2) := by decide +kernel
theorem dX4_init_25 : decode cX4_init 25 = .ok (.putfield 18, 3) := by decide +kernel
theorem dX4_init_28 : decode cX4_init 28 = .ok (.aload_n 0, 1) := by decide +kernel
theorem dX4_init_29 : decode cX4_init 29 = .ok (.bipush 12, 2) := by decide +kernel
theorem dX4_init_31 : decode cX4_init 31 = .ok (.newarray .int, 2) := by decide +kernel
theorem dX4_init_33 : decode cX4_init 33 = .ok (.putfield 21, 3) := by decide +kernel
theorem dX4_init_36 : decode cX4_init 36 = .ok (.return_, 1) := by decide +kernel
theorem dX4_copyFrom_0 : decode cX4_copyFrom 0 = .ok (.aload_n 0, 1) := by decide +kernel
theorem dX4_copyFrom_1 : decode cX4_copyFrom 1 = .ok (.aload_n 1, 1) := by decide +kernel
theorem dX4_copyFrom_2 : decode cX4_copyFrom 2 = .ok (.getfield 24, 3) := by decide +kernel
theorem dX4_copyFrom_5 : decode cX4_copyFrom 5 = .ok (.putfield 24, 3) := by decide +kernel
theorem dX4_copyFrom_8 : decode cX4_copyFrom 8 = .ok (.aload_n 1, 1) := by decide +kernel
theorem dX4_copyFrom_9 : decode cX4_copyFrom 9 = .ok (.getfield 9, 3) := by decide +kernel
theorem dX4_copyFrom_12 : decode cX4_copyFrom 12 = .ok (.iconst 0, 1) := by decide +kernel
theorem dX4_copyFrom_13 : decode cX4_copyFrom 13 = .ok (.aload_n 0, 1) := by decide +kernel
theorem dX4_copyFrom_14 : decode cX4_copyFrom 14 = .ok (.getfield 9, 3) := by decide +kernel
theorem dX4_copyFrom_17 : decode cX4_copyFrom 17 = .ok (.iconst 0, 1) := by decide +kernel
theorem dX4_copyFrom_18 : decode cX4_copyFrom 18 = .ok (.bipush 12, 2) := by decide +kernel
theorem dX4_copyFrom_20 : decode cX4_copyFrom 20 = .ok (.invokestatic 28, 3) := by decide +kernel
theorem dX4_copyFrom_23 : decode cX4_copyFrom 23 = .ok (.aload_n 1, 1) := by decide +kernel
theorem dX4_copyFrom_24 : decode cX4_copyFrom 24 = .ok (.getfield 15, 3) := by decide +kernel
theorem dX4_copyFrom_27 : decode cX4_copyFrom 27 = .ok (.iconst 0, 1) := by decide +kernel
theorem dX4_copyFrom_28 : decode cX4_copyFrom 28 = .ok (.aload_n 0, 1) := by decide +kernel
theorem dX4_copyFrom_29 : decode cX4_copyFrom 29 = .ok (.getfield 15, 3) := by decide +kernel
theorem dX4_copyFrom_32 : decode cX4_copyFrom 32 = .ok (.iconst 0, 1) := by decide +kernel
theorem dX4_copyFrom_33 : decode cX4_copyFrom 33 = .ok (.bipush 12, 2) := by decide +kernel
theorem dX4_copyFrom_35 : decode cX4_copyFrom 35 = .ok (.invokestatic 28, 3) := by decide +kernel
theorem dX4_copyFrom_38 : decode cX4_copyFrom 38 = .ok (.aload_n 1, 1) := by decide +kernel
theorem dX4_copyFrom_39 : decode cX4_copyFrom 39 = .ok (.getfield 18, 3) := by decide +kernel
theorem dX4_copyFrom_42 : decode cX4_copyFrom 42 = .ok (.iconst 0, 1) := by decide +kernel
theorem dX4_copyFrom_43 : decode cX4_copyFrom 43 = .ok (.aload_n 0, 1) := by decide +kernel
theorem dX4_copyFrom_44 : decode cX4_copyFrom 44 = .ok (.getfield 18, 3) := by decide +kernel
theorem dX4_copyFrom_47 : decode cX4_copyFrom 47 = .ok (.iconst 0, 1) := by decide +kernel
theorem dX4_copyFrom_48 : decode cX4_copyFrom 48 = .ok (.bipush 12, 2) := by decide +kernel
theorem dX4_copyFrom_50 : decode cX4_copyFrom 50 = .ok (.invokestatic 28, 3) := by decide +kernel
theorem dX4_copyFrom_53 : decode cX4_copyFrom 53 = .ok (.aload_n 1, 1) := by decide +kernel
theorem dX4_copyFrom_54 : decode cX4_copyFrom 54 = .ok (.getfield 21, 3) := by decide +kernel
theorem dX4_copyFrom_57 : decode cX4_copyFrom 57 = .ok (.iconst 0, 1) := by decide +kernel
theorem dX4_copyFrom_58 : decode cX4_copyFrom 58 = .ok (.aload_n 0, 1) := by decide +kernel
theorem dX4_copyFrom_59 : decode cX4_copyFrom 59 = .ok (.getfield 21, 3) := by decide +kernel
theorem dX4_copyFrom_62 : decode cX4_copyFrom 62 = .ok (.iconst 0, 1) := by decide +kernel
theorem dX4_copyFrom_63 : decode cX4_copyFrom 63 = .ok (.bipush 12, 2) := by decide +kernel
theorem dX4_copyFrom_65 : decode cX4_copyFrom 65 = .ok (.invokestatic 28, 3) := by decide +kernel
theorem dX4_copyFrom_68 : decode cX4_copyFrom 68 = .ok (.return_, 1) := by decide +kernel
theorem dX4_add_0 : decode cX4_add 0 = .ok (.aload_n 0, 1) := by decide +kernel
theorem dX4_add_1 : decode cX4_add 1 = .ok (.getfield 24, 3) := by decide +kernel
theorem dX4_add_4 : decode cX4_add 4 = .ok (.bipush 12, 2) := by decide +kernel
theorem dX4_add_6 : decode cX4_add 6 = .ok (.if_icmp .ge 73, 3) := by decide +kernel
theorem dX4_add_9 : decode cX4_add 9 = .ok (.aload_n 0, 1) := by decide +kernel
theorem dX4_add_10 : decode cX4_add 10 = .ok (.getfield 9, 3) := by decide +kernel
theorem dX4_add_13 : decode cX4_add 13 = .ok (.aload_n 0, 1) := by decide +kernel
theorem dX4_add_14 : decode cX4_add 14 = .ok (.getfield 24, 3) := by decide +kernel
theorem dX4_add_17 : decode cX4_add 17 = .ok (.aload_n 1, 1) := by decide +kernel
theorem dX4_add_18 : decode cX4_add 18 = .ok (.getfield 34, 3) := by decide +kernel
theorem dX4_add_21 : decode cX4_add 21 = .ok (.iload_n 2, 1) := by decide +kernel
theorem dX4_add_22 : decode cX4_add 22 = .ok (.iaload, 1) := by decide +kernel
theorem dX4_add_23 : decode cX4_add 23 = .ok (.iastore, 1) := by decide +kernel
theorem dX4_add_24 : decode cX4_add 24 = .ok (.aload_n 0, 1) := by decide +kernel
theorem dX4_add_25 : decode cX4_add 25 = .ok (.getfield 15, 3) := by decide +kernel
theorem dX4_add_28 : decode cX4_add 28 = .ok (.aload_n 0, 1) := by decide +kernel
theorem dX4_add_29 : decode cX4_add 29 = .ok (.getfield 24, 3) := by decide +kernel
theorem dX4_add_32 : decode cX4_add 32 = .ok (.aload_n 1, 1) := by decide +kernel
theorem dX4_add_33 : decode cX4_add 33 = .ok (.getfield 37, 3) := by decide +kernel
theorem dX4_add_36 : decode cX4_add 36 = .ok (.iload_n 2, 1) := by decide +kernel
theorem dX4_add_37 : decode cX4_add 37 = .ok (.iaload, 1) := by decide +kernel
theorem dX4_add_38 : decode cX4_add 38 = .ok (.iastore, 1) := by decide +kernel
theorem dX4_add_39 : decode cX4_add 39 = .ok (.aload_n 0, 1) := by decide +kernel
theorem dX4_add_40 : decode cX4_add 40 = .ok (.getfield 18, 3) := by decide +kernel
theorem dX4_add_43 : decode cX4_add 43 = .ok (.aload_n 0, 1) := by decide +kernel
theorem dX4_add_44 : decode cX4_add 44 = .ok (.getfield 24, 3) := by decide +kernel
theorem dX4_add_47 : decode cX4_add 47 = .ok (.aload_n 1, 1) := by decide +kernel
theorem dX4_add_48 : decode cX4_add 48 = .ok (.getfield 38, 3) := by decide +kernel
theorem dX4_add_51 : decode cX4_add 51 = .ok (.iload_n 2, 1) := by decide +kernel
theorem dX4_add_52 : decode cX4_add 52 = .ok (.iaload, 1) := by decide +kernel
theorem dX4_add_53 : decode cX4_add 53 = .ok (.iastore, 1) := by decide +kernel
theorem dX4_add_54 : decode cX4_add 54 = .ok (.aload_n 0, 1) := by decide +kernel
theorem dX4_add_55 : decode cX4_add 55 = .ok (.getfield 21, 3) := by decide +kernel
theorem dX4_add_58 : decode cX4_add 58 = .ok (.aload_n 0, 1) := by decide +kernel
theorem dX4_add_59 : decode cX4_add 59 = .ok (.getfield 24, 3) := by decide +kernel
theorem dX4_add_62 : decode cX4_add 62 = .ok (.aload_n 1, 1) := by decide +kernel
theorem dX4_add_63 : decode cX4_add 63 = .ok (.getfield 39, 3) := by decide +kernel
theorem dX4_add_66 : decode cX4_add 66 = .ok (.iload_n 2, 1) := by decide +kernel
theorem dX4_add_67 : decode cX4_add 67 = .ok (.iaload, 1) := by decide +kernel
theorem dX4_add_68 : decode cX4_add 68 = .ok (.iastore, 1) := by decide +kernel
theorem dX4_add_69 : decode cX4_add 69 = .ok (.aload_n 0, 1) := by decide +kernel
theorem dX4_add_70 : decode cX4_add 70 = .ok (.dup, 1) := by decide +kernel
theorem dX4_add_71 : decode cX4_add 71 = .ok (.getfield 24, 3) := by decide +kernel
theorem dX4_add_74 : decode cX4_add 74 = .ok (.iconst 1, 1) := by decide +kernel
theorem dX4_add_75 : decode cX4_add 75 = .ok (.iadd, 1) := by decide +kernel
theorem dX4_add_76 : decode cX4_add 76 = .ok (.putfield 24, 3) := by decide +kernel
theorem dX4_add_79 : decode cX4_add 79 = .ok (.return_, 1) := by decide +kernel
theorem dX4_greatestSupport_0 : decode cX4_greatestSupport 0 = .ok (.iconst 0, 1) := by decide +kernel
theorem dX4_greatestSupport_1 : decode cX4_greatestSupport 1 = .ok (.istore 4, 2) := by decide +kernel
theorem dX4_greatestSupport_3 : decode cX4_greatestSupport 3 = .ok (.iconst 0, 1) := by decide +kernel
theorem dX4_greatestSupport_4 : decode cX4_greatestSupport 4 = .ok (.istore 5, 2) := by decide +kernel
theorem dX4_greatestSupport_6 : decode cX4_greatestSupport 6 = .ok (.iload 5, 2) := by decide +kernel
theorem dX4_greatestSupport_8 : decode cX4_greatestSupport 8 = .ok (.aload_n 0, 1) := by decide +kernel
theorem dX4_greatestSupport_9 : decode cX4_greatestSupport 9 = .ok (.getfield 24, 3) := by decide +kernel
theorem dX4_greatestSupport_12 : decode cX4_greatestSupport 12 = .ok (.if_icmp .ge 75, 3) := by decide +kernel
theorem dX4_greatestSupport_15 : decode cX4_greatestSupport 15 = .ok (.aload_n 0, 1) := by decide +kernel
theorem dX4_greatestSupport_16 : decode cX4_greatestSupport 16 = .ok (.getfield 9, 3) := by decide +kernel
theorem dX4_greatestSupport_19 : decode cX4_greatestSupport 19 = .ok (.iload 5, 2) := by decide +kernel
theorem dX4_greatestSupport_21 : decode cX4_greatestSupport 21 = .ok (.iaload, 1) := by decide +kernel
theorem dX4_greatestSupport_22 : decode cX4_greatestSupport 22 = .ok (.iload_n 1, 1) := by decide +kernel
theorem dX4_greatestSupport_23 : decode cX4_greatestSupport 23 = .ok (.if_icmp .ne 29, 3) := by decide +kernel
theorem dX4_greatestSupport_26 : decode cX4_greatestSupport 26 = .ok (.aload_n 0, 1) := by decide +kernel
theorem dX4_greatestSupport_27 : decode cX4_greatestSupport 27 = .ok (.getfield 15, 3) := by decide +kernel
theorem dX4_greatestSupport_30 : decode cX4_greatestSupport 30 = .ok (.iload 5, 2) := by decide +kernel
theorem dX4_greatestSupport_32 : decode cX4_greatestSupport 32 = .ok (.iaload, 1) := by decide +kernel
theorem dX4_greatestSupport_33 : decode cX4_greatestSupport 33 = .ok (.iload_n 2, 1) := by decide +kernel
theorem dX4_greatestSupport_34 : decode cX4_greatestSupport 34 = .ok (.if_icmp .ne 18, 3) := by decide +kernel
theorem dX4_greatestSupport_37 : decode cX4_greatestSupport 37 = .ok (.aload_n 0, 1) := by decide +kernel
theorem dX4_greatestSupport_38 : decode cX4_greatestSupport 38 = .ok (.getfield 18, 3) := by decide +kernel
theorem dX4_greatestSupport_41 : decode cX4_greatestSupport 41 = .ok (.iload 5, 2) := by decide +kernel
theorem dX4_greatestSupport_43 : decode cX4_greatestSupport 43 = .ok (.iaload, 1) := by decide +kernel
theorem dX4_greatestSupport_44 : decode cX4_greatestSupport 44 = .ok (.iload_n 3, 1) := by decide +kernel
theorem dX4_greatestSupport_45 : decode cX4_greatestSupport 45 = .ok (.if_icmp .ne 7, 3) := by decide +kernel
theorem dX4_greatestSupport_48 : decode cX4_greatestSupport 48 = .ok (.iconst 1, 1) := by decide +kernel
theorem dX4_greatestSupport_49 : decode cX4_greatestSupport 49 = .ok (.goto 4, 3) := by decide +kernel
theorem dX4_greatestSupport_52 : decode cX4_greatestSupport 52 = .ok (.iconst 0, 1) := by decide +kernel
theorem dX4_greatestSupport_53 : decode cX4_greatestSupport 53 = .ok (.istore 6, 2) := by decide +kernel
theorem dX4_greatestSupport_55 : decode cX4_greatestSupport 55 = .ok (.iload 6, 2) := by decide +kernel
theorem dX4_greatestSupport_57 : decode cX4_greatestSupport 57 = .ok (.ifCond .eq 24, 3) := by decide +kernel
theorem dX4_greatestSupport_60 : decode cX4_greatestSupport 60 = .ok (.aload_n 0, 1) := by decide +kernel
theorem dX4_greatestSupport_61 : decode cX4_greatestSupport 61 = .ok (.getfield 21, 3) := by decide +kernel
theorem dX4_greatestSupport_64 : decode cX4_greatestSupport 64 = .ok (.iload 5, 2) := by decide +kernel
theorem dX4_greatestSupport_66 : decode cX4_greatestSupport 66 = .ok (.iaload, 1) := by decide +kernel
theorem dX4_greatestSupport_67 : decode cX4_greatestSupport 67 = .ok (.iload 4, 2) := by decide +kernel
theorem dX4_greatestSupport_69 : decode cX4_greatestSupport 69 = .ok (.if_icmp .le 12, 3) := by decide +kernel
theorem dX4_greatestSupport_72 : decode cX4_greatestSupport 72 = .ok (.aload_n 0, 1) := by decide +kernel
theorem dX4_greatestSupport_73 : decode cX4_greatestSupport 73 = .ok (.getfield 21, 3) := by decide +kernel
theorem dX4_greatestSupport_76 : decode cX4_greatestSupport 76 = .ok (.iload 5, 2) := by decide +kernel
theorem dX4_greatestSupport_78 : decode cX4_greatestSupport 78 = .ok (.iaload, 1) := by decide +kernel
theorem dX4_greatestSupport_79 : decode cX4_greatestSupport 79 = .ok (.istore 4, 2) := by decide +kernel
theorem dX4_greatestSupport_81 : decode cX4_greatestSupport 81 = .ok (.iinc 5 1, 3) := by decide +kernel
theorem dX4_greatestSupport_84 : decode cX4_greatestSupport 84 = .ok (.goto (-78), 3) := by decide +kernel
theorem dX4_greatestSupport_87 : decode cX4_greatestSupport 87 = .ok (.iload 4, 2) := by decide +kernel
theorem dX4_greatestSupport_89 : decode cX4_greatestSupport 89 = .ok (.ireturn, 1) := by decide +kernel
theorem dX5_init_0 : decode cX5_init 0 = .ok (.aload_n 0, 1) := by decide +kernel
theorem dX5_init_1 : decode cX5_init 1 = .ok (.invokespecial 3, 3) := by decide +kernel
theorem dX5_init_4 : decode cX5_init 4 = .ok (.aload_n 0, 1) := by decide +kernel
theorem dX5_init_5 : decode cX5_init 5 = .ok (.new 9, 3) := by decide +kernel
theorem dX5_init_8 : decode cX5_init 8 = .ok (.dup, 1) := by decide +kernel
theorem dX5_init_9 : decode cX5_init 9 = .ok (.invokespecial 11, 3) := by decide +kernel
theorem dX5_init_12 : decode cX5_init 12 = .ok (.putfield 12, 3) := by decide +kernel
theorem dX5_init_15 : decode cX5_init 15 = .ok (.aload_n 0, 1) := by decide +kernel
theorem dX5_init_16 : decode cX5_init 16 = .ok (.new 18, 3) := by decide +kernel
theorem dX5_init_19 : decode cX5_init 19 = .ok (.dup, 1) := by decide +kernel
theorem dX5_init_20 : decode cX5_init 20 = .ok (.invokespecial 20, 3) := by decide +kernel
theorem dX5_init_23 : decode cX5_init 23 = .ok (.putfield 21, 3) := by decide +kernel
theorem dX5_init_26 : decode cX5_init 26 = .ok (.aload_n 0, 1) := by decide +kernel
theorem dX5_init_27 : decode cX5_init 27 = .ok (.new 25, 3) := by decide +kernel
theorem dX5_init_30 : decode cX5_init 30 = .ok (.dup, 1) := by decide +kernel
theorem dX5_init_31 : decode cX5_init 31 = .ok (.invokespecial 27, 3) := by decide +kernel
theorem dX5_init_34 : decode cX5_init 34 = .ok (.putfield 28, 3) := by decide +kernel
theorem dX5_init_37 : decode cX5_init 37 = .ok (.aload_n 0, 1) := by decide +kernel
theorem dX5_init_38 : decode cX5_init 38 = .ok (.new 32, 3) := by decide +kernel
theorem dX5_init_41 : decode cX5_init 41 = .ok (.dup, 1) := by decide +kernel
theorem dX5_init_42 : decode cX5_init 42 = .ok (.invokespecial 34, 3) := by decide +kernel
theorem dX5_init_45 : decode cX5_init 45 = .ok (.putfield 35, 3) := by decide +kernel
theorem dX5_init_48 : decode cX5_init 48 = .ok (.aload_n 0, 1) := by decide +kernel
theorem dX5_init_49 : decode cX5_init 49 = .ok (.iconst 2, 1) := by decide +kernel
theorem dX5_init_50 : decode cX5_init 50 = .ok (.newarray .int, 2) := by decide +kernel
theorem dX5_init_52 : decode cX5_init 52 = .ok (.dup, 1) := by decide +kernel
theorem dX5_init_53 : decode cX5_init 53 = .ok (.iconst 0, 1) := by decide +kernel
theorem dX5_init_54 : decode cX5_init 54 = .ok (.iconst 5, 1) := by decide +kernel
theorem dX5_init_55 : decode cX5_init 55 = .ok (.iastore, 1) := by decide +kernel
theorem dX5_init_56 : decode cX5_init 56 = .ok (.dup, 1) := by decide +kernel
theorem dX5_init_57 : decode cX5_init 57 = .ok (.iconst 1, 1) := by decide +kernel
theorem dX5_init_58 : decode cX5_init 58 = .ok (.bipush 10, 2) := by decide +kernel
theorem dX5_init_60 : decode cX5_init 60 = .ok (.iastore, 1) := by decide +kernel
theorem dX5_init_61 : decode cX5_init 61 = .ok (.putfield 39, 3) := by decide +kernel
theorem dX5_init_64 : decode cX5_init 64 = .ok (.aload_n 0, 1) := by decide +kernel
theorem dX5_init_65 : decode cX5_init 65 = .ok (.bipush 12, 2) := by decide +kernel
theorem dX5_init_67 : decode cX5_init 67 = .ok (.newarray .int, 2) := by decide +kernel
theorem dX5_init_69 : decode cX5_init 69 = .ok (.putfield 43, 3) := by decide +kernel
theorem dX5_init_72 : decode cX5_init 72 = .ok (.return_, 1) := by decide +kernel
theorem dX5_copyFrom_0 : decode cX5_copyFrom 0 = .ok (.aload_n 0, 1) := by decide +kernel
theorem dX5_copyFrom_1 : decode cX5_copyFrom 1 = .ok (.getfield 12, 3) := by decide +kernel
theorem dX5_copyFrom_4 : decode cX5_copyFrom 4 = .ok (.aload_n 1, 1) := by decide +kernel
theorem dX5_copyFrom_5 : decode cX5_copyFrom 5 = .ok (.getfield 12, 3) := by decide +kernel
theorem dX5_copyFrom_8 : decode cX5_copyFrom 8 = .ok (.invokevirtual 46, 3) := by decide +kernel
theorem dX5_copyFrom_11 : decode cX5_copyFrom 11 = .ok (.aload_n 0, 1) := by decide +kernel
theorem dX5_copyFrom_12 : decode cX5_copyFrom 12 = .ok (.getfield 21, 3) := by decide +kernel
theorem dX5_copyFrom_15 : decode cX5_copyFrom 15 = .ok (.aload_n 1, 1) := by decide +kernel
theorem dX5_copyFrom_16 : decode cX5_copyFrom 16 = .ok (.getfield 21, 3) := by decide +kernel
theorem dX5_copyFrom_19 : decode cX5_copyFrom 19 = .ok (.invokevirtual 50, 3) := by decide +kernel
theorem dX5_copyFrom_22 : decode cX5_copyFrom 22 = .ok (.aload_n 0, 1) := by decide +kernel
theorem dX5_copyFrom_23 : decode cX5_copyFrom 23 = .ok (.getfield 28, 3) := by decide +kernel
theorem dX5_copyFrom_26 : decode cX5_copyFrom 26 = .ok (.aload_n 1, 1) := by decide +kernel
theorem dX5_copyFrom_27 : decode cX5_copyFrom 27 = .ok (.getfield 28, 3) := by decide +kernel
theorem dX5_copyFrom_30 : decode cX5_copyFrom 30 = .ok (.invokevirtual 53, 3) := by decide +kernel
theorem dX5_copyFrom_33 : decode cX5_copyFrom 33 = .ok (.aload_n 0, 1) := by decide +kernel
theorem dX5_copyFrom_34 : decode cX5_copyFrom 34 = .ok (.getfield 35, 3) := by decide +kernel
theorem dX5_copyFrom_37 : decode cX5_copyFrom 37 = .ok (.aload_n 1, 1) := by decide +kernel
theorem dX5_copyFrom_38 : decode cX5_copyFrom 38 = .ok (.getfield 35, 3) := by decide +kernel
theorem dX5_copyFrom_41 : decode cX5_copyFrom 41 = .ok (.invokevirtual 56, 3) := by decide +kernel
theorem dX5_copyFrom_44 : decode cX5_copyFrom 44 = .ok (.aload_n 0, 1) := by decide +kernel
theorem dX5_copyFrom_45 : decode cX5_copyFrom 45 = .ok (.getfield 39, 3) := by decide +kernel
theorem dX5_copyFrom_48 : decode cX5_copyFrom 48 = .ok (.iconst 0, 1) := by decide +kernel
theorem dX5_copyFrom_49 : decode cX5_copyFrom 49 = .ok (.aload_n 1, 1) := by decide +kernel
theorem dX5_copyFrom_50 : decode cX5_copyFrom 50 = .ok (.getfield 39, 3) := by decide +kernel
theorem dX5_copyFrom_53 : decode cX5_copyFrom 53 = .ok (.iconst 0, 1) := by decide +kernel
theorem dX5_copyFrom_54 : decode cX5_copyFrom 54 = .ok (.iaload, 1) := by decide +kernel
theorem dX5_copyFrom_55 : decode cX5_copyFrom 55 = .ok (.iastore, 1) := by decide +kernel
theorem dX5_copyFrom_56 : decode cX5_copyFrom 56 = .ok (.aload_n 0, 1) := by decide +kernel
theorem dX5_copyFrom_57 : decode cX5_copyFrom 57 = .ok (.getfield 39, 3) := by decide +kernel
theorem dX5_copyFrom_60 : decode cX5_copyFrom 60 = .ok (.iconst 1, 1) := by decide +kernel
theorem dX5_copyFrom_61 : decode cX5_copyFrom 61 = .ok (.aload_n 1, 1) := by decide +kernel
theorem dX5_copyFrom_62 : decode cX5_copyFrom 62 = .ok (.getfield 39, 3) := by decide +kernel
theorem dX5_copyFrom_65 : decode cX5_copyFrom 65 = .ok (.iconst 1, 1) := by decide +kernel
theorem dX5_copyFrom_66 : decode cX5_copyFrom 66 = .ok (.iaload, 1) := by decide +kernel
theorem dX5_copyFrom_67 : decode cX5_copyFrom 67 = .ok (.iastore, 1) := by decide +kernel
theorem dX5_copyFrom_68 : decode cX5_copyFrom 68 = .ok (.aload_n 0, 1) := by decide +kernel
theorem dX5_copyFrom_69 : decode cX5_copyFrom 69 = .ok (.aload_n 1, 1) := by decide +kernel
theorem dX5_copyFrom_70 : decode cX5_copyFrom 70 = .ok (.getfield 59, 3) := by decide +kernel
theorem dX5_copyFrom_73 : decode cX5_copyFrom 73 = .ok (.putfield 59, 3) := by decide +kernel
theorem dX5_copyFrom_76 : decode cX5_copyFrom 76 = .ok (.aload_n 0, 1) := by decide +kernel
theorem dX5_copyFrom_77 : decode cX5_copyFrom 77 = .ok (.aload_n 1, 1) := by decide +kernel
theorem dX5_copyFrom_78 : decode cX5_copyFrom 78 = .ok (.getfield 63, 3) := by decide +kernel
theorem dX5_copyFrom_81 : decode cX5_copyFrom 81 = .ok (.putfield 63, 3) := by decide +kernel
theorem dX5_copyFrom_84 : decode cX5_copyFrom 84 = .ok (.aload_n 0, 1) := by decide +kernel
theorem dX5_copyFrom_85 : decode cX5_copyFrom 85 = .ok (.aload_n 1, 1) := by decide +kernel
theorem dX5_copyFrom_86 : decode cX5_copyFrom 86 = .ok (.getfield 66, 3) := by decide +kernel
theorem dX5_copyFrom_89 : decode cX5_copyFrom 89 = .ok (.putfield 66, 3) := by decide +kernel
theorem dX5_copyFrom_92 : decode cX5_copyFrom 92 = .ok (.aload_n 0, 1) := by decide +kernel
theorem dX5_copyFrom_93 : decode cX5_copyFrom 93 = .ok (.aload_n 1, 1) := by decide +kernel
theorem dX5_copyFrom_94 : decode cX5_copyFrom 94 = .ok (.getfield 69, 3) := by decide +kernel
theorem dX5_copyFrom_97 : decode cX5_copyFrom 97 = .ok (.putfield 69, 3) := by decide +kernel
theorem dX5_copyFrom_100 : decode cX5_copyFrom 100 = .ok (.return_, 1) := by decide +kernel
theorem dX5_addDrone_0 : decode cX5_addDrone 0 = .ok (.iload_n 1, 1) := by decide +kernel
theorem dX5_addDrone_1 : decode cX5_addDrone 1 = .ok (.invokestatic 72, 3) := by decide +kernel
theorem dX5_addDrone_4 : decode cX5_addDrone 4 = .ok (.ifCond .ne 5, 3) := by decide +kernel
theorem dX5_addDrone_7 : decode cX5_addDrone 7 = .ok (.iconst (-1), 1) := by decide +kernel
theorem dX5_addDrone_8 : decode cX5_addDrone 8 = .ok (.ireturn, 1) := by decide +kernel
theorem dX5_addDrone_9 : decode cX5_addDrone 9 = .ok (.iload_n 2, 1) := by decide +kernel
theorem dX5_addDrone_10 : decode cX5_addDrone 10 = .ok (.iconst 1, 1) := by decide +kernel
theorem dX5_addDrone_11 : decode cX5_addDrone 11 = .ok (.if_icmp .lt 9, 3) := by decide +kernel
theorem dX5_addDrone_14 : decode cX5_addDrone 14 = .ok (.iload_n 2, 1) := by decide +kernel
theorem dX5_addDrone_15 : decode cX5_addDrone 15 = .ok (.bipush 9, 2) := by decide +kernel
theorem dX5_addDrone_17 : decode cX5_addDrone 17 = .ok (.if_icmp .le 6, 3) := by decide +kernel
theorem dX5_addDrone_20 : decode cX5_addDrone 20 = .ok (.bipush (-2), 2) := by decide +kernel
theorem dX5_addDrone_22 : decode cX5_addDrone 22 = .ok (.ireturn, 1) := by decide +kernel
theorem dX5_addDrone_23 : decode cX5_addDrone 23 = .ok (.aload_n 0, 1) := by decide +kernel
theorem dX5_addDrone_24 : decode cX5_addDrone 24 = .ok (.getfield 12, 3) := by decide +kernel
theorem dX5_addDrone_27 : decode cX5_addDrone 27 = .ok (.getfield 76, 3) := by decide +kernel
theorem dX5_addDrone_30 : decode cX5_addDrone 30 = .ok (.bipush 12, 2) := by decide +kernel
theorem dX5_addDrone_32 : decode cX5_addDrone 32 = .ok (.if_icmp .lt 6, 3) := by decide +kernel
theorem dX5_addDrone_35 : decode cX5_addDrone 35 = .ok (.bipush (-3), 2) := by decide +kernel
theorem dX5_addDrone_37 : decode cX5_addDrone 37 = .ok (.ireturn, 1) := by decide +kernel
theorem dX5_addDrone_38 : decode cX5_addDrone 38 = .ok (.aload_n 0, 1) := by decide +kernel
theorem dX5_addDrone_39 : decode cX5_addDrone 39 = .ok (.getfield 12, 3) := by decide +kernel
theorem dX5_addDrone_42 : decode cX5_addDrone 42 = .ok (.iload_n 1, 1) := by decide +kernel
theorem dX5_addDrone_43 : decode cX5_addDrone 43 = .ok (.iload_n 2, 1) := by decide +kernel
theorem dX5_addDrone_44 : decode cX5_addDrone 44 = .ok (.invokevirtual 79, 3) := by decide +kernel
theorem dX5_addDrone_47 : decode cX5_addDrone 47 = .ok (.ireturn, 1) := by decide +kernel
theorem dX5_moveDrone_0 : decode cX5_moveDrone 0 = .ok (.aload_n 0, 1) := by decide +kernel
theorem dX5_moveDrone_1 : decode cX5_moveDrone 1 = .ok (.getfield 12, 3) := by decide +kernel
theorem dX5_moveDrone_4 : decode cX5_moveDrone 4 = .ok (.iload_n 1, 1) := by decide +kernel
theorem dX5_moveDrone_5 : decode cX5_moveDrone 5 = .ok (.invokevirtual 83, 3) := by decide +kernel
theorem dX5_moveDrone_8 : decode cX5_moveDrone 8 = .ok (.ifCond .eq 10, 3) := by decide +kernel
theorem dX5_moveDrone_11 : decode cX5_moveDrone 11 = .ok (.iload_n 2, 1) := by decide +kernel
theorem dX5_moveDrone_12 : decode cX5_moveDrone 12 = .ok (.invokestatic 72, 3) := by decide +kernel
theorem dX5_moveDrone_15 : decode cX5_moveDrone 15 = .ok (.ifCond .ne 5, 3) := by decide +kernel
theorem dX5_moveDrone_18 : decode cX5_moveDrone 18 = .ok (.iconst (-1), 1) := by decide +kernel
theorem dX5_moveDrone_19 : decode cX5_moveDrone 19 = .ok (.ireturn, 1) := by decide +kernel
theorem dX5_moveDrone_20 : decode cX5_moveDrone 20 = .ok (.aload_n 0, 1) := by decide +kernel
theorem dX5_moveDrone_21 : decode cX5_moveDrone 21 = .ok (.getfield 12, 3) := by decide +kernel
theorem dX5_moveDrone_24 : decode cX5_moveDrone 24 = .ok (.getfield 86, 3) := by decide +kernel
theorem dX5_moveDrone_27 : decode cX5_moveDrone 27 = .ok (.iload_n 1, 1) := by decide +kernel
theorem dX5_moveDrone_28 : decode cX5_moveDrone 28 = .ok (.iaload, 1) := by decide +kernel
theorem dX5_moveDrone_29 : decode cX5_moveDrone 29 = .ok (.istore_n 3, 1) := by decide +kernel
theorem dX5_moveDrone_30 : decode cX5_moveDrone 30 = .ok (.iload_n 3, 1) := by decide +kernel
theorem dX5_moveDrone_31 : decode cX5_moveDrone 31 = .ok (.iload_n 2, 1) := by decide +kernel
theorem dX5_moveDrone_32 : decode cX5_moveDrone 32 = .ok (.if_icmp .ne 6, 3) := by decide +kernel
theorem dX5_moveDrone_35 : decode cX5_moveDrone 35 = .ok (.bipush (-5), 2) := by decide +kernel
theorem dX5_moveDrone_37 : decode cX5_moveDrone 37 = .ok (.ireturn, 1) := by decide +kernel
theorem dX5_moveDrone_38 : decode cX5_moveDrone 38 = .ok (.aload_n 0, 1) := by decide +kernel
theorem dX5_moveDrone_39 : decode cX5_moveDrone 39 = .ok (.getfield 12, 3) := by decide +kernel
theorem dX5_moveDrone_42 : decode cX5_moveDrone 42 = .ok (.getfield 86, 3) := by decide +kernel
theorem dX5_moveDrone_45 : decode cX5_moveDrone 45 = .ok (.iload_n 1, 1) := by decide +kernel
theorem dX5_moveDrone_46 : decode cX5_moveDrone 46 = .ok (.iload_n 2, 1) := by decide +kernel
theorem dX5_moveDrone_47 : decode cX5_moveDrone 47 = .ok (.iastore, 1) := by decide +kernel
theorem dX5_moveDrone_48 : decode cX5_moveDrone 48 = .ok (.iload_n 3, 1) := by decide +kernel
theorem dX5_moveDrone_49 : decode cX5_moveDrone 49 = .ok (.ireturn, 1) := by decide +kernel
theorem dX5_addPetition_0 : decode cX5_addPetition 0 = .ok (.aload_n 0, 1) := by decide +kernel
theorem dX5_addPetition_1 : decode cX5_addPetition 1 = .ok (.getfield 12, 3) := by decide +kernel
theorem dX5_addPetition_4 : decode cX5_addPetition 4 = .ok (.iload_n 1, 1) := by decide +kernel
theorem dX5_addPetition_5 : decode cX5_addPetition 5 = .ok (.invokevirtual 83, 3) := by decide +kernel
theorem dX5_addPetition_8 : decode cX5_addPetition 8 = .ok (.ifCond .eq 17, 3) := by decide +kernel
theorem dX5_addPetition_11 : decode cX5_addPetition 11 = .ok (.iload_n 2, 1) := by decide +kernel
theorem dX5_addPetition_12 : decode cX5_addPetition 12 = .ok (.invokestatic 89, 3) := by decide +kernel
theorem dX5_addPetition_15 : decode cX5_addPetition 15 = .ok (.ifCond .eq 10, 3) := by decide +kernel
theorem dX5_addPetition_18 : decode cX5_addPetition 18 = .ok (.iload_n 3, 1) := by decide +kernel
theorem dX5_addPetition_19 : decode cX5_addPetition 19 = .ok (.invokestatic 92, 3) := by decide +kernel
theorem dX5_addPetition_22 : decode cX5_addPetition 22 = .ok (.ifCond .ne 5, 3) := by decide +kernel
theorem dX5_addPetition_25 : decode cX5_addPetition 25 = .ok (.iconst (-1), 1) := by decide +kernel
theorem dX5_addPetition_26 : decode cX5_addPetition 26 = .ok (.ireturn, 1) := by decide +kernel
theorem dX5_addPetition_27 : decode cX5_addPetition 27 = .ok (.iload 4, 2) := by decide +kernel
theorem dX5_addPetition_29 : decode cX5_addPetition 29 = .ok (.ifCond .lt 9, 3) := by decide +kernel
theorem dX5_addPetition_32 : decode cX5_addPetition 32 = .ok (.iload 4, 2) := by decide +kernel
theorem dX5_addPetition_34 : decode cX5_addPetition 34 = .ok (.iconst 2, 1) := by decide +kernel
theorem dX5_addPetition_35 : decode cX5_addPetition 35 = .ok (.if_icmp .le 6, 3) := by decide +kernel
theorem dX5_addPetition_38 : decode cX5_addPetition 38 = .ok (.bipush (-2), 2) := by decide +kernel
theorem dX5_addPetition_40 : decode cX5_addPetition 40 = .ok (.ireturn, 1) := by decide +kernel
theorem dX5_addPetition_41 : decode cX5_addPetition 41 = .ok (.iload_n 2, 1) := by decide +kernel
theorem dX5_addPetition_42 : decode cX5_addPetition 42 = .ok (.bipush 6, 2) := by decide +kernel
theorem dX5_addPetition_44 : decode cX5_addPetition 44 = .ok (.if_icmp .eq 20, 3) := by decide +kernel
theorem dX5_addPetition_47 : decode cX5_addPetition 47 = .ok (.iload_n 2, 1) := by decide +kernel
theorem dX5_addPetition_48 : decode cX5_addPetition 48 = .ok (.aload_n 0, 1) := by decide +kernel
theorem dX5_addPetition_49 : decode cX5_addPetition 49 = .ok (.getfield 12, 3) := by decide +kernel
theorem dX5_addPetition_52 : decode cX5_addPetition 52 = .ok (.getfield 86, 3) := by decide +kernel
theorem dX5_addPetition_55 : decode cX5_addPetition 55 = .ok (.iload_n 1, 1) := by decide +kernel
theorem dX5_addPetition_56 : decode cX5_addPetition 56 = .ok (.iaload, 1) := by decide +kernel
theorem dX5_addPetition_57 : decode cX5_addPetition 57 = .ok (.if_icmp .eq 7, 3) := by decide +kernel
theorem dX5_addPetition_60 : decode cX5_addPetition 60 = .ok (.iconst 1, 1) := by decide +kernel
theorem dX5_addPetition_61 : decode cX5_addPetition 61 = .ok (.goto 4, 3) := by decide +kernel
theorem dX5_addPetition_64 : decode cX5_addPetition 64 = .ok (.iconst 0, 1) := by decide +kernel
theorem dX5_addPetition_65 : decode cX5_addPetition 65 = .ok (.istore 5, 2) := by decide +kernel
theorem dX5_addPetition_67 : decode cX5_addPetition 67 = .ok (.iload 5, 2) := by decide +kernel
theorem dX5_addPetition_69 : decode cX5_addPetition 69 = .ok (.ifCond .ne 28, 3) := by decide +kernel
theorem dX5_addPetition_72 : decode cX5_addPetition 72 = .ok (.aload_n 0, 1) := by decide +kernel
theorem dX5_addPetition_73 : decode cX5_addPetition 73 = .ok (.getfield 28, 3) := by decide +kernel
theorem dX5_addPetition_76 : decode cX5_addPetition 76 = .ok (.iload_n 1, 1) := by decide +kernel
theorem dX5_addPetition_77 : decode cX5_addPetition 77 = .ok (.invokevirtual 95, 3) := by decide +kernel
theorem dX5_addPetition_80 : decode cX5_addPetition 80 = .ok (.bipush (-5), 2) := by decide +kernel
theorem dX5_addPetition_82 : decode cX5_addPetition 82 = .ok (.if_icmp .ne 15, 3) := by decide +kernel
theorem dX5_addPetition_85 : decode cX5_addPetition 85 = .ok (.aload_n 0, 1) := by decide +kernel
theorem dX5_addPetition_86 : decode cX5_addPetition 86 = .ok (.getfield 28, 3) := by decide +kernel
theorem dX5_addPetition_89 : decode cX5_addPetition 89 = .ok (.getfield 99, 3) := by decide +kernel
theorem dX5_addPetition_92 : decode cX5_addPetition 92 = .ok (.bipush 12, 2) := by decide +kernel
theorem dX5_addPetition_94 : decode cX5_addPetition 94 = .ok (.if_icmp .lt 6, 3) := by decide +kernel
theorem dX5_addPetition_97 : decode cX5_addPetition 97 = .ok (.bipush (-4), 2) := by decide +kernel
theorem dX5_addPetition_99 : decode cX5_addPetition 99 = .ok (.ireturn, 1) := by decide +kernel
theorem dX5_addPetition_100 : decode cX5_addPetition 100 = .ok (.aload_n 0, 1) := by decide +kernel
theorem dX5_addPetition_101 : decode cX5_addPetition 101 = .ok (.getfield 12, 3) := by decide +kernel
theorem dX5_addPetition_104 : decode cX5_addPetition 104 = .ok (.getfield 100, 3) := by decide +kernel
theorem dX5_addPetition_107 : decode cX5_addPetition 107 = .ok (.iload_n 1, 1) := by decide +kernel
theorem dX5_addPetition_108 : decode cX5_addPetition 108 = .ok (.dup2, 1) := by decide +kernel
theorem dX5_addPetition_109 : decode cX5_addPetition 109 = .ok (.iaload, 1) := by decide +kernel
theorem dX5_addPetition_110 : decode cX5_addPetition 110 = .ok (.iconst 1, 1) := by decide +kernel
theorem dX5_addPetition_111 : decode cX5_addPetition 111 = .ok (.iadd, 1) := by decide +kernel
theorem dX5_addPetition_112 : decode cX5_addPetition 112 = .ok (.iastore, 1) := by decide +kernel
theorem dX5_addPetition_113 : decode cX5_addPetition 113 = .ok (.aload_n 0, 1) := by decide +kernel
theorem dX5_addPetition_114 : decode cX5_addPetition 114 = .ok (.getfield 28, 3) := by decide +kernel
theorem dX5_addPetition_117 : decode cX5_addPetition 117 = .ok (.iload_n 1, 1) := by decide +kernel
theorem dX5_addPetition_118 : decode cX5_addPetition 118 = .ok (.iload_n 2, 1) := by decide +kernel
theorem dX5_addPetition_119 : decode cX5_addPetition 119 = .ok (.iload_n 3, 1) := by decide +kernel
theorem dX5_addPetition_120 : decode cX5_addPetition 120 = .ok (.iload 4, 2) := by decide +kernel
theorem dX5_addPetition_122 : decode cX5_addPetition 122 = .ok (.aload_n 0, 1) := by decide +kernel
theorem dX5_addPetition_123 : decode cX5_addPetition 123 = .ok (.getfield 12, 3) := by decide +kernel
theorem dX5_addPetition_126 : decode cX5_addPetition 126 = .ok (.getfield 103, 3) := by decide +kernel
theorem dX5_addPetition_129 : decode cX5_addPetition 129 = .ok (.iload_n 1, 1) := by decide +kernel
theorem dX5_addPetition_130 : decode cX5_addPetition 130 = .ok (.iaload, 1) := by decide +kernel
theorem dX5_addPetition_131 : decode cX5_addPetition 131 = .ok (.invokevirtual 106, 3) := by decide +kernel
theorem dX5_addPetition_134 : decode cX5_addPetition 134 = .ok (.ireturn, 1) := by decide +kernel
theorem dX5_addSeconder_0 : decode cX5_addSeconder 0 = .ok (.aload_n 0, 1) := by decide +kernel
theorem dX5_addSeconder_1 : decode cX5_addSeconder 1 = .ok (.getfield 12, 3) := by decide +kernel
theorem dX5_addSeconder_4 : decode cX5_addSeconder 4 = .ok (.iload_n 1, 1) := by decide +kernel
theorem dX5_addSeconder_5 : decode cX5_addSeconder 5 = .ok (.invokevirtual 83, 3) := by decide +kernel
theorem dX5_addSeconder_8 : decode cX5_addSeconder 8 = .ok (.ifCond .eq 14, 3) := by decide +kernel
theorem dX5_addSeconder_11 : decode cX5_addSeconder 11 = .ok (.aload_n 0, 1) := by decide +kernel
theorem dX5_addSeconder_12 : decode cX5_addSeconder 12 = .ok (.getfield 28, 3) := by decide +kernel
theorem dX5_addSeconder_15 : decode cX5_addSeconder 15 = .ok (.iload_n 2, 1) := by decide +kernel
theorem dX5_addSeconder_16 : decode cX5_addSeconder 16 = .ok (.invokevirtual 109, 3) := by decide +kernel
theorem dX5_addSeconder_19 : decode cX5_addSeconder 19 = .ok (.ifCond .ne 5, 3) := by decide +kernel
theorem dX5_addSeconder_22 : decode cX5_addSeconder 22 = .ok (.iconst (-1), 1) := by decide +kernel
theorem dX5_addSeconder_23 : decode cX5_addSeconder 23 = .ok (.ireturn, 1) := by decide +kernel
theorem dX5_addSeconder_24 : decode cX5_addSeconder 24 = .ok (.aload_n 0, 1) := by decide +kernel
theorem dX5_addSeconder_25 : decode cX5_addSeconder 25 = .ok (.getfield 28, 3) := by decide +kernel
theorem dX5_addSeconder_28 : decode cX5_addSeconder 28 = .ok (.getfield 112, 3) := by decide +kernel
theorem dX5_addSeconder_31 : decode cX5_addSeconder 31 = .ok (.iload_n 2, 1) := by decide +kernel
theorem dX5_addSeconder_32 : decode cX5_addSeconder 32 = .ok (.iaload, 1) := by decide +kernel
theorem dX5_addSeconder_33 : decode cX5_addSeconder 33 = .ok (.iload_n 1, 1) := by decide +kernel
theorem dX5_addSeconder_34 : decode cX5_addSeconder 34 = .ok (.if_icmp .ne 6, 3) := by decide +kernel
theorem dX5_addSeconder_37 : decode cX5_addSeconder 37 = .ok (.bipush (-4), 2) := by decide +kernel
theorem dX5_addSeconder_39 : decode cX5_addSeconder 39 = .ok (.ireturn, 1) := by decide +kernel
theorem dX5_addSeconder_40 : decode cX5_addSeconder 40 = .ok (.iconst 1, 1) := by decide +kernel
theorem dX5_addSeconder_41 : decode cX5_addSeconder 41 = .ok (.iload_n 1, 1) := by decide +kernel
theorem dX5_addSeconder_42 : decode cX5_addSeconder 42 = .ok (.ishl, 1) := by decide +kernel
theorem dX5_addSeconder_43 : decode cX5_addSeconder 43 = .ok (.istore_n 3, 1) := by decide +kernel
theorem dX5_addSeconder_44 : decode cX5_addSeconder 44 = .ok (.aload_n 0, 1) := by decide +kernel
theorem dX5_addSeconder_45 : decode cX5_addSeconder 45 = .ok (.getfield 28, 3) := by decide +kernel
theorem dX5_addSeconder_48 : decode cX5_addSeconder 48 = .ok (.getfield 115, 3) := by decide +kernel
theorem dX5_addSeconder_51 : decode cX5_addSeconder 51 = .ok (.iload_n 2, 1) := by decide +kernel
theorem dX5_addSeconder_52 : decode cX5_addSeconder 52 = .ok (.iaload, 1) := by decide +kernel
theorem dX5_addSeconder_53 : decode cX5_addSeconder 53 = .ok (.iload_n 3, 1) := by decide +kernel
theorem dX5_addSeconder_54 : decode cX5_addSeconder 54 = .ok (.iand, 1) := by decide +kernel
theorem dX5_addSeconder_55 : decode cX5_addSeconder 55 = .ok (.ifCond .eq 6, 3) := by decide +kernel
theorem dX5_addSeconder_58 : decode cX5_addSeconder 58 = .ok (.bipush (-5), 2) := by decide +kernel
theorem dX5_addSeconder_60 : decode cX5_addSeconder 60 = .ok (.ireturn, 1) := by decide +kernel
theorem dX5_addSeconder_61 : decode cX5_addSeconder 61 = .ok (.aload_n 0, 1) := by decide +kernel
theorem dX5_addSeconder_62 : decode cX5_addSeconder 62 = .ok (.getfield 28, 3) := by decide +kernel
theorem dX5_addSeconder_65 : decode cX5_addSeconder 65 = .ok (.getfield 115, 3) := by decide +kernel
theorem dX5_addSeconder_68 : decode cX5_addSeconder 68 = .ok (.iload_n 2, 1) := by decide +kernel
theorem dX5_addSeconder_69 : decode cX5_addSeconder 69 = .ok (.dup2, 1) := by decide +kernel
theorem dX5_addSeconder_70 : decode cX5_addSeconder 70 = .ok (.iaload, 1) := by decide +kernel
theorem dX5_addSeconder_71 : decode cX5_addSeconder 71 = .ok (.iload_n 3, 1) := by decide +kernel
theorem dX5_addSeconder_72 : decode cX5_addSeconder 72 = .ok (.ior, 1) := by decide +kernel
theorem dX5_addSeconder_73 : decode cX5_addSeconder 73 = .ok (.iastore, 1) := by decide +kernel
theorem dX5_addSeconder_74 : decode cX5_addSeconder 74 = .ok (.aload_n 0, 1) := by decide +kernel
theorem dX5_addSeconder_75 : decode cX5_addSeconder 75 = .ok (.getfield 28, 3) := by decide +kernel
theorem dX5_addSeconder_78 : decode cX5_addSeconder 78 = .ok (.getfield 118, 3) := by decide +kernel
theorem dX5_addSeconder_81 : decode cX5_addSeconder 81 = .ok (.iload_n 2, 1) := by decide +kernel
theorem dX5_addSeconder_82 : decode cX5_addSeconder 82 = .ok (.dup2, 1) := by decide +kernel
theorem dX5_addSeconder_83 : decode cX5_addSeconder 83 = .ok (.iaload, 1) := by decide +kernel
theorem dX5_addSeconder_84 : decode cX5_addSeconder 84 = .ok (.aload_n 0, 1) := by decide +kernel
theorem dX5_addSeconder_85 : decode cX5_addSeconder 85 = .ok (.getfield 12, 3) := by decide +kernel
theorem dX5_addSeconder_88 : decode cX5_addSeconder 88 = .ok (.getfield 103, 3) := by decide +kernel
theorem dX5_addSeconder_91 : decode cX5_addSeconder 91 = .ok (.iload_n 1, 1) := by decide +kernel
theorem dX5_addSeconder_92 : decode cX5_addSeconder 92 = .ok (.iaload, 1) := by decide +kernel
theorem dX5_addSeconder_93 : decode cX5_addSeconder 93 = .ok (.iadd, 1) := by decide +kernel
theorem dX5_addSeconder_94 : decode cX5_addSeconder 94 = .ok (.iastore, 1) := by decide +kernel
theorem dX5_addSeconder_95 : decode cX5_addSeconder 95 = .ok (.aload_n 0, 1) := by decide +kernel
theorem dX5_addSeconder_96 : decode cX5_addSeconder 96 = .ok (.getfield 28, 3) := by decide +kernel
theorem dX5_addSeconder_99 : decode cX5_addSeconder 99 = .ok (.getfield 118, 3) := by decide +kernel
theorem dX5_addSeconder_102 : decode cX5_addSeconder 102 = .ok (.iload_n 2, 1) := by decide +kernel
theorem dX5_addSeconder_103 : decode cX5_addSeconder 103 = .ok (.iaload, 1) := by decide +kernel
theorem dX5_addSeconder_104 : decode cX5_addSeconder 104 = .ok (.ireturn, 1) := by decide +kernel
theorem dX5_endDays_0 : decode cX5_endDays 0 = .ok (.iload_n 1, 1) := by decide +kernel
theorem dX5_endDays_1 : decode cX5_endDays 1 = .ok (.iconst 1, 1) := by decide +kernel
theorem dX5_endDays_2 : decode cX5_endDays 2 = .ok (.if_icmp .lt 9, 3) := by decide +kernel
theorem dX5_endDays_5 : decode cX5_endDays 5 = .ok (.iload_n 1, 1) := by decide +kernel
theorem dX5_endDays_6 : decode cX5_endDays 6 = .ok (.bipush 99, 2) := by decide +kernel
theorem dX5_endDays_8 : decode cX5_endDays 8 = .ok (.if_icmp .le 6, 3) := by decide +kernel
theorem dX5_endDays_11 : decode cX5_endDays 11 = .ok (.bipush (-2), 2) := by decide +kernel
theorem dX5_endDays_13 : decode cX5_endDays 13 = .ok (.ireturn, 1) := by decide +kernel
theorem dX5_endDays_14 : decode cX5_endDays 14 = .ok (.aload_n 0, 1) := by decide +kernel
theorem dX5_endDays_15 : decode cX5_endDays 15 = .ok (.getfield 59, 3) := by decide +kernel
theorem dX5_endDays_18 : decode cX5_endDays 18 = .ok (.iload_n 1, 1) := by decide +kernel
theorem dX5_endDays_19 : decode cX5_endDays 19 = .ok (.iadd, 1) := by decide +kernel
theorem dX5_endDays_20 : decode cX5_endDays 20 = .ok (.ldc 121, 2) := by decide +kernel
theorem dX5_endDays_22 : decode cX5_endDays 22 = .ok (.if_icmp .le 6, 3) := by decide +kernel
theorem dX5_endDays_25 : decode cX5_endDays 25 = .ok (.bipush (-3), 2) := by decide +kernel
theorem dX5_endDays_27 : decode cX5_endDays 27 = .ok (.ireturn, 1) := by decide +kernel
theorem dX5_endDays_28 : decode cX5_endDays 28 = .ok (.iconst 0, 1) := by decide +kernel
theorem dX5_endDays_29 : decode cX5_endDays 29 = .ok (.istore_n 2, 1) := by decide +kernel
theorem dX5_endDays_30 : decode cX5_endDays 30 = .ok (.iconst 0, 1) := by decide +kernel
theorem dX5_endDays_31 : decode cX5_endDays 31 = .ok (.istore_n 3, 1) := by decide +kernel
theorem dX5_endDays_32 : decode cX5_endDays 32 = .ok (.iload_n 3, 1) := by decide +kernel
theorem dX5_endDays_33 : decode cX5_endDays 33 = .ok (.iload_n 1, 1) := by decide +kernel
theorem dX5_endDays_34 : decode cX5_endDays 34 = .ok (.if_icmp .ge 49, 3) := by decide +kernel
theorem dX5_endDays_37 : decode cX5_endDays 37 = .ok (.aload_n 0, 1) := by decide +kernel
theorem dX5_endDays_38 : decode cX5_endDays 38 = .ok (.dup, 1) := by decide +kernel
theorem dX5_endDays_39 : decode cX5_endDays 39 = .ok (.getfield 59, 3) := by decide +kernel
theorem dX5_endDays_42 : decode cX5_endDays 42 = .ok (.iconst 1, 1) := by decide +kernel
theorem dX5_endDays_43 : decode cX5_endDays 43 = .ok (.iadd, 1) := by decide +kernel
theorem dX5_endDays_44 : decode cX5_endDays 44 = .ok (.putfield 59, 3) := by decide +kernel
theorem dX5_endDays_47 : decode cX5_endDays 47 = .ok (.aload_n 0, 1) := by decide +kernel
theorem dX5_endDays_48 : decode cX5_endDays 48 = .ok (.dup, 1) := by decide +kernel
theorem dX5_endDays_49 : decode cX5_endDays 49 = .ok (.getfield 66, 3) := by decide +kernel
theorem dX5_endDays_52 : decode cX5_endDays 52 = .ok (.iconst 1, 1) := by decide +kernel
theorem dX5_endDays_53 : decode cX5_endDays 53 = .ok (.iadd, 1) := by decide +kernel
theorem dX5_endDays_54 : decode cX5_endDays 54 = .ok (.putfield 66, 3) := by decide +kernel
theorem dX5_endDays_57 : decode cX5_endDays 57 = .ok (.aload_n 0, 1) := by decide +kernel
theorem dX5_endDays_58 : decode cX5_endDays 58 = .ok (.getfield 66, 3) := by decide +kernel
theorem dX5_endDays_61 : decode cX5_endDays 61 = .ok (.aload_n 0, 1) := by decide +kernel
theorem dX5_endDays_62 : decode cX5_endDays 62 = .ok (.getfield 39, 3) := by decide +kernel
theorem dX5_endDays_65 : decode cX5_endDays 65 = .ok (.iconst 1, 1) := by decide +kernel
theorem dX5_endDays_66 : decode cX5_endDays 66 = .ok (.iaload, 1) := by decide +kernel
theorem dX5_endDays_67 : decode cX5_endDays 67 = .ok (.if_icmp .lt 10, 3) := by decide +kernel
theorem dX5_endDays_70 : decode cX5_endDays 70 = .ok (.iload_n 2, 1) := by decide +kernel
theorem dX5_endDays_71 : decode cX5_endDays 71 = .ok (.aload_n 0, 1) := by decide +kernel
theorem dX5_endDays_72 : decode cX5_endDays 72 = .ok (.invokevirtual 122, 3) := by decide +kernel
theorem dX5_endDays_75 : decode cX5_endDays 75 = .ok (.iadd, 1) := by decide +kernel
theorem dX5_endDays_76 : decode cX5_endDays 76 = .ok (.istore_n 2, 1) := by decide +kernel
theorem dX5_endDays_77 : decode cX5_endDays 77 = .ok (.iinc 3 1, 3) := by decide +kernel
theorem dX5_endDays_80 : decode cX5_endDays 80 = .ok (.goto (-48), 3) := by decide +kernel
theorem dX5_endDays_83 : decode cX5_endDays 83 = .ok (.iload_n 2, 1) := by decide +kernel
theorem dX5_endDays_84 : decode cX5_endDays 84 = .ok (.ireturn, 1) := by decide +kernel
theorem dX5_changeSetting_0 : decode cX5_changeSetting 0 = .ok (.iload_n 1, 1) := by decide +kernel
theorem dX5_changeSetting_1 : decode cX5_changeSetting 1 = .ok (.ifCond .eq 10, 3) := by decide +kernel
theorem dX5_changeSetting_4 : decode cX5_changeSetting 4 = .ok (.iload_n 1, 1) := by decide +kernel
theorem dX5_changeSetting_5 : decode cX5_changeSetting 5 = .ok (.iconst 1, 1) := by decide +kernel
theorem dX5_changeSetting_6 : decode cX5_changeSetting 6 = .ok (.if_icmp .eq 5, 3) := by decide +kernel
theorem dX5_changeSetting_9 : decode cX5_changeSetting 9 = .ok (.iconst (-1), 1) := by decide +kernel
theorem dX5_changeSetting_10 : decode cX5_changeSetting 10 = .ok (.ireturn, 1) := by decide +kernel
theorem dX5_changeSetting_11 : decode cX5_changeSetting 11 = .ok (.iload_n 1, 1) := by decide +kernel
theorem dX5_changeSetting_12 : decode cX5_changeSetting 12 = .ok (.ifCond .ne 7, 3) := by decide +kernel
theorem dX5_changeSetting_15 : decode cX5_changeSetting 15 = .ok (.iconst 0, 1) := by decide +kernel
theorem dX5_changeSetting_16 : decode cX5_changeSetting 16 = .ok (.goto 4, 3) := by decide +kernel
theorem dX5_changeSetting_19 : decode cX5_changeSetting 19 = .ok (.iconst 1, 1) := by decide +kernel
theorem dX5_changeSetting_20 : decode cX5_changeSetting 20 = .ok (.istore_n 3, 1) := by decide +kernel
theorem dX5_changeSetting_21 : decode cX5_changeSetting 21 = .ok (.iload_n 2, 1) := by decide +kernel
theorem dX5_changeSetting_22 : decode cX5_changeSetting 22 = .ok (.iload_n 3, 1) := by decide +kernel
theorem dX5_changeSetting_23 : decode cX5_changeSetting 23 = .ok (.if_icmp .lt 9, 3) := by decide +kernel
theorem dX5_changeSetting_26 : decode cX5_changeSetting 26 = .ok (.iload_n 2, 1) := by decide +kernel
theorem dX5_changeSetting_27 : decode cX5_changeSetting 27 = .ok (.bipush 60, 2) := by decide +kernel
theorem dX5_changeSetting_29 : decode cX5_changeSetting 29 = .ok (.if_icmp .le 6, 3) := by decide +kernel
theorem dX5_changeSetting_32 : decode cX5_changeSetting 32 = .ok (.bipush (-2), 2) := by decide +kernel
theorem dX5_changeSetting_34 : decode cX5_changeSetting 34 = .ok (.ireturn, 1) := by decide +kernel
theorem dX5_changeSetting_35 : decode cX5_changeSetting 35 = .ok (.aload_n 0, 1) := by decide +kernel
theorem dX5_changeSetting_36 : decode cX5_changeSetting 36 = .ok (.getfield 39, 3) := by decide +kernel
theorem dX5_changeSetting_39 : decode cX5_changeSetting 39 = .ok (.iload_n 1, 1) := by decide +kernel
theorem dX5_changeSetting_40 : decode cX5_changeSetting 40 = .ok (.iaload, 1) := by decide +kernel
theorem dX5_changeSetting_41 : decode cX5_changeSetting 41 = .ok (.istore 4, 2) := by decide +kernel
theorem dX5_changeSetting_43 : decode cX5_changeSetting 43 = .ok (.iload 4, 2) := by decide +kernel
theorem dX5_changeSetting_45 : decode cX5_changeSetting 45 = .ok (.iload_n 2, 1) := by decide +kernel
theorem dX5_changeSetting_46 : decode cX5_changeSetting 46 = .ok (.if_icmp .ne 6, 3) := by decide +kernel
theorem dX5_changeSetting_49 : decode cX5_changeSetting 49 = .ok (.bipush (-5), 2) := by decide +kernel
theorem dX5_changeSetting_51 : decode cX5_changeSetting 51 = .ok (.ireturn, 1) := by decide +kernel
theorem dX5_changeSetting_52 : decode cX5_changeSetting 52 = .ok (.aload_n 0, 1) := by decide +kernel
theorem dX5_changeSetting_53 : decode cX5_changeSetting 53 = .ok (.getfield 39, 3) := by decide +kernel
theorem dX5_changeSetting_56 : decode cX5_changeSetting 56 = .ok (.iload_n 1, 1) := by decide +kernel
theorem dX5_changeSetting_57 : decode cX5_changeSetting 57 = .ok (.iload_n 2, 1) := by decide +kernel
theorem dX5_changeSetting_58 : decode cX5_changeSetting 58 = .ok (.iastore, 1) := by decide +kernel
theorem dX5_changeSetting_59 : decode cX5_changeSetting 59 = .ok (.iload 4, 2) := by decide +kernel
theorem dX5_changeSetting_61 : decode cX5_changeSetting 61 = .ok (.ireturn, 1) := by decide +kernel
theorem dX5_endSeason_0 : decode cX5_endSeason 0 = .ok (.aload_n 0, 1) := by decide +kernel
theorem dX5_endSeason_1 : decode cX5_endSeason 1 = .ok (.invokevirtual 126, 3) := by decide +kernel
theorem dX5_endSeason_4 : decode cX5_endSeason 4 = .ok (.istore_n 1, 1) := by decide +kernel
theorem dX5_endSeason_5 : decode cX5_endSeason 5 = .ok (.aload_n 0, 1) := by decide +kernel
theorem dX5_endSeason_6 : decode cX5_endSeason 6 = .ok (.getfield 35, 3) := by decide +kernel
theorem dX5_endSeason_9 : decode cX5_endSeason 9 = .ok (.iconst 0, 1) := by decide +kernel
theorem dX5_endSeason_10 : decode cX5_endSeason 10 = .ok (.putfield 129, 3) := by decide +kernel
theorem dX5_endSeason_13 : decode cX5_endSeason 13 = .ok (.iconst 0, 1) := by decide +kernel
theorem dX5_endSeason_14 : decode cX5_endSeason 14 = .ok (.istore_n 2, 1) := by decide +kernel
theorem dX5_endSeason_15 : decode cX5_endSeason 15 = .ok (.iload_n 2, 1) := by decide +kernel
theorem dX5_endSeason_16 : decode cX5_endSeason 16 = .ok (.aload_n 0, 1) := by decide +kernel
theorem dX5_endSeason_17 : decode cX5_endSeason 17 = .ok (.getfield 28, 3) := by decide +kernel
theorem dX5_endSeason_20 : decode cX5_endSeason 20 = .ok (.getfield 99, 3) := by decide +kernel
theorem dX5_endSeason_23 : decode cX5_endSeason 23 = .ok (.if_icmp .ge 69, 3) := by decide +kernel
theorem dX5_endSeason_26 : decode cX5_endSeason 26 = .ok (.aload_n 0, 1) := by decide +kernel
theorem dX5_endSeason_27 : decode cX5_endSeason 27 = .ok (.getfield 28, 3) := by decide +kernel
theorem dX5_endSeason_30 : decode cX5_endSeason 30 = .ok (.getfield 112, 3) := by decide +kernel
theorem dX5_endSeason_33 : decode cX5_endSeason 33 = .ok (.iload_n 2, 1) := by decide +kernel
theorem dX5_endSeason_34 : decode cX5_endSeason 34 = .ok (.iaload, 1) := by decide +kernel
theorem dX5_endSeason_35 : decode cX5_endSeason 35 = .ok (.istore_n 3, 1) := by decide +kernel
theorem dX5_endSeason_36 : decode cX5_endSeason 36 = .ok (.aload_n 0, 1) := by decide +kernel
theorem dX5_endSeason_37 : decode cX5_endSeason 37 = .ok (.getfield 43, 3) := by decide +kernel
theorem dX5_endSeason_40 : decode cX5_endSeason 40 = .ok (.iload_n 2, 1) := by decide +kernel
theorem dX5_endSeason_41 : decode cX5_endSeason 41 = .ok (.iaload, 1) := by decide +kernel
theorem dX5_endSeason_42 : decode cX5_endSeason 42 = .ok (.ifCond .ne 19, 3) := by decide +kernel
theorem dX5_endSeason_45 : decode cX5_endSeason 45 = .ok (.aload_n 0, 1) := by decide +kernel
theorem dX5_endSeason_46 : decode cX5_endSeason 46 = .ok (.getfield 12, 3) := by decide +kernel
theorem dX5_endSeason_49 : decode cX5_endSeason 49 = .ok (.getfield 130, 3) := by decide +kernel
theorem dX5_endSeason_52 : decode cX5_endSeason 52 = .ok (.iload_n 3, 1) := by decide +kernel
theorem dX5_endSeason_53 : decode cX5_endSeason 53 = .ok (.dup2, 1) := by decide +kernel
theorem dX5_endSeason_54 : decode cX5_endSeason 54 = .ok (.iaload, 1) := by decide +kernel
theorem dX5_endSeason_55 : decode cX5_endSeason 55 = .ok (.iconst 1, 1) := by decide +kernel
theorem dX5_endSeason_56 : decode cX5_endSeason 56 = .ok (.iadd, 1) := by decide +kernel
theorem dX5_endSeason_57 : decode cX5_endSeason 57 = .ok (.iastore, 1) := by decide +kernel
theorem dX5_endSeason_58 : decode cX5_endSeason 58 = .ok (.goto 28, 3) := by decide +kernel
theorem dX5_endSeason_61 : decode cX5_endSeason 61 = .ok (.aload_n 0, 1) := by decide +kernel
theorem dX5_endSeason_62 : decode cX5_endSeason 62 = .ok (.getfield 12, 3) := by decide +kernel
theorem dX5_endSeason_65 : decode cX5_endSeason 65 = .ok (.getfield 133, 3) := by decide +kernel
theorem dX5_endSeason_68 : decode cX5_endSeason 68 = .ok (.iload_n 3, 1) := by decide +kernel
theorem dX5_endSeason_69 : decode cX5_endSeason 69 = .ok (.dup2, 1) := by decide +kernel
theorem dX5_endSeason_70 : decode cX5_endSeason 70 = .ok (.iaload, 1) := by decide +kernel
theorem dX5_endSeason_71 : decode cX5_endSeason 71 = .ok (.iconst 1, 1) := by decide +kernel
theorem dX5_endSeason_72 : decode cX5_endSeason 72 = .ok (.iadd, 1) := by decide +kernel
theorem dX5_endSeason_73 : decode cX5_endSeason 73 = .ok (.iastore, 1) := by decide +kernel
theorem dX5_endSeason_74 : decode cX5_endSeason 74 = .ok (.aload_n 0, 1) := by decide +kernel
theorem dX5_endSeason_75 : decode cX5_endSeason 75 = .ok (.getfield 35, 3) := by decide +kernel
theorem dX5_endSeason_78 : decode cX5_endSeason 78 = .ok (.aload_n 0, 1) := by decide +kernel
theorem dX5_endSeason_79 : decode cX5_endSeason 79 = .ok (.getfield 28, 3) := by decide +kernel
theorem dX5_endSeason_82 : decode cX5_endSeason 82 = .ok (.iload_n 2, 1) := by decide +kernel
theorem dX5_endSeason_83 : decode cX5_endSeason 83 = .ok (.invokevirtual 136, 3) := by decide +kernel
theorem dX5_endSeason_86 : decode cX5_endSeason 86 = .ok (.iinc 2 1, 3) := by decide +kernel
theorem dX5_endSeason_89 : decode cX5_endSeason 89 = .ok (.goto (-74), 3) := by decide +kernel
theorem dX5_endSeason_92 : decode cX5_endSeason 92 = .ok (.aload_n 0, 1) := by decide +kernel
theorem dX5_endSeason_93 : decode cX5_endSeason 93 = .ok (.getfield 28, 3) := by decide +kernel
theorem dX5_endSeason_96 : decode cX5_endSeason 96 = .ok (.iconst 0, 1) := by decide +kernel
theorem dX5_endSeason_97 : decode cX5_endSeason 97 = .ok (.putfield 99, 3) := by decide +kernel
theorem dX5_endSeason_100 : decode cX5_endSeason 100 = .ok (.aload_n 0, 1) := by decide +kernel
theorem dX5_endSeason_101 : decode cX5_endSeason 101 = .ok (.dup, 1) := by decide +kernel
theorem dX5_endSeason_102 : decode cX5_endSeason 102 = .ok (.getfield 63, 3) := by decide +kernel
theorem dX5_endSeason_105 : decode cX5_endSeason 105 = .ok (.iconst 1, 1) := by decide +kernel
theorem dX5_endSeason_106 : decode cX5_endSeason 106 = .ok (.iadd, 1) := by decide +kernel
theorem dX5_endSeason_107 : decode cX5_endSeason 107 = .ok (.putfield 63, 3) := by decide +kernel
theorem dX5_endSeason_110 : decode cX5_endSeason 110 = .ok (.aload_n 0, 1) := by decide +kernel
theorem dX5_endSeason_111 : decode cX5_endSeason 111 = .ok (.iconst 0, 1) := by decide +kernel
theorem dX5_endSeason_112 : decode cX5_endSeason 112 = .ok (.putfield 66, 3) := by decide +kernel
theorem dX5_endSeason_115 : decode cX5_endSeason 115 = .ok (.iload_n 1, 1) := by decide +kernel
theorem dX5_endSeason_116 : decode cX5_endSeason 116 = .ok (.ireturn, 1) := by decide +kernel
theorem dX5_hearPetitions_0 : decode cX5_hearPetitions 0 = .ok (.iconst 0, 1) := by decide +kernel
theorem dX5_hearPetitions_1 : decode cX5_hearPetitions 1 = .ok (.istore_n 1, 1) := by decide +kernel
theorem dX5_hearPetitions_2 : decode cX5_hearPetitions 2 = .ok (.iconst 0, 1) := by decide +kernel
theorem dX5_hearPetitions_3 : decode cX5_hearPetitions 3 = .ok (.istore_n 2, 1) := by decide +kernel
theorem dX5_hearPetitions_4 : decode cX5_hearPetitions 4 = .ok (.iload_n 2, 1) := by decide +kernel
theorem dX5_hearPetitions_5 : decode cX5_hearPetitions 5 = .ok (.aload_n 0, 1) := by decide +kernel
theorem dX5_hearPetitions_6 : decode cX5_hearPetitions 6 = .ok (.getfield 28, 3) := by decide +kernel
theorem dX5_hearPetitions_9 : decode cX5_hearPetitions 9 = .ok (.getfield 99, 3) := by decide +kernel
theorem dX5_hearPetitions_12 : decode cX5_hearPetitions 12 = .ok (.if_icmp .ge 61, 3) := by decide +kernel
theorem dX5_hearPetitions_15 : decode cX5_hearPetitions 15 = .ok (.aload_n 0, 1) := by decide +kernel
theorem dX5_hearPetitions_16 : decode cX5_hearPetitions 16 = .ok (.getfield 28, 3) := by decide +kernel
theorem dX5_hearPetitions_19 : decode cX5_hearPetitions 19 = .ok (.iload_n 2, 1) := by decide +kernel
theorem dX5_hearPetitions_20 : decode cX5_hearPetitions 20 = .ok (.invokevirtual 139, 3) := by decide +kernel
theorem dX5_hearPetitions_23 : decode cX5_hearPetitions 23 = .ok (.istore_n 3, 1) := by decide +kernel
theorem dX5_hearPetitions_24 : decode cX5_hearPetitions 24 = .ok (.iload_n 3, 1) := by decide +kernel
theorem dX5_hearPetitions_25 : decode cX5_hearPetitions 25 = .ok (.bipush (-5), 2) := by decide +kernel
theorem dX5_hearPetitions_27 : decode cX5_hearPetitions 27 = .ok (.if_icmp .eq 40, 3) := by decide +kernel
theorem dX5_hearPetitions_30 : decode cX5_hearPetitions 30 = .ok (.aload_n 0, 1) := by decide +kernel
theorem dX5_hearPetitions_31 : decode cX5_hearPetitions 31 = .ok (.iload_n 3, 1) := by decide +kernel
theorem dX5_hearPetitions_32 : decode cX5_hearPetitions 32 = .ok (.aload_n 0, 1) := by decide +kernel
theorem dX5_hearPetitions_33 : decode cX5_hearPetitions 33 = .ok (.getfield 28, 3) := by decide +kernel
theorem dX5_hearPetitions_36 : decode cX5_hearPetitions 36 = .ok (.getfield 118, 3) := by decide +kernel
theorem dX5_hearPetitions_39 : decode cX5_hearPetitions 39 = .ok (.iload_n 3, 1) := by decide +kernel
theorem dX5_hearPetitions_40 : decode cX5_hearPetitions 40 = .ok (.iaload, 1) := by decide +kernel
theorem dX5_hearPetitions_41 : decode cX5_hearPetitions 41 = .ok (.invokevirtual 142, 3) := by decide +kernel
theorem dX5_hearPetitions_44 : decode cX5_hearPetitions 44 = .ok (.istore 4, 2) := by decide +kernel
theorem dX5_hearPetitions_46 : decode cX5_hearPetitions 46 = .ok (.aload_n 0, 1) := by decide +kernel
theorem dX5_hearPetitions_47 : decode cX5_hearPetitions 47 = .ok (.getfield 43, 3) := by decide +kernel
theorem dX5_hearPetitions_50 : decode cX5_hearPetitions 50 = .ok (.iload_n 3, 1) := by decide +kernel
theorem dX5_hearPetitions_51 : decode cX5_hearPetitions 51 = .ok (.iload 4, 2) := by decide +kernel
theorem dX5_hearPetitions_53 : decode cX5_hearPetitions 53 = .ok (.iastore, 1) := by decide +kernel
theorem dX5_hearPetitions_54 : decode cX5_hearPetitions 54 = .ok (.iload 4, 2) := by decide +kernel
theorem dX5_hearPetitions_56 : decode cX5_hearPetitions 56 = .ok (.ifCond .ne 11, 3) := by decide +kernel
theorem dX5_hearPetitions_59 : decode cX5_hearPetitions 59 = .ok (.aload_n 0, 1) := by decide +kernel
theorem dX5_hearPetitions_60 : decode cX5_hearPetitions 60 = .ok (.iload_n 3, 1) := by decide +kernel
theorem dX5_hearPetitions_61 : decode cX5_hearPetitions 61 = .ok (.invokevirtual 145, 3) := by decide +kernel
theorem dX5_hearPetitions_64 : decode cX5_hearPetitions 64 = .ok (.iinc 1 1, 3) := by decide +kernel
theorem dX5_hearPetitions_67 : decode cX5_hearPetitions 67 = .ok (.iinc 2 1, 3) := by decide +kernel
theorem dX5_hearPetitions_70 : decode cX5_hearPetitions 70 = .ok (.goto (-66), 3) := by decide +kernel
theorem dX5_hearPetitions_73 : decode cX5_hearPetitions 73 = .ok (.iload_n 1, 1) := by decide +kernel
theorem dX5_hearPetitions_74 : decode cX5_hearPetitions 74 = .ok (.ireturn, 1) := by decide +kernel
theorem dX5_reasonToRefuse_0 : decode cX5_reasonToRefuse 0 = .ok (.aload_n 0, 1) := by decide +kernel
theorem dX5_reasonToRefuse_1 : decode cX5_reasonToRefuse 1 = .ok (.getfield 28, 3) := by decide +kernel
theorem dX5_reasonToRefuse_4 : decode cX5_reasonToRefuse 4 = .ok (.getfield 149, 3) := by decide +kernel
theorem dX5_reasonToRefuse_7 : decode cX5_reasonToRefuse 7 = .ok (.iload_n 1, 1) := by decide +kernel
theorem dX5_reasonToRefuse_8 : decode cX5_reasonToRefuse 8 = .ok (.iaload, 1) := by decide +kernel
theorem dX5_reasonToRefuse_9 : decode cX5_reasonToRefuse 9 = .ok (.istore_n 3, 1) := by decide +kernel
theorem dX5_reasonToRefuse_10 : decode cX5_reasonToRefuse 10 = .ok (.aload_n 0, 1) := by decide +kernel
theorem dX5_reasonToRefuse_11 : decode cX5_reasonToRefuse 11 = .ok (.getfield 28, 3) := by decide +kernel
theorem dX5_reasonToRefuse_14 : decode cX5_reasonToRefuse 14 = .ok (.getfield 152, 3) := by decide +kernel
theorem dX5_reasonToRefuse_17 : decode cX5_reasonToRefuse 17 = .ok (.iload_n 1, 1) := by decide +kernel
theorem dX5_reasonToRefuse_18 : decode cX5_reasonToRefuse 18 = .ok (.iaload, 1) := by decide +kernel
theorem dX5_reasonToRefuse_19 : decode cX5_reasonToRefuse 19 = .ok (.istore 4, 2) := by decide +kernel
theorem dX5_reasonToRefuse_21 : decode cX5_reasonToRefuse 21 = .ok (.aload_n 0, 1) := by decide +kernel
theorem dX5_reasonToRefuse_22 : decode cX5_reasonToRefuse 22 = .ok (.getfield 28, 3) := by decide +kernel
theorem dX5_reasonToRefuse_25 : decode cX5_reasonToRefuse 25 = .ok (.getfield 155, 3) := by decide +kernel
theorem dX5_reasonToRefuse_28 : decode cX5_reasonToRefuse 28 = .ok (.iload_n 1, 1) := by decide +kernel
theorem dX5_reasonToRefuse_29 : decode cX5_reasonToRefuse 29 = .ok (.iaload, 1) := by decide +kernel
theorem dX5_reasonToRefuse_30 : decode cX5_reasonToRefuse 30 = .ok (.istore 5, 2) := by decide +kernel
theorem dX5_reasonToRefuse_32 : decode cX5_reasonToRefuse 32 = .ok (.iload_n 2, 1) := by decide +kernel
theorem dX5_reasonToRefuse_33 : decode cX5_reasonToRefuse 33 = .ok (.aload_n 0, 1) := by decide +kernel
theorem dX5_reasonToRefuse_34 : decode cX5_reasonToRefuse 34 = .ok (.getfield 39, 3) := by decide +kernel
theorem dX5_reasonToRefuse_37 : decode cX5_reasonToRefuse 37 = .ok (.iconst 0, 1) := by decide +kernel
theorem dX5_reasonToRefuse_38 : decode cX5_reasonToRefuse 38 = .ok (.iaload, 1) := by decide +kernel
theorem dX5_reasonToRefuse_39 : decode cX5_reasonToRefuse 39 = .ok (.if_icmp .ge 5, 3) := by decide +kernel
theorem dX5_reasonToRefuse_42 : decode cX5_reasonToRefuse 42 = .ok (.iconst 1, 1) := by decide +kernel
theorem dX5_reasonToRefuse_43 : decode cX5_reasonToRefuse 43 = .ok (.ireturn, 1) := by decide +kernel
theorem dX5_reasonToRefuse_44 : decode cX5_reasonToRefuse 44 = .ok (.iload_n 2, 1) := by decide +kernel
theorem dX5_reasonToRefuse_45 : decode cX5_reasonToRefuse 45 = .ok (.aload_n 0, 1) := by decide +kernel
theorem dX5_reasonToRefuse_46 : decode cX5_reasonToRefuse 46 = .ok (.getfield 35, 3) := by decide +kernel
theorem dX5_reasonToRefuse_49 : decode cX5_reasonToRefuse 49 = .ok (.iload_n 3, 1) := by decide +kernel
theorem dX5_reasonToRefuse_50 : decode cX5_reasonToRefuse 50 = .ok (.iload 4, 2) := by decide +kernel
theorem dX5_reasonToRefuse_52 : decode cX5_reasonToRefuse 52 = .ok (.iload 5, 2) := by decide +kernel
theorem dX5_reasonToRefuse_54 : decode cX5_reasonToRefuse 54 = .ok (.invokevirtual 158, 3) := by decide +kernel
theorem dX5_reasonToRefuse_57 : decode cX5_reasonToRefuse 57 = .ok (.if_icmp .gt 5, 3) := by decide +kernel
theorem dX5_reasonToRefuse_60 : decode cX5_reasonToRefuse 60 = .ok (.iconst 2, 1) := by decide +kernel
theorem dX5_reasonToRefuse_61 : decode cX5_reasonToRefuse 61 = .ok (.ireturn, 1) := by decide +kernel
theorem dX5_reasonToRefuse_62 : decode cX5_reasonToRefuse 62 = .ok (.aload_n 0, 1) := by decide +kernel
theorem dX5_reasonToRefuse_63 : decode cX5_reasonToRefuse 63 = .ok (.getfield 21, 3) := by decide +kernel
theorem dX5_reasonToRefuse_66 : decode cX5_reasonToRefuse 66 = .ok (.iload_n 3, 1) := by decide +kernel
theorem dX5_reasonToRefuse_67 : decode cX5_reasonToRefuse 67 = .ok (.iload 4, 2) := by decide +kernel
theorem dX5_reasonToRefuse_69 : decode cX5_reasonToRefuse 69 = .ok (.invokevirtual 162, 3) := by decide +kernel
theorem dX5_reasonToRefuse_72 : decode cX5_reasonToRefuse 72 = .ok (.istore 6, 2) := by decide +kernel
theorem dX5_reasonToRefuse_74 : decode cX5_reasonToRefuse 74 = .ok (.iload 5, 2) := by decide +kernel
theorem dX5_reasonToRefuse_76 : decode cX5_reasonToRefuse 76 = .ok (.iconst 2, 1) := by decide +kernel
theorem dX5_reasonToRefuse_77 : decode cX5_reasonToRefuse 77 = .ok (.if_icmp .ne 30, 3) := by decide +kernel
theorem dX5_reasonToRefuse_80 : decode cX5_reasonToRefuse 80 = .ok (.iload 6, 2) := by decide +kernel
theorem dX5_reasonToRefuse_82 : decode cX5_reasonToRefuse 82 = .ok (.ifCond .ne 5, 3) := by decide +kernel
theorem dX5_reasonToRefuse_85 : decode cX5_reasonToRefuse 85 = .ok (.iconst 4, 1) := by decide +kernel
theorem dX5_reasonToRefuse_86 : decode cX5_reasonToRefuse 86 = .ok (.ireturn, 1) := by decide +kernel
theorem dX5_reasonToRefuse_87 : decode cX5_reasonToRefuse 87 = .ok (.iconst 2, 1) := by decide +kernel
theorem dX5_reasonToRefuse_88 : decode cX5_reasonToRefuse 88 = .ok (.iload_n 2, 1) := by decide +kernel
theorem dX5_reasonToRefuse_89 : decode cX5_reasonToRefuse 89 = .ok (.imul, 1) := by decide +kernel
theorem dX5_reasonToRefuse_90 : decode cX5_reasonToRefuse 90 = .ok (.aload_n 0, 1) := by decide +kernel
theorem dX5_reasonToRefuse_91 : decode cX5_reasonToRefuse 91 = .ok (.getfield 12, 3) := by decide +kernel
theorem dX5_reasonToRefuse_94 : decode cX5_reasonToRefuse 94 = .ok (.iload_n 3, 1) := by decide +kernel
theorem dX5_reasonToRefuse_95 : decode cX5_reasonToRefuse 95 = .ok (.invokevirtual 165, 3) := by decide +kernel
theorem dX5_reasonToRefuse_98 : decode cX5_reasonToRefuse 98 = .ok (.if_icmp .le 7, 3) := by decide +kernel
theorem dX5_reasonToRefuse_101 : decode cX5_reasonToRefuse 101 = .ok (.iconst 0, 1) := by decide +kernel
theorem dX5_reasonToRefuse_102 : decode cX5_reasonToRefuse 102 = .ok (.goto 4, 3) := by decide +kernel
theorem dX5_reasonToRefuse_105 : decode cX5_reasonToRefuse 105 = .ok (.iconst 5, 1) := by decide +kernel
theorem dX5_reasonToRefuse_106 : decode cX5_reasonToRefuse 106 = .ok (.ireturn, 1) := by decide +kernel
theorem dX5_reasonToRefuse_107 : decode cX5_reasonToRefuse 107 = .ok (.aload_n 0, 1) := by decide +kernel
theorem dX5_reasonToRefuse_108 : decode cX5_reasonToRefuse 108 = .ok (.getfield 21, 3) := by decide +kernel
theorem dX5_reasonToRefuse_111 : decode cX5_reasonToRefuse 111 = .ok (.bipush 6, 2) := by decide +kernel
theorem dX5_reasonToRefuse_113 : decode cX5_reasonToRefuse 113 = .ok (.iload 4, 2) := by decide +kernel
theorem dX5_reasonToRefuse_115 : decode cX5_reasonToRefuse 115 = .ok (.invokevirtual 168, 3) := by decide +kernel
theorem dX5_reasonToRefuse_118 : decode cX5_reasonToRefuse 118 = .ok (.iload 5, 2) := by decide +kernel
theorem dX5_reasonToRefuse_120 : decode cX5_reasonToRefuse 120 = .ok (.if_icmp .eq 7, 3) := by decide +kernel
theorem dX5_reasonToRefuse_123 : decode cX5_reasonToRefuse 123 = .ok (.iconst 1, 1) := by decide +kernel
theorem dX5_reasonToRefuse_124 : decode cX5_reasonToRefuse 124 = .ok (.goto 4, 3) := by decide +kernel
theorem dX5_reasonToRefuse_127 : decode cX5_reasonToRefuse 127 = .ok (.iconst 0, 1) := by decide +kernel
theorem dX5_reasonToRefuse_128 : decode cX5_reasonToRefuse 128 = .ok (.istore 7, 2) := by decide +kernel
theorem dX5_reasonToRefuse_130 : decode cX5_reasonToRefuse 130 = .ok (.iload_n 3, 1) := by decide +kernel
theorem dX5_reasonToRefuse_131 : decode cX5_reasonToRefuse 131 = .ok (.bipush 6, 2) := by decide +kernel
theorem dX5_reasonToRefuse_133 : decode cX5_reasonToRefuse 133 = .ok (.if_icmp .eq 25, 3) := by decide +kernel
theorem dX5_reasonToRefuse_136 : decode cX5_reasonToRefuse 136 = .ok (.iload 7, 2) := by decide +kernel
theorem dX5_reasonToRefuse_138 : decode cX5_reasonToRefuse 138 = .ok (.ifCond .eq 20, 3) := by decide +kernel
theorem dX5_reasonToRefuse_141 : decode cX5_reasonToRefuse 141 = .ok (.aload_n 0, 1) := by decide +kernel
theorem dX5_reasonToRefuse_142 : decode cX5_reasonToRefuse 142 = .ok (.getfield 21, 3) := by decide +kernel
theorem dX5_reasonToRefuse_145 : decode cX5_reasonToRefuse 145 = .ok (.bipush 6, 2) := by decide +kernel
theorem dX5_reasonToRefuse_147 : decode cX5_reasonToRefuse 147 = .ok (.iload 4, 2) := by decide +kernel
theorem dX5_reasonToRefuse_149 : decode cX5_reasonToRefuse 149 = .ok (.invokevirtual 162, 3) := by decide +kernel
theorem dX5_reasonToRefuse_152 : decode cX5_reasonToRefuse 152 = .ok (.iload_n 2, 1) := by decide +kernel
theorem dX5_reasonToRefuse_153 : decode cX5_reasonToRefuse 153 = .ok (.if_icmp .le 5, 3) := by decide +kernel
theorem dX5_reasonToRefuse_156 : decode cX5_reasonToRefuse 156 = .ok (.iconst 3, 1) := by decide +kernel
theorem dX5_reasonToRefuse_157 : decode cX5_reasonToRefuse 157 = .ok (.ireturn, 1) := by decide +kernel
theorem dX5_reasonToRefuse_158 : decode cX5_reasonToRefuse 158 = .ok (.aload_n 0, 1) := by decide +kernel
theorem dX5_reasonToRefuse_159 : decode cX5_reasonToRefuse 159 = .ok (.getfield 21, 3) := by decide +kernel
theorem dX5_reasonToRefuse_162 : decode cX5_reasonToRefuse 162 = .ok (.iload_n 3, 1) := by decide +kernel
theorem dX5_reasonToRefuse_163 : decode cX5_reasonToRefuse 163 = .ok (.iload 4, 2) := by decide +kernel
theorem dX5_reasonToRefuse_165 : decode cX5_reasonToRefuse 165 = .ok (.invokevirtual 168, 3) := by decide +kernel
theorem dX5_reasonToRefuse_168 : decode cX5_reasonToRefuse 168 = .ok (.iload 5, 2) := by decide +kernel
theorem dX5_reasonToRefuse_170 : decode cX5_reasonToRefuse 170 = .ok (.if_icmp .ne 13, 3) := by decide +kernel
theorem dX5_reasonToRefuse_173 : decode cX5_reasonToRefuse 173 = .ok (.iload 6, 2) := by decide +kernel
theorem dX5_reasonToRefuse_175 : decode cX5_reasonToRefuse 175 = .ok (.iload_n 2, 1) := by decide +kernel
theorem dX5_reasonToRefuse_176 : decode cX5_reasonToRefuse 176 = .ok (.if_icmp .lt 7, 3) := by decide +kernel
theorem dX5_reasonToRefuse_179 : decode cX5_reasonToRefuse 179 = .ok (.iconst 4, 1) := by decide +kernel
theorem dX5_reasonToRefuse_180 : decode cX5_reasonToRefuse 180 = .ok (.goto 4, 3) := by decide +kernel
theorem dX5_reasonToRefuse_183 : decode cX5_reasonToRefuse 183 = .ok (.iconst 0, 1) := by decide +kernel
theorem dX5_reasonToRefuse_184 : decode cX5_reasonToRefuse 184 = .ok (.ireturn, 1) := by decide +kernel
theorem dX5_grant_0 : decode cX5_grant 0 = .ok (.aload_n 0, 1) := by decide +kernel
theorem dX5_grant_1 : decode cX5_grant 1 = .ok (.getfield 28, 3) := by decide +kernel
theorem dX5_grant_4 : decode cX5_grant 4 = .ok (.getfield 149, 3) := by decide +kernel
theorem dX5_grant_7 : decode cX5_grant 7 = .ok (.iload_n 1, 1) := by decide +kernel
theorem dX5_grant_8 : decode cX5_grant 8 = .ok (.iaload, 1) := by decide +kernel
theorem dX5_grant_9 : decode cX5_grant 9 = .ok (.bipush 20, 2) := by decide +kernel
theorem dX5_grant_11 : decode cX5_grant 11 = .ok (.imul, 1) := by decide +kernel
theorem dX5_grant_12 : decode cX5_grant 12 = .ok (.aload_n 0, 1) := by decide +kernel
theorem dX5_grant_13 : decode cX5_grant 13 = .ok (.getfield 28, 3) := by decide +kernel
theorem dX5_grant_16 : decode cX5_grant 16 = .ok (.getfield 152, 3) := by decide +kernel
theorem dX5_grant_19 : decode cX5_grant 19 = .ok (.iload_n 1, 1) := by decide +kernel
theorem dX5_grant_20 : decode cX5_grant 20 = .ok (.iaload, 1) := by decide +kernel
theorem dX5_grant_21 : decode cX5_grant 21 = .ok (.iadd, 1) := by decide +kernel
theorem dX5_grant_22 : decode cX5_grant 22 = .ok (.istore_n 2, 1) := by decide +kernel
theorem dX5_grant_23 : decode cX5_grant 23 = .ok (.aload_n 0, 1) := by decide +kernel
theorem dX5_grant_24 : decode cX5_grant 24 = .ok (.getfield 28, 3) := by decide +kernel
theorem dX5_grant_27 : decode cX5_grant 27 = .ok (.getfield 155, 3) := by decide +kernel
theorem dX5_grant_30 : decode cX5_grant 30 = .ok (.iload_n 1, 1) := by decide +kernel
theorem dX5_grant_31 : decode cX5_grant 31 = .ok (.iaload, 1) := by decide +kernel
theorem dX5_grant_32 : decode cX5_grant 32 = .ok (.iconst 2, 1) := by decide +kernel
theorem dX5_grant_33 : decode cX5_grant 33 = .ok (.if_icmp .ne 26, 3) := by decide +kernel
theorem dX5_grant_36 : decode cX5_grant 36 = .ok (.aload_n 0, 1) := by decide +kernel
theorem dX5_grant_37 : decode cX5_grant 37 = .ok (.getfield 21, 3) := by decide +kernel
theorem dX5_grant_40 : decode cX5_grant 40 = .ok (.getfield 171, 3) := by decide +kernel
theorem dX5_grant_43 : decode cX5_grant 43 = .ok (.iload_n 2, 1) := by decide +kernel
theorem dX5_grant_44 : decode cX5_grant 44 = .ok (.iconst 0, 1) := by decide +kernel
theorem dX5_grant_45 : decode cX5_grant 45 = .ok (.iastore, 1) := by decide +kernel
theorem dX5_grant_46 : decode cX5_grant 46 = .ok (.aload_n 0, 1) := by decide +kernel
theorem dX5_grant_47 : decode cX5_grant 47 = .ok (.dup, 1) := by decide +kernel
theorem dX5_grant_48 : decode cX5_grant 48 = .ok (.getfield 69, 3) := by decide +kernel
theorem dX5_grant_51 : decode cX5_grant 51 = .ok (.iconst 1, 1) := by decide +kernel
theorem dX5_grant_52 : decode cX5_grant 52 = .ok (.iadd, 1) := by decide +kernel
theorem dX5_grant_53 : decode cX5_grant 53 = .ok (.putfield 69, 3) := by decide +kernel
theorem dX5_grant_56 : decode cX5_grant 56 = .ok (.goto 52, 3) := by decide +kernel
theorem dX5_grant_59 : decode cX5_grant 59 = .ok (.aload_n 0, 1) := by decide +kernel
theorem dX5_grant_60 : decode cX5_grant 60 = .ok (.getfield 21, 3) := by decide +kernel
theorem dX5_grant_63 : decode cX5_grant 63 = .ok (.getfield 174, 3) := by decide +kernel
theorem dX5_grant_66 : decode cX5_grant 66 = .ok (.iload_n 2, 1) := by decide +kernel
theorem dX5_grant_67 : decode cX5_grant 67 = .ok (.aload_n 0, 1) := by decide +kernel
theorem dX5_grant_68 : decode cX5_grant 68 = .ok (.getfield 28, 3) := by decide +kernel
theorem dX5_grant_71 : decode cX5_grant 71 = .ok (.getfield 155, 3) := by decide +kernel
theorem dX5_grant_74 : decode cX5_grant 74 = .ok (.iload_n 1, 1) := by decide +kernel
theorem dX5_grant_75 : decode cX5_grant 75 = .ok (.iaload, 1) := by decide +kernel
theorem dX5_grant_76 : decode cX5_grant 76 = .ok (.iastore, 1) := by decide +kernel
theorem dX5_grant_77 : decode cX5_grant 77 = .ok (.aload_n 0, 1) := by decide +kernel
theorem dX5_grant_78 : decode cX5_grant 78 = .ok (.getfield 21, 3) := by decide +kernel
theorem dX5_grant_81 : decode cX5_grant 81 = .ok (.getfield 171, 3) := by decide +kernel
theorem dX5_grant_84 : decode cX5_grant 84 = .ok (.iload_n 2, 1) := by decide +kernel
theorem dX5_grant_85 : decode cX5_grant 85 = .ok (.aload_n 0, 1) := by decide +kernel
theorem dX5_grant_86 : decode cX5_grant 86 = .ok (.getfield 28, 3) := by decide +kernel
theorem dX5_grant_89 : decode cX5_grant 89 = .ok (.getfield 118, 3) := by decide +kernel
theorem dX5_grant_92 : decode cX5_grant 92 = .ok (.iload_n 1, 1) := by decide +kernel
theorem dX5_grant_93 : decode cX5_grant 93 = .ok (.iaload, 1) := by decide +kernel
theorem dX5_grant_94 : decode cX5_grant 94 = .ok (.iastore, 1) := by decide +kernel
theorem dX5_grant_95 : decode cX5_grant 95 = .ok (.aload_n 0, 1) := by decide +kernel
theorem dX5_grant_96 : decode cX5_grant 96 = .ok (.getfield 21, 3) := by decide +kernel
theorem dX5_grant_99 : decode cX5_grant 99 = .ok (.getfield 177, 3) := by decide +kernel
theorem dX5_grant_102 : decode cX5_grant 102 = .ok (.iload_n 2, 1) := by decide +kernel
theorem dX5_grant_103 : decode cX5_grant 103 = .ok (.aload_n 0, 1) := by decide +kernel
theorem dX5_grant_104 : decode cX5_grant 104 = .ok (.getfield 63, 3) := by decide +kernel
theorem dX5_grant_107 : decode cX5_grant 107 = .ok (.iastore, 1) := by decide +kernel
theorem dX5_grant_108 : decode cX5_grant 108 = .ok (.return_, 1) := by decide +kernel
theorem dX6_init_0 : decode cX6_init 0 = .ok (.aload_n 0, 1) := by decide +kernel
theorem dX6_init_1 : decode cX6_init 1 = .ok (.invokespecial 3, 3) := by decide +kernel
theorem dX6_init_4 : decode cX6_init 4 = .ok (.aload_n 0, 1) := by decide +kernel
theorem dX6_init_5 : decode cX6_init 5 = .ok (.bipush 12, 2) := by decide +kernel
theorem dX6_init_7 : decode cX6_init 7 = .ok (.newarray .int, 2) := by decide +kernel
theorem dX6_init_9 : decode cX6_init 9 = .ok (.putfield 9, 3) := by decide +kernel
theorem dX6_init_12 : decode cX6_init 12 = .ok (.aload_n 0, 1) := by decide +kernel
theorem dX6_init_13 : decode cX6_init 13 = .ok (.bipush 12, 2) := by decide +kernel
theorem dX6_init_15 : decode cX6_init 15 = .ok (.newarray .int, 2) := by decide +kernel
theorem dX6_init_17 : decode cX6_init 17 = .ok (.putfield 15, 3) := by decide +kernel
theorem dX6_init_20 : decode cX6_init 20 = .ok (.aload_n 0, 1) := by decide +kernel
theorem dX6_init_21 : decode cX6_init 21 = .ok (.bipush 12, 2) := by decide +kernel
theorem dX6_init_23 : decode cX6_init 23 = .ok (.newarray .int, 2) := by decide +kernel
theorem dX6_init_25 : decode cX6_init 25 = .ok (.putfield 18, 3) := by decide +kernel
theorem dX6_init_28 : decode cX6_init 28 = .ok (.aload_n 0, 1) := by decide +kernel
theorem dX6_init_29 : decode cX6_init 29 = .ok (.bipush 12, 2) := by decide +kernel
theorem dX6_init_31 : decode cX6_init 31 = .ok (.newarray .int, 2) := by decide +kernel
theorem dX6_init_33 : decode cX6_init 33 = .ok (.putfield 21, 3) := by decide +kernel
theorem dX6_init_36 : decode cX6_init 36 = .ok (.aload_n 0, 1) := by decide +kernel
theorem dX6_init_37 : decode cX6_init 37 = .ok (.bipush 12, 2) := by decide +kernel
theorem dX6_init_39 : decode cX6_init 39 = .ok (.newarray .int, 2) := by decide +kernel
theorem dX6_init_41 : decode cX6_init 41 = .ok (.putfield 24, 3) := by decide +kernel
theorem dX6_init_44 : decode cX6_init 44 = .ok (.return_, 1) := by decide +kernel
theorem dX6_copyFrom_0 : decode cX6_copyFrom 0 = .ok (.aload_n 0, 1) := by decide +kernel
theorem dX6_copyFrom_1 : decode cX6_copyFrom 1 = .ok (.aload_n 1, 1) := by decide +kernel
theorem dX6_copyFrom_2 : decode cX6_copyFrom 2 = .ok (.getfield 27, 3) := by decide +kernel
theorem dX6_copyFrom_5 : decode cX6_copyFrom 5 = .ok (.putfield 27, 3) := by decide +kernel
theorem dX6_copyFrom_8 : decode cX6_copyFrom 8 = .ok (.aload_n 1, 1) := by decide +kernel
theorem dX6_copyFrom_9 : decode cX6_copyFrom 9 = .ok (.getfield 9, 3) := by decide +kernel
theorem dX6_copyFrom_12 : decode cX6_copyFrom 12 = .ok (.iconst 0, 1) := by decide +kernel
theorem dX6_copyFrom_13 : decode cX6_copyFrom 13 = .ok (.aload_n 0, 1) := by decide +kernel
theorem dX6_copyFrom_14 : decode cX6_copyFrom 14 = .ok (.getfield 9, 3) := by decide +kernel
theorem dX6_copyFrom_17 : decode cX6_copyFrom 17 = .ok (.iconst 0, 1) := by decide +kernel
theorem dX6_copyFrom_18 : decode cX6_copyFrom 18 = .ok (.bipush 12, 2) := by decide +kernel
theorem dX6_copyFrom_20 : decode cX6_copyFrom 20 = .ok (.invokestatic 31, 3) := by decide +kernel
theorem dX6_copyFrom_23 : decode cX6_copyFrom 23 = .ok (.aload_n 1, 1) := by decide +kernel
theorem dX6_copyFrom_24 : decode cX6_copyFrom 24 = .ok (.getfield 15, 3) := by decide +kernel
theorem dX6_copyFrom_27 : decode cX6_copyFrom 27 = .ok (.iconst 0, 1) := by decide +kernel
theorem dX6_copyFrom_28 : decode cX6_copyFrom 28 = .ok (.aload_n 0, 1) := by decide +kernel
theorem dX6_copyFrom_29 : decode cX6_copyFrom 29 = .ok (.getfield 15, 3) := by decide +kernel
theorem dX6_copyFrom_32 : decode cX6_copyFrom 32 = .ok (.iconst 0, 1) := by decide +kernel
theorem dX6_copyFrom_33 : decode cX6_copyFrom 33 = .ok (.bipush 12, 2) := by decide +kernel
theorem dX6_copyFrom_35 : decode cX6_copyFrom 35 = .ok (.invokestatic 31, 3) := by decide +kernel
theorem dX6_copyFrom_38 : decode cX6_copyFrom 38 = .ok (.aload_n 1, 1) := by decide +kernel
theorem dX6_copyFrom_39 : decode cX6_copyFrom 39 = .ok (.getfield 18, 3) := by decide +kernel
theorem dX6_copyFrom_42 : decode cX6_copyFrom 42 = .ok (.iconst 0, 1) := by decide +kernel
theorem dX6_copyFrom_43 : decode cX6_copyFrom 43 = .ok (.aload_n 0, 1) := by decide +kernel
theorem dX6_copyFrom_44 : decode cX6_copyFrom 44 = .ok (.getfield 18, 3) := by decide +kernel
theorem dX6_copyFrom_47 : decode cX6_copyFrom 47 = .ok (.iconst 0, 1) := by decide +kernel
theorem dX6_copyFrom_48 : decode cX6_copyFrom 48 = .ok (.bipush 12, 2) := by decide +kernel
theorem dX6_copyFrom_50 : decode cX6_copyFrom 50 = .ok (.invokestatic 31, 3) := by decide +kernel
theorem dX6_copyFrom_53 : decode cX6_copyFrom 53 = .ok (.aload_n 1, 1) := by decide +kernel
theorem dX6_copyFrom_54 : decode cX6_copyFrom 54 = .ok (.getfield 21, 3) := by decide +kernel
theorem dX6_copyFrom_57 : decode cX6_copyFrom 57 = .ok (.iconst 0, 1) := by decide +kernel
theorem dX6_copyFrom_58 : decode cX6_copyFrom 58 = .ok (.aload_n 0, 1) := by decide +kernel
theorem dX6_copyFrom_59 : decode cX6_copyFrom 59 = .ok (.getfield 21, 3) := by decide +kernel
theorem dX6_copyFrom_62 : decode cX6_copyFrom 62 = .ok (.iconst 0, 1) := by decide +kernel
theorem dX6_copyFrom_63 : decode cX6_copyFrom 63 = .ok (.bipush 12, 2) := by decide +kernel
theorem dX6_copyFrom_65 : decode cX6_copyFrom 65 = .ok (.invokestatic 31, 3) := by decide +kernel
theorem dX6_copyFrom_68 : decode cX6_copyFrom 68 = .ok (.aload_n 1, 1) := by decide +kernel
theorem dX6_copyFrom_69 : decode cX6_copyFrom 69 = .ok (.getfield 24, 3) := by decide +kernel
theorem dX6_copyFrom_72 : decode cX6_copyFrom 72 = .ok (.iconst 0, 1) := by decide +kernel
theorem dX6_copyFrom_73 : decode cX6_copyFrom 73 = .ok (.aload_n 0, 1) := by decide +kernel
theorem dX6_copyFrom_74 : decode cX6_copyFrom 74 = .ok (.getfield 24, 3) := by decide +kernel
theorem dX6_copyFrom_77 : decode cX6_copyFrom 77 = .ok (.iconst 0, 1) := by decide +kernel
theorem dX6_copyFrom_78 : decode cX6_copyFrom 78 = .ok (.bipush 12, 2) := by decide +kernel
theorem dX6_copyFrom_80 : decode cX6_copyFrom 80 = .ok (.invokestatic 31, 3) := by decide +kernel
theorem dX6_copyFrom_83 : decode cX6_copyFrom 83 = .ok (.return_, 1) := by decide +kernel
theorem dX6_knows_0 : decode cX6_knows 0 = .ok (.iload_n 1, 1) := by decide +kernel
theorem dX6_knows_1 : decode cX6_knows 1 = .ok (.ifCond .lt 15, 3) := by decide +kernel
theorem dX6_knows_4 : decode cX6_knows 4 = .ok (.iload_n 1, 1) := by decide +kernel
theorem dX6_knows_5 : decode cX6_knows 5 = .ok (.aload_n 0, 1) := by decide +kernel
theorem dX6_knows_6 : decode cX6_knows 6 = .ok (.getfield 27, 3) := by decide +kernel
theorem dX6_knows_9 : decode cX6_knows 9 = .ok (.if_icmp .ge 7, 3) := by decide +kernel
theorem dX6_knows_12 : decode cX6_knows 12 = .ok (.iconst 1, 1) := by decide +kernel
theorem dX6_knows_13 : decode cX6_knows 13 = .ok (.goto 4, 3) := by decide +kernel
theorem dX6_knows_16 : decode cX6_knows 16 = .ok (.iconst 0, 1) := by decide +kernel
theorem dX6_knows_17 : decode cX6_knows 17 = .ok (.ireturn, 1) := by decide +kernel
theorem dX6_add_0 : decode cX6_add 0 = .ok (.aload_n 0, 1) := by decide +kernel
theorem dX6_add_1 : decode cX6_add 1 = .ok (.getfield 9, 3) := by decide +kernel
theorem dX6_add_4 : decode cX6_add 4 = .ok (.aload_n 0, 1) := by decide +kernel
theorem dX6_add_5 : decode cX6_add 5 = .ok (.getfield 27, 3) := by decide +kernel
theorem dX6_add_8 : decode cX6_add 8 = .ok (.iload_n 1, 1) := by decide +kernel
theorem dX6_add_9 : decode cX6_add 9 = .ok (.iastore, 1) := by decide +kernel
theorem dX6_add_10 : decode cX6_add 10 = .ok (.aload_n 0, 1) := by decide +kernel
theorem dX6_add_11 : decode cX6_add 11 = .ok (.getfield 15, 3) := by decide +kernel
theorem dX6_add_14 : decode cX6_add 14 = .ok (.aload_n 0, 1) := by decide +kernel
theorem dX6_add_15 : decode cX6_add 15 = .ok (.getfield 27, 3) := by decide +kernel
theorem dX6_add_18 : decode cX6_add 18 = .ok (.iload_n 2, 1) := by decide +kernel
theorem dX6_add_19 : decode cX6_add 19 = .ok (.iastore, 1) := by decide +kernel
theorem dX6_add_20 : decode cX6_add 20 = .ok (.aload_n 0, 1) := by decide +kernel
theorem dX6_add_21 : decode cX6_add 21 = .ok (.dup, 1) := by decide +kernel
theorem dX6_add_22 : decode cX6_add 22 = .ok (.getfield 27, 3) := by decide +kernel
theorem dX6_add_25 : decode cX6_add 25 = .ok (.iconst 1, 1) := by decide +kernel
theorem dX6_add_26 : decode cX6_add 26 = .ok (.iadd, 1) := by decide +kernel
theorem dX6_add_27 : decode cX6_add 27 = .ok (.putfield 27, 3) := by decide +kernel
theorem dX6_add_30 : decode cX6_add 30 = .ok (.aload_n 0, 1) := by decide +kernel
theorem dX6_add_31 : decode cX6_add 31 = .ok (.getfield 27, 3) := by decide +kernel
theorem dX6_add_34 : decode cX6_add 34 = .ok (.iconst 1, 1) := by decide +kernel
theorem dX6_add_35 : decode cX6_add 35 = .ok (.isub, 1) := by decide +kernel
theorem dX6_add_36 : decode cX6_add 36 = .ok (.ireturn, 1) := by decide +kernel
theorem dX6_weightAt_0 : decode cX6_weightAt 0 = .ok (.iconst 0, 1) := by decide +kernel
theorem dX6_weightAt_1 : decode cX6_weightAt 1 = .ok (.istore_n 2, 1) := by decide +kernel
theorem dX6_weightAt_2 : decode cX6_weightAt 2 = .ok (.iconst 0, 1) := by decide +kernel
theorem dX6_weightAt_3 : decode cX6_weightAt 3 = .ok (.istore_n 3, 1) := by decide +kernel
theorem dX6_weightAt_4 : decode cX6_weightAt 4 = .ok (.iload_n 3, 1) := by decide +kernel
theorem dX6_weightAt_5 : decode cX6_weightAt 5 = .ok (.aload_n 0, 1) := by decide +kernel
theorem dX6_weightAt_6 : decode cX6_weightAt 6 = .ok (.getfield 27, 3) := by decide +kernel
theorem dX6_weightAt_9 : decode cX6_weightAt 9 = .ok (.if_icmp .ge 34, 3) := by decide +kernel
theorem dX6_weightAt_12 : decode cX6_weightAt 12 = .ok (.iload_n 1, 1) := by decide +kernel
theorem dX6_weightAt_13 : decode cX6_weightAt 13 = .ok (.bipush 6, 2) := by decide +kernel
theorem dX6_weightAt_15 : decode cX6_weightAt 15 = .ok (.if_icmp .eq 13, 3) := by decide +kernel
theorem dX6_weightAt_18 : decode cX6_weightAt 18 = .ok (.aload_n 0, 1) := by decide +kernel
theorem dX6_weightAt_19 : decode cX6_weightAt 19 = .ok (.getfield 9, 3) := by decide +kernel
theorem dX6_weightAt_22 : decode cX6_weightAt 22 = .ok (.iload_n 3, 1) := by decide +kernel
theorem dX6_weightAt_23 : decode cX6_weightAt 23 = .ok (.iaload, 1) := by decide +kernel
theorem dX6_weightAt_24 : decode cX6_weightAt 24 = .ok (.iload_n 1, 1) := by decide +kernel
theorem dX6_weightAt_25 : decode cX6_weightAt 25 = .ok (.if_icmp .ne 12, 3) := by decide +kernel
theorem dX6_weightAt_28 : decode cX6_weightAt 28 = .ok (.iload_n 2, 1) := by decide +kernel
theorem dX6_weightAt_29 : decode cX6_weightAt 29 = .ok (.aload_n 0, 1) := by decide +kernel
theorem dX6_weightAt_30 : decode cX6_weightAt 30 = .ok (.getfield 15, 3) := by decide +kernel
theorem dX6_weightAt_33 : decode cX6_weightAt 33 = .ok (.iload_n 3, 1) := by decide +kernel
theorem dX6_weightAt_34 : decode cX6_weightAt 34 = .ok (.iaload, 1) := by decide +kernel
theorem dX6_weightAt_35 : decode cX6_weightAt 35 = .ok (.iadd, 1) := by decide +kernel
theorem dX6_weightAt_36 : decode cX6_weightAt 36 = .ok (.istore_n 2, 1) := by decide +kernel
theorem dX6_weightAt_37 : decode cX6_weightAt 37 = .ok (.iinc 3 1, 3) := by decide +kernel
theorem dX6_weightAt_40 : decode cX6_weightAt 40 = .ok (.goto (-36), 3) := by decide +kernel
theorem dX6_weightAt_43 : decode cX6_weightAt 43 = .ok (.iload_n 2, 1) := by decide +kernel
theorem dX6_weightAt_44 : decode cX6_weightAt 44 = .ok (.ireturn, 1) := by decide +kernel
theorem dX7_init_0 : decode cX7_init 0 = .ok (.aload_n 0, 1) := by decide +kernel
theorem dX7_init_1 : decode cX7_init 1 = .ok (.invokespecial 3, 3) := by decide +kernel
theorem dX7_init_4 : decode cX7_init 4 = .ok (.aload_n 0, 1) := by decide +kernel
theorem dX7_init_5 : decode cX7_init 5 = .ok (.new 9, 3) := by decide +kernel
theorem dX7_init_8 : decode cX7_init 8 = .ok (.dup, 1) := by decide +kernel
theorem dX7_init_9 : decode cX7_init 9 = .ok (.invokespecial 11, 3) := by decide +kernel
theorem dX7_init_12 : decode cX7_init 12 = .ok (.putfield 12, 3) := by decide +kernel
theorem dX7_init_15 : decode cX7_init 15 = .ok (.aload_n 0, 1) := by decide +kernel
theorem dX7_init_16 : decode cX7_init 16 = .ok (.new 9, 3) := by decide +kernel
theorem dX7_init_19 : decode cX7_init 19 = .ok (.dup, 1) := by decide +kernel
theorem dX7_init_20 : decode cX7_init 20 = .ok (.invokespecial 11, 3) := by decide +kernel
theorem dX7_init_23 : decode cX7_init 23 = .ok (.putfield 16, 3) := by decide +kernel
theorem dX7_init_26 : decode cX7_init 26 = .ok (.aload_n 0, 1) := by decide +kernel
theorem dX7_init_27 : decode cX7_init 27 = .ok (.new 9, 3) := by decide +kernel
theorem dX7_init_30 : decode cX7_init 30 = .ok (.dup, 1) := by decide +kernel
theorem dX7_init_31 : decode cX7_init 31 = .ok (.invokespecial 11, 3) := by decide +kernel
theorem dX7_init_34 : decode cX7_init 34 = .ok (.putfield 19, 3) := by decide +kernel
theorem dX7_init_37 : decode cX7_init 37 = .ok (.aload_n 0, 1) := by decide +kernel
theorem dX7_init_38 : decode cX7_init 38 = .ok (.new 9, 3) := by decide +kernel
theorem dX7_init_41 : decode cX7_init 41 = .ok (.dup, 1) := by decide +kernel
theorem dX7_init_42 : decode cX7_init 42 = .ok (.invokespecial 11, 3) := by decide +kernel
theorem dX7_init_45 : decode cX7_init 45 = .ok (.putfield 22, 3) := by decide +kernel
theorem dX7_init_48 : decode cX7_init 48 = .ok (.aload_n 0, 1) := by decide +kernel
theorem dX7_init_49 : decode cX7_init 49 = .ok (.new 25, 3) := by decide +kernel
theorem dX7_init_52 : decode cX7_init 52 = .ok (.dup, 1) := by decide +kernel
theorem dX7_init_53 : decode cX7_init 53 = .ok (.invokespecial 27, 3) := by decide +kernel
theorem dX7_init_56 : decode cX7_init 56 = .ok (.putfield 28, 3) := by decide +kernel
theorem dX7_init_59 : decode cX7_init 59 = .ok (.aload_n 0, 1) := by decide +kernel
theorem dX7_init_60 : decode cX7_init 60 = .ok (.new 32, 3) := by decide +kernel
theorem dX7_init_63 : decode cX7_init 63 = .ok (.dup, 1) := by decide +kernel
theorem dX7_init_64 : decode cX7_init 64 = .ok (.invokespecial 34, 3) := by decide +kernel
theorem dX7_init_67 : decode cX7_init 67 = .ok (.putfield 35, 3) := by decide +kernel
theorem dX7_init_70 : decode cX7_init 70 = .ok (.return_, 1) := by decide +kernel
theorem dX7_come_0 : decode cX7_come 0 = .ok (.aload_n 0, 1) := by decide +kernel
theorem dX7_come_1 : decode cX7_come 1 = .ok (.getfield 16, 3) := by decide +kernel
theorem dX7_come_4 : decode cX7_come 4 = .ok (.aload_n 0, 1) := by decide +kernel
theorem dX7_come_5 : decode cX7_come 5 = .ok (.getfield 12, 3) := by decide +kernel
theorem dX7_come_8 : decode cX7_come 8 = .ok (.invokevirtual 39, 3) := by decide +kernel
theorem dX7_come_11 : decode cX7_come 11 = .ok (.aload_n 0, 1) := by decide +kernel
theorem dX7_come_12 : decode cX7_come 12 = .ok (.aload_n 0, 1) := by decide +kernel
theorem dX7_come_13 : decode cX7_come 13 = .ok (.getfield 12, 3) := by decide +kernel
theorem dX7_come_16 : decode cX7_come 16 = .ok (.iload_n 1, 1) := by decide +kernel
theorem dX7_come_17 : decode cX7_come 17 = .ok (.iload_n 2, 1) := by decide +kernel
theorem dX7_come_18 : decode cX7_come 18 = .ok (.invokevirtual 43, 3) := by decide +kernel
theorem dX7_come_21 : decode cX7_come 21 = .ok (.invokevirtual 47, 3) := by decide +kernel
theorem dX7_come_24 : decode cX7_come 24 = .ok (.ireturn, 1) := by decide +kernel
theorem dX7_move_0 : decode cX7_move 0 = .ok (.aload_n 0, 1) := by decide +kernel
theorem dX7_move_1 : decode cX7_move 1 = .ok (.getfield 16, 3) := by decide +kernel
theorem dX7_move_4 : decode cX7_move 4 = .ok (.aload_n 0, 1) := by decide +kernel
theorem dX7_move_5 : decode cX7_move 5 = .ok (.getfield 12, 3) := by decide +kernel
theorem dX7_move_8 : decode cX7_move 8 = .ok (.invokevirtual 39, 3) := by decide +kernel
theorem dX7_move_11 : decode cX7_move 11 = .ok (.aload_n 0, 1) := by decide +kernel
theorem dX7_move_12 : decode cX7_move 12 = .ok (.aload_n 0, 1) := by decide +kernel
theorem dX7_move_13 : decode cX7_move 13 = .ok (.getfield 12, 3) := by decide +kernel
theorem dX7_move_16 : decode cX7_move 16 = .ok (.iload_n 1, 1) := by decide +kernel
theorem dX7_move_17 : decode cX7_move 17 = .ok (.iload_n 2, 1) := by decide +kernel
theorem dX7_move_18 : decode cX7_move 18 = .ok (.invokevirtual 51, 3) := by decide +kernel
theorem dX7_move_21 : decode cX7_move 21 = .ok (.invokevirtual 47, 3) := by decide +kernel
theorem dX7_move_24 : decode cX7_move 24 = .ok (.ireturn, 1) := by decide +kernel
theorem dX7_petition_0 : decode cX7_petition 0 = .ok (.aload_n 0, 1) := by decide +kernel
theorem dX7_petition_1 : decode cX7_petition 1 = .ok (.getfield 16, 3) := by decide +kernel
theorem dX7_petition_4 : decode cX7_petition 4 = .ok (.aload_n 0, 1) := by decide +kernel
theorem dX7_petition_5 : decode cX7_petition 5 = .ok (.getfield 12, 3) := by decide +kernel
theorem dX7_petition_8 : decode cX7_petition 8 = .ok (.invokevirtual 39, 3) := by decide +kernel
theorem dX7_petition_11 : decode cX7_petition 11 = .ok (.aload_n 0, 1) := by decide +kernel
theorem dX7_petition_12 : decode cX7_petition 12 = .ok (.aload_n 0, 1) := by decide +kernel
theorem dX7_petition_13 : decode cX7_petition 13 = .ok (.getfield 12, 3) := by decide +kernel
theorem dX7_petition_16 : decode cX7_petition 16 = .ok (.iload_n 1, 1) := by decide +kernel
theorem dX7_petition_17 : decode cX7_petition 17 = .ok (.iload_n 2, 1) := by decide +kernel
theorem dX7_petition_18 : decode cX7_petition 18 = .ok (.iload_n 3, 1) := by decide +kernel
theorem dX7_petition_19 : decode cX7_petition 19 = .ok (.iload 4, 2) := by decide +kernel
theorem dX7_petition_21 : decode cX7_petition 21 = .ok (.invokevirtual 54, 3) := by decide +kernel
theorem dX7_petition_24 : decode cX7_petition 24 = .ok (.invokevirtual 47, 3) := by decide +kernel
theorem dX7_petition_27 : decode cX7_petition 27 = .ok (.ireturn, 1) := by decide +kernel
theorem dX7_second_0 : decode cX7_second 0 = .ok (.aload_n 0, 1) := by decide +kernel
theorem dX7_second_1 : decode cX7_second 1 = .ok (.getfield 16, 3) := by decide +kernel
theorem dX7_second_4 : decode cX7_second 4 = .ok (.aload_n 0, 1) := by decide +kernel
theorem dX7_second_5 : decode cX7_second 5 = .ok (.getfield 12, 3) := by decide +kernel
theorem dX7_second_8 : decode cX7_second 8 = .ok (.invokevirtual 39, 3) := by decide +kernel
theorem dX7_second_11 : decode cX7_second 11 = .ok (.aload_n 0, 1) := by decide +kernel
theorem dX7_second_12 : decode cX7_second 12 = .ok (.aload_n 0, 1) := by decide +kernel
theorem dX7_second_13 : decode cX7_second 13 = .ok (.getfield 12, 3) := by decide +kernel
theorem dX7_second_16 : decode cX7_second 16 = .ok (.iload_n 1, 1) := by decide +kernel
theorem dX7_second_17 : decode cX7_second 17 = .ok (.iload_n 2, 1) := by decide +kernel
theorem dX7_second_18 : decode cX7_second 18 = .ok (.invokevirtual 58, 3) := by decide +kernel
theorem dX7_second_21 : decode cX7_second 21 = .ok (.invokevirtual 47, 3) := by decide +kernel
theorem dX7_second_24 : decode cX7_second 24 = .ok (.ireturn, 1) := by decide +kernel
theorem dX7_pass_0 : decode cX7_pass 0 = .ok (.aload_n 0, 1) := by decide +kernel
theorem dX7_pass_1 : decode cX7_pass 1 = .ok (.getfield 16, 3) := by decide +kernel
theorem dX7_pass_4 : decode cX7_pass 4 = .ok (.aload_n 0, 1) := by decide +kernel
theorem dX7_pass_5 : decode cX7_pass 5 = .ok (.getfield 12, 3) := by decide +kernel
theorem dX7_pass_8 : decode cX7_pass 8 = .ok (.invokevirtual 39, 3) := by decide +kernel
theorem dX7_pass_11 : decode cX7_pass 11 = .ok (.aload_n 0, 1) := by decide +kernel
theorem dX7_pass_12 : decode cX7_pass 12 = .ok (.aload_n 0, 1) := by decide +kernel
theorem dX7_pass_13 : decode cX7_pass 13 = .ok (.getfield 12, 3) := by decide +kernel
theorem dX7_pass_16 : decode cX7_pass 16 = .ok (.iload_n 1, 1) := by decide +kernel
theorem dX7_pass_17 : decode cX7_pass 17 = .ok (.invokevirtual 61, 3) := by decide +kernel
theorem dX7_pass_20 : decode cX7_pass 20 = .ok (.invokevirtual 47, 3) := by decide +kernel
theorem dX7_pass_23 : decode cX7_pass 23 = .ok (.ireturn, 1) := by decide +kernel
theorem dX7_set_0 : decode cX7_set 0 = .ok (.aload_n 0, 1) := by decide +kernel
theorem dX7_set_1 : decode cX7_set 1 = .ok (.getfield 16, 3) := by decide +kernel
theorem dX7_set_4 : decode cX7_set 4 = .ok (.aload_n 0, 1) := by decide +kernel
theorem dX7_set_5 : decode cX7_set 5 = .ok (.getfield 12, 3) := by decide +kernel
theorem dX7_set_8 : decode cX7_set 8 = .ok (.invokevirtual 39, 3) := by decide +kernel
theorem dX7_set_11 : decode cX7_set 11 = .ok (.aload_n 0, 1) := by decide +kernel
theorem dX7_set_12 : decode cX7_set 12 = .ok (.aload_n 0, 1) := by decide +kernel
theorem dX7_set_13 : decode cX7_set 13 = .ok (.getfield 12, 3) := by decide +kernel
theorem dX7_set_16 : decode cX7_set 16 = .ok (.iload_n 1, 1) := by decide +kernel
theorem dX7_set_17 : decode cX7_set 17 = .ok (.iload_n 2, 1) := by decide +kernel
theorem dX7_set_18 : decode cX7_set 18 = .ok (.invokevirtual 64, 3) := by decide +kernel
theorem dX7_set_21 : decode cX7_set 21 = .ok (.invokevirtual 47, 3) := by decide +kernel
theorem dX7_set_24 : decode cX7_set 24 = .ok (.ireturn, 1) := by decide +kernel
theorem dX7_undo_0 : decode cX7_undo 0 = .ok (.aload_n 0, 1) := by decide +kernel
theorem dX7_undo_1 : decode cX7_undo 1 = .ok (.getfield 28, 3) := by decide +kernel
theorem dX7_undo_4 : decode cX7_undo 4 = .ok (.aload_n 0, 1) := by decide +kernel
theorem dX7_undo_5 : decode cX7_undo 5 = .ok (.getfield 12, 3) := by decide +kernel
theorem dX7_undo_8 : decode cX7_undo 8 = .ok (.invokevirtual 91, 3) := by decide +kernel
theorem dX7_undo_11 : decode cX7_undo 11 = .ok (.ireturn, 1) := by decide +kernel
theorem dX7_drone_0 : decode cX7_drone 0 = .ok (.aload_n 0, 1) := by decide +kernel
theorem dX7_drone_1 : decode cX7_drone 1 = .ok (.getfield 12, 3) := by decide +kernel
theorem dX7_drone_4 : decode cX7_drone 4 = .ok (.getfield 108, 3) := by decide +kernel
theorem dX7_drone_7 : decode cX7_drone 7 = .ok (.astore_n 3, 1) := by decide +kernel
theorem dX7_drone_8 : decode cX7_drone 8 = .ok (.aload_n 3, 1) := by decide +kernel
theorem dX7_drone_9 : decode cX7_drone 9 = .ok (.iload_n 1, 1) := by decide +kernel
theorem dX7_drone_10 : decode cX7_drone 10 = .ok (.invokevirtual 112, 3) := by decide +kernel
theorem dX7_drone_13 : decode cX7_drone 13 = .ok (.ifCond .ne 5, 3) := by decide +kernel
theorem dX7_drone_16 : decode cX7_drone 16 = .ok (.iconst (-1), 1) := by decide +kernel
theorem dX7_drone_17 : decode cX7_drone 17 = .ok (.ireturn, 1) := by decide +kernel
theorem dX7_drone_18 : decode cX7_drone 18 = .ok (.iload_n 2, 1) := by decide +kernel
theorem dX7_drone_19 : decode cX7_drone 19 = .ok (.tableswitch 100 0 6 #[41, 48, 55, 67, 79, 86, 93], 41) := by decide +kernel
theorem dX7_drone_60 : decode cX7_drone 60 = .ok (.aload_n 3, 1) := by decide +kernel
theorem dX7_drone_61 : decode cX7_drone 61 = .ok (.getfield 118, 3) := by decide +kernel
theorem dX7_drone_64 : decode cX7_drone 64 = .ok (.iload_n 1, 1) := by decide +kernel
theorem dX7_drone_65 : decode cX7_drone 65 = .ok (.iaload, 1) := by decide +kernel
theorem dX7_drone_66 : decode cX7_drone 66 = .ok (.ireturn, 1) := by decide +kernel
theorem dX7_drone_67 : decode cX7_drone 67 = .ok (.aload_n 3, 1) := by decide +kernel
theorem dX7_drone_68 : decode cX7_drone 68 = .ok (.getfield 122, 3) := by decide +kernel
theorem dX7_drone_71 : decode cX7_drone 71 = .ok (.iload_n 1, 1) := by decide +kernel
theorem dX7_drone_72 : decode cX7_drone 72 = .ok (.iaload, 1) := by decide +kernel
theorem dX7_drone_73 : decode cX7_drone 73 = .ok (.ireturn, 1) := by decide +kernel
theorem dX7_drone_74 : decode cX7_drone 74 = .ok (.aload_n 0, 1) := by decide +kernel
theorem dX7_drone_75 : decode cX7_drone 75 = .ok (.getfield 12, 3) := by decide +kernel
theorem dX7_drone_78 : decode cX7_drone 78 = .ok (.getfield 125, 3) := by decide +kernel
theorem dX7_drone_81 : decode cX7_drone 81 = .ok (.iload_n 1, 1) := by decide +kernel
theorem dX7_drone_82 : decode cX7_drone 82 = .ok (.invokevirtual 129, 3) := by decide +kernel
theorem dX7_drone_85 : decode cX7_drone 85 = .ok (.ireturn, 1) := by decide +kernel
theorem dX7_drone_86 : decode cX7_drone 86 = .ok (.aload_n 0, 1) := by decide +kernel
theorem dX7_drone_87 : decode cX7_drone 87 = .ok (.getfield 12, 3) := by decide +kernel
theorem dX7_drone_90 : decode cX7_drone 90 = .ok (.getfield 125, 3) := by decide +kernel
theorem dX7_drone_93 : decode cX7_drone 93 = .ok (.iload_n 1, 1) := by decide +kernel
theorem dX7_drone_94 : decode cX7_drone 94 = .ok (.invokevirtual 134, 3) := by decide +kernel
theorem dX7_drone_97 : decode cX7_drone 97 = .ok (.ireturn, 1) := by decide +kernel
theorem dX7_drone_98 : decode cX7_drone 98 = .ok (.aload_n 3, 1) := by decide +kernel
theorem dX7_drone_99 : decode cX7_drone 99 = .ok (.getfield 137, 3) := by decide +kernel
theorem dX7_drone_102 : decode cX7_drone 102 = .ok (.iload_n 1, 1) := by decide +kernel
theorem dX7_drone_103 : decode cX7_drone 103 = .ok (.iaload, 1) := by decide +kernel
theorem dX7_drone_104 : decode cX7_drone 104 = .ok (.ireturn, 1) := by decide +kernel
theorem dX7_drone_105 : decode cX7_drone 105 = .ok (.aload_n 3, 1) := by decide +kernel
theorem dX7_drone_106 : decode cX7_drone 106 = .ok (.getfield 140, 3) := by decide +kernel
theorem dX7_drone_109 : decode cX7_drone 109 = .ok (.iload_n 1, 1) := by decide +kernel
theorem dX7_drone_110 : decode cX7_drone 110 = .ok (.iaload, 1) := by decide +kernel
theorem dX7_drone_111 : decode cX7_drone 111 = .ok (.ireturn, 1) := by decide +kernel
theorem dX7_drone_112 : decode cX7_drone 112 = .ok (.aload_n 3, 1) := by decide +kernel
theorem dX7_drone_113 : decode cX7_drone 113 = .ok (.getfield 143, 3) := by decide +kernel
theorem dX7_drone_116 : decode cX7_drone 116 = .ok (.iload_n 1, 1) := by decide +kernel
theorem dX7_drone_117 : decode cX7_drone 117 = .ok (.iaload, 1) := by decide +kernel
theorem dX7_drone_118 : decode cX7_drone 118 = .ok (.ireturn, 1) := by decide +kernel
theorem dX7_drone_119 : decode cX7_drone 119 = .ok (.bipush (-2), 2) := by decide +kernel
theorem dX7_drone_121 : decode cX7_drone 121 = .ok (.ireturn, 1) := by decide +kernel
theorem dX7_bylaw_0 : decode cX7_bylaw 0 = .ok (.iload_n 1, 1) := by decide +kernel
theorem dX7_bylaw_1 : decode cX7_bylaw 1 = .ok (.ifCond .lt 12, 3) := by decide +kernel
theorem dX7_bylaw_4 : decode cX7_bylaw 4 = .ok (.iload_n 2, 1) := by decide +kernel
theorem dX7_bylaw_5 : decode cX7_bylaw 5 = .ok (.ifCond .lt 8, 3) := by decide +kernel
theorem dX7_bylaw_8 : decode cX7_bylaw 8 = .ok (.iload_n 2, 1) := by decide +kernel
theorem dX7_bylaw_9 : decode cX7_bylaw 9 = .ok (.iconst 5, 1) := by decide +kernel
theorem dX7_bylaw_10 : decode cX7_bylaw 10 = .ok (.if_icmp .le 6, 3) := by decide +kernel
theorem dX7_bylaw_13 : decode cX7_bylaw 13 = .ok (.bipush (-2), 2) := by decide +kernel
theorem dX7_bylaw_15 : decode cX7_bylaw 15 = .ok (.ireturn, 1) := by decide +kernel
theorem dX7_bylaw_16 : decode cX7_bylaw 16 = .ok (.aload_n 0, 1) := by decide +kernel
theorem dX7_bylaw_17 : decode cX7_bylaw 17 = .ok (.getfield 12, 3) := by decide +kernel
theorem dX7_bylaw_20 : decode cX7_bylaw 20 = .ok (.getfield 99, 3) := by decide +kernel
theorem dX7_bylaw_23 : decode cX7_bylaw 23 = .ok (.astore_n 3, 1) := by decide +kernel
theorem dX7_bylaw_24 : decode cX7_bylaw 24 = .ok (.aload_n 3, 1) := by decide +kernel
theorem dX7_bylaw_25 : decode cX7_bylaw 25 = .ok (.iload_n 1, 1) := by decide +kernel
theorem dX7_bylaw_26 : decode cX7_bylaw 26 = .ok (.invokevirtual 146, 3) := by decide +kernel
theorem dX7_bylaw_29 : decode cX7_bylaw 29 = .ok (.istore 4, 2) := by decide +kernel
theorem dX7_bylaw_31 : decode cX7_bylaw 31 = .ok (.iload 4, 2) := by decide +kernel
theorem dX7_bylaw_33 : decode cX7_bylaw 33 = .ok (.bipush (-5), 2) := by decide +kernel
theorem dX7_bylaw_35 : decode cX7_bylaw 35 = .ok (.if_icmp .ne 6, 3) := by decide +kernel
theorem dX7_bylaw_38 : decode cX7_bylaw 38 = .ok (.bipush (-5), 2) := by decide +kernel
theorem dX7_bylaw_40 : decode cX7_bylaw 40 = .ok (.ireturn, 1) := by decide +kernel
theorem dX7_bylaw_41 : decode cX7_bylaw 41 = .ok (.iload_n 2, 1) := by decide +kernel
theorem dX7_bylaw_42 : decode cX7_bylaw 42 = .ok (.tableswitch 70 0 4 #[34, 40, 46, 54, 62], 34) := by decide +kernel
theorem dX7_bylaw_76 : decode cX7_bylaw 76 = .ok (.iload 4, 2) := by decide +kernel
theorem dX7_bylaw_78 : decode cX7_bylaw 78 = .ok (.bipush 20, 2) := by decide +kernel
theorem dX7_bylaw_80 : decode cX7_bylaw 80 = .ok (.idiv, 1) := by decide +kernel
theorem dX7_bylaw_81 : decode cX7_bylaw 81 = .ok (.ireturn, 1) := by decide +kernel
theorem dX7_bylaw_82 : decode cX7_bylaw 82 = .ok (.iload 4, 2) := by decide +kernel
theorem dX7_bylaw_84 : decode cX7_bylaw 84 = .ok (.bipush 20, 2) := by decide +kernel
theorem dX7_bylaw_86 : decode cX7_bylaw 86 = .ok (.irem, 1) := by decide +kernel
theorem dX7_bylaw_87 : decode cX7_bylaw 87 = .ok (.ireturn, 1) := by decide +kernel
theorem dX7_bylaw_88 : decode cX7_bylaw 88 = .ok (.aload_n 3, 1) := by decide +kernel
theorem dX7_bylaw_89 : decode cX7_bylaw 89 = .ok (.getfield 149, 3) := by decide +kernel
theorem dX7_bylaw_92 : decode cX7_bylaw 92 = .ok (.iload 4, 2) := by decide +kernel
theorem dX7_bylaw_94 : decode cX7_bylaw 94 = .ok (.iaload, 1) := by decide +kernel
theorem dX7_bylaw_95 : decode cX7_bylaw 95 = .ok (.ireturn, 1) := by decide +kernel
theorem dX7_bylaw_96 : decode cX7_bylaw 96 = .ok (.aload_n 3, 1) := by decide +kernel
theorem dX7_bylaw_97 : decode cX7_bylaw 97 = .ok (.getfield 152, 3) := by decide +kernel
theorem dX7_bylaw_100 : decode cX7_bylaw 100 = .ok (.iload 4, 2) := by decide +kernel
theorem dX7_bylaw_102 : decode cX7_bylaw 102 = .ok (.iaload, 1) := by decide +kernel
theorem dX7_bylaw_103 : decode cX7_bylaw 103 = .ok (.ireturn, 1) := by decide +kernel
theorem dX7_bylaw_104 : decode cX7_bylaw 104 = .ok (.aload_n 3, 1) := by decide +kernel
theorem dX7_bylaw_105 : decode cX7_bylaw 105 = .ok (.getfield 155, 3) := by decide +kernel
theorem dX7_bylaw_108 : decode cX7_bylaw 108 = .ok (.iload 4, 2) := by decide +kernel
theorem dX7_bylaw_110 : decode cX7_bylaw 110 = .ok (.iaload, 1) := by decide +kernel
theorem dX7_bylaw_111 : decode cX7_bylaw 111 = .ok (.ireturn, 1) := by decide +kernel
theorem dX7_bylaw_112 : decode cX7_bylaw 112 = .ok (.aload_n 0, 1) := by decide +kernel
theorem dX7_bylaw_113 : decode cX7_bylaw 113 = .ok (.getfield 12, 3) := by decide +kernel
theorem dX7_bylaw_116 : decode cX7_bylaw 116 = .ok (.getfield 108, 3) := by decide +kernel
theorem dX7_bylaw_119 : decode cX7_bylaw 119 = .ok (.iload 4, 2) := by decide +kernel
theorem dX7_bylaw_121 : decode cX7_bylaw 121 = .ok (.bipush 20, 2) := by decide +kernel
theorem dX7_bylaw_123 : decode cX7_bylaw 123 = .ok (.idiv, 1) := by decide +kernel
theorem dX7_bylaw_124 : decode cX7_bylaw 124 = .ok (.invokevirtual 158, 3) := by decide +kernel
theorem dX7_bylaw_127 : decode cX7_bylaw 127 = .ok (.ireturn, 1) := by decide +kernel
theorem dX7_petitionOf_0 : decode cX7_petitionOf 0 = .ok (.aload_n 0, 1) := by decide +kernel
theorem dX7_petitionOf_1 : decode cX7_petitionOf 1 = .ok (.getfield 12, 3) := by decide +kernel
theorem dX7_petitionOf_4 : decode cX7_petitionOf 4 = .ok (.getfield 125, 3) := by decide +kernel
theorem dX7_petitionOf_7 : decode cX7_petitionOf 7 = .ok (.astore_n 3, 1) := by decide +kernel
theorem dX7_petitionOf_8 : decode cX7_petitionOf 8 = .ok (.aload_n 3, 1) := by decide +kernel
theorem dX7_petitionOf_9 : decode cX7_petitionOf 9 = .ok (.iload_n 1, 1) := by decide +kernel
theorem dX7_petitionOf_10 : decode cX7_petitionOf 10 = .ok (.invokevirtual 161, 3) := by decide +kernel
theorem dX7_petitionOf_13 : decode cX7_petitionOf 13 = .ok (.ifCond .ne 5, 3) := by decide +kernel
theorem dX7_petitionOf_16 : decode cX7_petitionOf 16 = .ok (.iconst (-1), 1) := by decide +kernel
theorem dX7_petitionOf_17 : decode cX7_petitionOf 17 = .ok (.ireturn, 1) := by decide +kernel
theorem dX7_petitionOf_18 : decode cX7_petitionOf 18 = .ok (.iload_n 2, 1) := by decide +kernel
theorem dX7_petitionOf_19 : decode cX7_petitionOf 19 = .ok (.tableswitch 79 0 5 #[37, 44, 51, 58, 65, 72], 37) := by decide +kernel
theorem dX7_petitionOf_56 : decode cX7_petitionOf 56 = .ok (.aload_n 3, 1) := by decide +kernel
theorem dX7_petitionOf_57 : decode cX7_petitionOf 57 = .ok (.getfield 164, 3) := by decide +kernel
theorem dX7_petitionOf_60 : decode cX7_petitionOf 60 = .ok (.iload_n 1, 1) := by decide +kernel
theorem dX7_petitionOf_61 : decode cX7_petitionOf 61 = .ok (.iaload, 1) := by decide +kernel
theorem dX7_petitionOf_62 : decode cX7_petitionOf 62 = .ok (.ireturn, 1) := by decide +kernel
theorem dX7_petitionOf_63 : decode cX7_petitionOf 63 = .ok (.aload_n 3, 1) := by decide +kernel
theorem dX7_petitionOf_64 : decode cX7_petitionOf 64 = .ok (.getfield 167, 3) := by decide +kernel
theorem dX7_petitionOf_67 : decode cX7_petitionOf 67 = .ok (.iload_n 1, 1) := by decide +kernel
theorem dX7_petitionOf_68 : decode cX7_petitionOf 68 = .ok (.iaload, 1) := by decide +kernel
theorem dX7_petitionOf_69 : decode cX7_petitionOf 69 = .ok (.ireturn, 1) := by decide +kernel
theorem dX7_petitionOf_70 : decode cX7_petitionOf 70 = .ok (.aload_n 3, 1) := by decide +kernel
theorem dX7_petitionOf_71 : decode cX7_petitionOf 71 = .ok (.getfield 170, 3) := by decide +kernel
theorem dX7_petitionOf_74 : decode cX7_petitionOf 74 = .ok (.iload_n 1, 1) := by decide +kernel
theorem dX7_petitionOf_75 : decode cX7_petitionOf 75 = .ok (.iaload, 1) := by decide +kernel
theorem dX7_petitionOf_76 : decode cX7_petitionOf 76 = .ok (.ireturn, 1) := by decide +kernel
theorem dX7_petitionOf_77 : decode cX7_petitionOf 77 = .ok (.aload_n 3, 1) := by decide +kernel
theorem dX7_petitionOf_78 : decode cX7_petitionOf 78 = .ok (.getfield 173, 3) := by decide +kernel
theorem dX7_petitionOf_81 : decode cX7_petitionOf 81 = .ok (.iload_n 1, 1) := by decide +kernel
theorem dX7_petitionOf_82 : decode cX7_petitionOf 82 = .ok (.iaload, 1) := by decide +kernel
theorem dX7_petitionOf_83 : decode cX7_petitionOf 83 = .ok (.ireturn, 1) := by decide +kernel
theorem dX7_petitionOf_84 : decode cX7_petitionOf 84 = .ok (.aload_n 3, 1) := by decide +kernel
theorem dX7_petitionOf_85 : decode cX7_petitionOf 85 = .ok (.getfield 176, 3) := by decide +kernel
theorem dX7_petitionOf_88 : decode cX7_petitionOf 88 = .ok (.iload_n 1, 1) := by decide +kernel
theorem dX7_petitionOf_89 : decode cX7_petitionOf 89 = .ok (.iaload, 1) := by decide +kernel
theorem dX7_petitionOf_90 : decode cX7_petitionOf 90 = .ok (.ireturn, 1) := by decide +kernel
theorem dX7_petitionOf_91 : decode cX7_petitionOf 91 = .ok (.aload_n 3, 1) := by decide +kernel
theorem dX7_petitionOf_92 : decode cX7_petitionOf 92 = .ok (.getfield 179, 3) := by decide +kernel
theorem dX7_petitionOf_95 : decode cX7_petitionOf 95 = .ok (.iload_n 1, 1) := by decide +kernel
theorem dX7_petitionOf_96 : decode cX7_petitionOf 96 = .ok (.iaload, 1) := by decide +kernel
theorem dX7_petitionOf_97 : decode cX7_petitionOf 97 = .ok (.ireturn, 1) := by decide +kernel
theorem dX7_petitionOf_98 : decode cX7_petitionOf 98 = .ok (.bipush (-2), 2) := by decide +kernel
theorem dX7_petitionOf_100 : decode cX7_petitionOf 100 = .ok (.ireturn, 1) := by decide +kernel
theorem dX7_heard_0 : decode cX7_heard 0 = .ok (.iload_n 1, 1) := by decide +kernel
theorem dX7_heard_1 : decode cX7_heard 1 = .ok (.ifCond .ge 8, 3) := by decide +kernel
theorem dX7_heard_4 : decode cX7_heard 4 = .ok (.bipush (-2), 2) := by decide +kernel
theorem dX7_heard_6 : decode cX7_heard 6 = .ok (.goto 14, 3) := by decide +kernel
theorem dX7_heard_9 : decode cX7_heard 9 = .ok (.aload_n 0, 1) := by decide +kernel
theorem dX7_heard_10 : decode cX7_heard 10 = .ok (.getfield 12, 3) := by decide +kernel
theorem dX7_heard_13 : decode cX7_heard 13 = .ok (.getfield 125, 3) := by decide +kernel
theorem dX7_heard_16 : decode cX7_heard 16 = .ok (.iload_n 1, 1) := by decide +kernel
theorem dX7_heard_17 : decode cX7_heard 17 = .ok (.invokevirtual 182, 3) := by decide +kernel
theorem dX7_heard_20 : decode cX7_heard 20 = .ok (.ireturn, 1) := by decide +kernel
theorem dX7_rule_0 : decode cX7_rule 0 = .ok (.iload_n 1, 1) := by decide +kernel
theorem dX7_rule_1 : decode cX7_rule 1 = .ok (.invokestatic 185, 3) := by decide +kernel
theorem dX7_rule_4 : decode cX7_rule 4 = .ok (.ifCond .eq 10, 3) := by decide +kernel
theorem dX7_rule_7 : decode cX7_rule 7 = .ok (.iload_n 2, 1) := by decide +kernel
theorem dX7_rule_8 : decode cX7_rule 8 = .ok (.invokestatic 188, 3) := by decide +kernel
theorem dX7_rule_11 : decode cX7_rule 11 = .ok (.ifCond .ne 5, 3) := by decide +kernel
theorem dX7_rule_14 : decode cX7_rule 14 = .ok (.iconst (-1), 1) := by decide +kernel
theorem dX7_rule_15 : decode cX7_rule 15 = .ok (.ireturn, 1) := by decide +kernel
theorem dX7_rule_16 : decode cX7_rule 16 = .ok (.iload_n 3, 1) := by decide +kernel
theorem dX7_rule_17 : decode cX7_rule 17 = .ok (.ifCond .lt 8, 3) := by decide +kernel
theorem dX7_rule_20 : decode cX7_rule 20 = .ok (.iload_n 3, 1) := by decide +kernel
theorem dX7_rule_21 : decode cX7_rule 21 = .ok (.iconst 2, 1) := by decide +kernel
theorem dX7_rule_22 : decode cX7_rule 22 = .ok (.if_icmp .le 6, 3) := by decide +kernel
theorem dX7_rule_25 : decode cX7_rule 25 = .ok (.bipush (-2), 2) := by decide +kernel
theorem dX7_rule_27 : decode cX7_rule 27 = .ok (.ireturn, 1) := by decide +kernel
theorem dX7_rule_28 : decode cX7_rule 28 = .ok (.aload_n 0, 1) := by decide +kernel
theorem dX7_rule_29 : decode cX7_rule 29 = .ok (.getfield 12, 3) := by decide +kernel
theorem dX7_rule_32 : decode cX7_rule 32 = .ok (.getfield 99, 3) := by decide +kernel
theorem dX7_rule_35 : decode cX7_rule 35 = .ok (.iload_n 1, 1) := by decide +kernel
theorem dX7_rule_36 : decode cX7_rule 36 = .ok (.iload_n 2, 1) := by decide +kernel
theorem dX7_rule_37 : decode cX7_rule 37 = .ok (.invokevirtual 191, 3) := by decide +kernel
theorem dX7_rule_40 : decode cX7_rule 40 = .ok (.istore 4, 2) := by decide +kernel
theorem dX7_rule_42 : decode cX7_rule 42 = .ok (.iload_n 3, 1) := by decide +kernel
theorem dX7_rule_43 : decode cX7_rule 43 = .ok (.ifCond .ne 24, 3) := by decide +kernel
theorem dX7_rule_46 : decode cX7_rule 46 = .ok (.aload_n 0, 1) := by decide +kernel
theorem dX7_rule_47 : decode cX7_rule 47 = .ok (.getfield 12, 3) := by decide +kernel
theorem dX7_rule_50 : decode cX7_rule 50 = .ok (.getfield 99, 3) := by decide +kernel
theorem dX7_rule_53 : decode cX7_rule 53 = .ok (.iload_n 1, 1) := by decide +kernel
theorem dX7_rule_54 : decode cX7_rule 54 = .ok (.iload_n 2, 1) := by decide +kernel
theorem dX7_rule_55 : decode cX7_rule 55 = .ok (.invokevirtual 194, 3) := by decide +kernel
theorem dX7_rule_58 : decode cX7_rule 58 = .ok (.ifCond .eq 7, 3) := by decide +kernel
theorem dX7_rule_61 : decode cX7_rule 61 = .ok (.iconst 0, 1) := by decide +kernel
theorem dX7_rule_62 : decode cX7_rule 62 = .ok (.goto 4, 3) := by decide +kernel
theorem dX7_rule_65 : decode cX7_rule 65 = .ok (.iconst 1, 1) := by decide +kernel
theorem dX7_rule_66 : decode cX7_rule 66 = .ok (.ireturn, 1) := by decide +kernel
theorem dX7_rule_67 : decode cX7_rule 67 = .ok (.iload_n 3, 1) := by decide +kernel
theorem dX7_rule_68 : decode cX7_rule 68 = .ok (.iconst 1, 1) := by decide +kernel
theorem dX7_rule_69 : decode cX7_rule 69 = .ok (.if_icmp .eq 10, 3) := by decide +kernel
theorem dX7_rule_72 : decode cX7_rule 72 = .ok (.iload 4, 2) := by decide +kernel
theorem dX7_rule_74 : decode cX7_rule 74 = .ok (.bipush (-5), 2) := by decide +kernel
theorem dX7_rule_76 : decode cX7_rule 76 = .ok (.if_icmp .ne 6, 3) := by decide +kernel
theorem dX7_rule_79 : decode cX7_rule 79 = .ok (.iload 4, 2) := by decide +kernel
theorem dX7_rule_81 : decode cX7_rule 81 = .ok (.ireturn, 1) := by decide +kernel
theorem dX7_rule_82 : decode cX7_rule 82 = .ok (.aload_n 0, 1) := by decide +kernel
theorem dX7_rule_83 : decode cX7_rule 83 = .ok (.getfield 12, 3) := by decide +kernel
theorem dX7_rule_86 : decode cX7_rule 86 = .ok (.getfield 99, 3) := by decide +kernel
theorem dX7_rule_89 : decode cX7_rule 89 = .ok (.iload 4, 2) := by decide +kernel
theorem dX7_rule_91 : decode cX7_rule 91 = .ok (.iload_n 2, 1) := by decide +kernel
theorem dX7_rule_92 : decode cX7_rule 92 = .ok (.invokevirtual 198, 3) := by decide +kernel
theorem dX7_rule_95 : decode cX7_rule 95 = .ok (.ireturn, 1) := by decide +kernel
theorem dX7_reason_0 : decode cX7_reason 0 = .ok (.aload_n 0, 1) := by decide +kernel
theorem dX7_reason_1 : decode cX7_reason 1 = .ok (.getfield 12, 3) := by decide +kernel
theorem dX7_reason_4 : decode cX7_reason 4 = .ok (.getfield 125, 3) := by decide +kernel
theorem dX7_reason_7 : decode cX7_reason 7 = .ok (.iload_n 1, 1) := by decide +kernel
theorem dX7_reason_8 : decode cX7_reason 8 = .ok (.invokevirtual 161, 3) := by decide +kernel
theorem dX7_reason_11 : decode cX7_reason 11 = .ok (.ifCond .ne 5, 3) := by decide +kernel
theorem dX7_reason_14 : decode cX7_reason 14 = .ok (.iconst (-1), 1) := by decide +kernel
theorem dX7_reason_15 : decode cX7_reason 15 = .ok (.ireturn, 1) := by decide +kernel
theorem dX7_reason_16 : decode cX7_reason 16 = .ok (.aload_n 0, 1) := by decide +kernel
theorem dX7_reason_17 : decode cX7_reason 17 = .ok (.getfield 19, 3) := by decide +kernel
theorem dX7_reason_20 : decode cX7_reason 20 = .ok (.aload_n 0, 1) := by decide +kernel
theorem dX7_reason_21 : decode cX7_reason 21 = .ok (.getfield 12, 3) := by decide +kernel
theorem dX7_reason_24 : decode cX7_reason 24 = .ok (.invokevirtual 39, 3) := by decide +kernel
theorem dX7_reason_27 : decode cX7_reason 27 = .ok (.aload_n 0, 1) := by decide +kernel
theorem dX7_reason_28 : decode cX7_reason 28 = .ok (.getfield 19, 3) := by decide +kernel
theorem dX7_reason_31 : decode cX7_reason 31 = .ok (.invokevirtual 201, 3) := by decide +kernel
theorem dX7_reason_34 : decode cX7_reason 34 = .ok (.pop, 1) := by decide +kernel
theorem dX7_reason_35 : decode cX7_reason 35 = .ok (.aload_n 0, 1) := by decide +kernel
theorem dX7_reason_36 : decode cX7_reason 36 = .ok (.getfield 19, 3) := by decide +kernel
theorem dX7_reason_39 : decode cX7_reason 39 = .ok (.getfield 204, 3) := by decide +kernel
theorem dX7_reason_42 : decode cX7_reason 42 = .ok (.iload_n 1, 1) := by decide +kernel
theorem dX7_reason_43 : decode cX7_reason 43 = .ok (.iaload, 1) := by decide +kernel
theorem dX7_reason_44 : decode cX7_reason 44 = .ok (.ireturn, 1) := by decide +kernel
theorem dX7_wouldPass_0 : decode cX7_wouldPass 0 = .ok (.aload_n 0, 1) := by decide +kernel
theorem dX7_wouldPass_1 : decode cX7_wouldPass 1 = .ok (.getfield 19, 3) := by decide +kernel
theorem dX7_wouldPass_4 : decode cX7_wouldPass 4 = .ok (.aload_n 0, 1) := by decide +kernel
theorem dX7_wouldPass_5 : decode cX7_wouldPass 5 = .ok (.getfield 12, 3) := by decide +kernel
theorem dX7_wouldPass_8 : decode cX7_wouldPass 8 = .ok (.invokevirtual 39, 3) := by decide +kernel
theorem dX7_wouldPass_11 : decode cX7_wouldPass 11 = .ok (.aload_n 0, 1) := by decide +kernel
theorem dX7_wouldPass_12 : decode cX7_wouldPass 12 = .ok (.getfield 19, 3) := by decide +kernel
theorem dX7_wouldPass_15 : decode cX7_wouldPass 15 = .ok (.invokevirtual 201, 3) := by decide +kernel
theorem dX7_wouldPass_18 : decode cX7_wouldPass 18 = .ok (.pop, 1) := by decide +kernel
theorem dX7_wouldPass_19 : decode cX7_wouldPass 19 = .ok (.iconst 0, 1) := by decide +kernel
theorem dX7_wouldPass_20 : decode cX7_wouldPass 20 = .ok (.istore_n 1, 1) := by decide +kernel
theorem dX7_wouldPass_21 : decode cX7_wouldPass 21 = .ok (.iconst 0, 1) := by decide +kernel
theorem dX7_wouldPass_22 : decode cX7_wouldPass 22 = .ok (.istore_n 2, 1) := by decide +kernel
theorem dX7_wouldPass_23 : decode cX7_wouldPass 23 = .ok (.iload_n 2, 1) := by decide +kernel
theorem dX7_wouldPass_24 : decode cX7_wouldPass 24 = .ok (.aload_n 0, 1) := by decide +kernel
theorem dX7_wouldPass_25 : decode cX7_wouldPass 25 = .ok (.getfield 12, 3) := by decide +kernel
theorem dX7_wouldPass_28 : decode cX7_wouldPass 28 = .ok (.getfield 125, 3) := by decide +kernel
theorem dX7_wouldPass_31 : decode cX7_wouldPass 31 = .ok (.getfield 207, 3) := by decide +kernel
theorem dX7_wouldPass_34 : decode cX7_wouldPass 34 = .ok (.if_icmp .ge 27, 3) := by decide +kernel
theorem dX7_wouldPass_37 : decode cX7_wouldPass 37 = .ok (.aload_n 0, 1) := by decide +kernel
theorem dX7_wouldPass_38 : decode cX7_wouldPass 38 = .ok (.getfield 19, 3) := by decide +kernel
theorem dX7_wouldPass_41 : decode cX7_wouldPass 41 = .ok (.getfield 204, 3) := by decide +kernel
