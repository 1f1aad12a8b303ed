theorem dX7_wouldPass_44 : decode cX7_wouldPass 44 = .ok (.iload_n 2, 1) := by decide +kernel
theorem dX7_wouldPass_45 : decode cX7_wouldPass 45 = .ok (.iaload, 1) := by decide +kernel
theorem dX7_wouldPass_46 : decode cX7_wouldPass 46 = .ok (.ifCond .ne 9, 3) := by decide +kernel
theorem dX7_wouldPass_49 : decode cX7_wouldPass 49 = .ok (.iload_n 1, 1) := by decide +kernel
theorem dX7_wouldPass_50 : decode cX7_wouldPass 50 = .ok (.iconst 1, 1) := by decide +kernel
theorem dX7_wouldPass_51 : decode cX7_wouldPass 51 = .ok (.iload_n 2, 1) := by decide +kernel
theorem dX7_wouldPass_52 : decode cX7_wouldPass 52 = .ok (.ishl, 1) := by decide +kernel
theorem dX7_wouldPass_53 : decode cX7_wouldPass 53 = .ok (.ior, 1) := by decide +kernel
theorem dX7_wouldPass_54 : decode cX7_wouldPass 54 = .ok (.istore_n 1, 1) := by decide +kernel
theorem dX7_wouldPass_55 : decode cX7_wouldPass 55 = .ok (.iinc 2 1, 3) := by decide +kernel
theorem dX7_wouldPass_58 : decode cX7_wouldPass 58 = .ok (.goto (-35), 3) := by decide +kernel
theorem dX7_wouldPass_61 : decode cX7_wouldPass 61 = .ok (.iload_n 1, 1) := by decide +kernel
theorem dX7_wouldPass_62 : decode cX7_wouldPass 62 = .ok (.ireturn, 1) := by decide +kernel
theorem dX7_lacks_0 : decode cX7_lacks 0 = .ok (.aload_n 0, 1) := by decide +kernel
theorem dX7_lacks_1 : decode cX7_lacks 1 = .ok (.getfield 12, 3) := by decide +kernel
theorem dX7_lacks_4 : decode cX7_lacks 4 = .ok (.getfield 125, 3) := by decide +kernel
theorem dX7_lacks_7 : decode cX7_lacks 7 = .ok (.iload_n 1, 1) := by decide +kernel
theorem dX7_lacks_8 : decode cX7_lacks 8 = .ok (.invokevirtual 161, 3) := by decide +kernel
theorem dX7_lacks_11 : decode cX7_lacks 11 = .ok (.ifCond .ne 5, 3) := by decide +kernel
theorem dX7_lacks_14 : decode cX7_lacks 14 = .ok (.iconst (-1), 1) := by decide +kernel
theorem dX7_lacks_15 : decode cX7_lacks 15 = .ok (.ireturn, 1) := by decide +kernel
theorem dX7_lacks_16 : decode cX7_lacks 16 = .ok (.aload_n 0, 1) := by decide +kernel
theorem dX7_lacks_17 : decode cX7_lacks 17 = .ok (.getfield 12, 3) := by decide +kernel
theorem dX7_lacks_20 : decode cX7_lacks 20 = .ok (.getfield 125, 3) := by decide +kernel
theorem dX7_lacks_23 : decode cX7_lacks 23 = .ok (.getfield 176, 3) := by decide +kernel
theorem dX7_lacks_26 : decode cX7_lacks 26 = .ok (.iload_n 1, 1) := by decide +kernel
theorem dX7_lacks_27 : decode cX7_lacks 27 = .ok (.iaload, 1) := by decide +kernel
theorem dX7_lacks_28 : decode cX7_lacks 28 = .ok (.istore_n 2, 1) := by decide +kernel
theorem dX7_lacks_29 : decode cX7_lacks 29 = .ok (.iconst 0, 1) := by decide +kernel
theorem dX7_lacks_30 : decode cX7_lacks 30 = .ok (.istore_n 3, 1) := by decide +kernel
theorem dX7_lacks_31 : decode cX7_lacks 31 = .ok (.iload_n 3, 1) := by decide +kernel
theorem dX7_lacks_32 : decode cX7_lacks 32 = .ok (.bipush 120, 2) := by decide +kernel
theorem dX7_lacks_34 : decode cX7_lacks 34 = .ok (.if_icmp .gt 25, 3) := by decide +kernel
theorem dX7_lacks_37 : decode cX7_lacks 37 = .ok (.aload_n 0, 1) := by decide +kernel
theorem dX7_lacks_38 : decode cX7_lacks 38 = .ok (.getfield 12, 3) := by decide +kernel
theorem dX7_lacks_41 : decode cX7_lacks 41 = .ok (.iload_n 1, 1) := by decide +kernel
theorem dX7_lacks_42 : decode cX7_lacks 42 = .ok (.iload_n 2, 1) := by decide +kernel
theorem dX7_lacks_43 : decode cX7_lacks 43 = .ok (.iload_n 3, 1) := by decide +kernel
theorem dX7_lacks_44 : decode cX7_lacks 44 = .ok (.iadd, 1) := by decide +kernel
theorem dX7_lacks_45 : decode cX7_lacks 45 = .ok (.invokevirtual 209, 3) := by decide +kernel
theorem dX7_lacks_48 : decode cX7_lacks 48 = .ok (.ifCond .ne 5, 3) := by decide +kernel
theorem dX7_lacks_51 : decode cX7_lacks 51 = .ok (.iload_n 3, 1) := by decide +kernel
theorem dX7_lacks_52 : decode cX7_lacks 52 = .ok (.ireturn, 1) := by decide +kernel
theorem dX7_lacks_53 : decode cX7_lacks 53 = .ok (.iinc 3 1, 3) := by decide +kernel
theorem dX7_lacks_56 : decode cX7_lacks 56 = .ok (.goto (-25), 3) := by decide +kernel
theorem dX7_lacks_59 : decode cX7_lacks 59 = .ok (.bipush (-5), 2) := by decide +kernel
theorem dX7_lacks_61 : decode cX7_lacks 61 = .ok (.ireturn, 1) := by decide +kernel
theorem dX7_free_0 : decode cX7_free 0 = .ok (.iconst 1, 1) := by decide +kernel
theorem dX7_free_1 : decode cX7_free 1 = .ok (.aload_n 0, 1) := by decide +kernel
theorem dX7_free_2 : decode cX7_free 2 = .ok (.getfield 12, 3) := by decide +kernel
theorem dX7_free_5 : decode cX7_free 5 = .ok (.getfield 108, 3) := by decide +kernel
theorem dX7_free_8 : decode cX7_free 8 = .ok (.getfield 212, 3) := by decide +kernel
theorem dX7_free_11 : decode cX7_free 11 = .ok (.ishl, 1) := by decide +kernel
theorem dX7_free_12 : decode cX7_free 12 = .ok (.iconst 1, 1) := by decide +kernel
theorem dX7_free_13 : decode cX7_free 13 = .ok (.isub, 1) := by decide +kernel
theorem dX7_free_14 : decode cX7_free 14 = .ok (.istore_n 1, 1) := by decide +kernel
theorem dX7_free_15 : decode cX7_free 15 = .ok (.iload_n 1, 1) := by decide +kernel
theorem dX7_free_16 : decode cX7_free 16 = .ok (.aload_n 0, 1) := by decide +kernel
theorem dX7_free_17 : decode cX7_free 17 = .ok (.getfield 12, 3) := by decide +kernel
theorem dX7_free_20 : decode cX7_free 20 = .ok (.getfield 125, 3) := by decide +kernel
theorem dX7_free_23 : decode cX7_free 23 = .ok (.invokevirtual 213, 3) := by decide +kernel
theorem dX7_free_26 : decode cX7_free 26 = .ok (.iconst (-1), 1) := by decide +kernel
theorem dX7_free_27 : decode cX7_free 27 = .ok (.ixor, 1) := by decide +kernel
theorem dX7_free_28 : decode cX7_free 28 = .ok (.iand, 1) := by decide +kernel
theorem dX7_free_29 : decode cX7_free 29 = .ok (.ireturn, 1) := by decide +kernel
theorem dX7_oldest_0 : decode cX7_oldest 0 = .ok (.aload_n 0, 1) := by decide +kernel
theorem dX7_oldest_1 : decode cX7_oldest 1 = .ok (.getfield 12, 3) := by decide +kernel
theorem dX7_oldest_4 : decode cX7_oldest 4 = .ok (.getfield 108, 3) := by decide +kernel
theorem dX7_oldest_7 : decode cX7_oldest 7 = .ok (.iload_n 1, 1) := by decide +kernel
theorem dX7_oldest_8 : decode cX7_oldest 8 = .ok (.invokevirtual 112, 3) := by decide +kernel
theorem dX7_oldest_11 : decode cX7_oldest 11 = .ok (.ifCond .ne 5, 3) := by decide +kernel
theorem dX7_oldest_14 : decode cX7_oldest 14 = .ok (.iconst (-1), 1) := by decide +kernel
theorem dX7_oldest_15 : decode cX7_oldest 15 = .ok (.ireturn, 1) := by decide +kernel
theorem dX7_oldest_16 : decode cX7_oldest 16 = .ok (.iload_n 2, 1) := by decide +kernel
theorem dX7_oldest_17 : decode cX7_oldest 17 = .ok (.ifCond .lt 8, 3) := by decide +kernel
theorem dX7_oldest_20 : decode cX7_oldest 20 = .ok (.iload_n 2, 1) := by decide +kernel
theorem dX7_oldest_21 : decode cX7_oldest 21 = .ok (.iconst 1, 1) := by decide +kernel
theorem dX7_oldest_22 : decode cX7_oldest 22 = .ok (.if_icmp .le 6, 3) := by decide +kernel
theorem dX7_oldest_25 : decode cX7_oldest 25 = .ok (.bipush (-2), 2) := by decide +kernel
theorem dX7_oldest_27 : decode cX7_oldest 27 = .ok (.ireturn, 1) := by decide +kernel
theorem dX7_oldest_28 : decode cX7_oldest 28 = .ok (.aload_n 0, 1) := by decide +kernel
theorem dX7_oldest_29 : decode cX7_oldest 29 = .ok (.getfield 12, 3) := by decide +kernel
theorem dX7_oldest_32 : decode cX7_oldest 32 = .ok (.getfield 99, 3) := by decide +kernel
theorem dX7_oldest_35 : decode cX7_oldest 35 = .ok (.aload_n 0, 1) := by decide +kernel
theorem dX7_oldest_36 : decode cX7_oldest 36 = .ok (.getfield 12, 3) := by decide +kernel
theorem dX7_oldest_39 : decode cX7_oldest 39 = .ok (.getfield 108, 3) := by decide +kernel
theorem dX7_oldest_42 : decode cX7_oldest 42 = .ok (.getfield 118, 3) := by decide +kernel
theorem dX7_oldest_45 : decode cX7_oldest 45 = .ok (.iload_n 1, 1) := by decide +kernel
theorem dX7_oldest_46 : decode cX7_oldest 46 = .ok (.iaload, 1) := by decide +kernel
theorem dX7_oldest_47 : decode cX7_oldest 47 = .ok (.invokevirtual 216, 3) := by decide +kernel
theorem dX7_oldest_50 : decode cX7_oldest 50 = .ok (.istore_n 3, 1) := by decide +kernel
theorem dX7_oldest_51 : decode cX7_oldest 51 = .ok (.iload_n 3, 1) := by decide +kernel
theorem dX7_oldest_52 : decode cX7_oldest 52 = .ok (.bipush (-5), 2) := by decide +kernel
theorem dX7_oldest_54 : decode cX7_oldest 54 = .ok (.if_icmp .ne 6, 3) := by decide +kernel
theorem dX7_oldest_57 : decode cX7_oldest 57 = .ok (.bipush (-5), 2) := by decide +kernel
theorem dX7_oldest_59 : decode cX7_oldest 59 = .ok (.ireturn, 1) := by decide +kernel
theorem dX7_oldest_60 : decode cX7_oldest 60 = .ok (.iload_n 2, 1) := by decide +kernel
theorem dX7_oldest_61 : decode cX7_oldest 61 = .ok (.ifCond .ne 17, 3) := by decide +kernel
theorem dX7_oldest_64 : decode cX7_oldest 64 = .ok (.aload_n 0, 1) := by decide +kernel
theorem dX7_oldest_65 : decode cX7_oldest 65 = .ok (.getfield 12, 3) := by decide +kernel
theorem dX7_oldest_68 : decode cX7_oldest 68 = .ok (.getfield 99, 3) := by decide +kernel
theorem dX7_oldest_71 : decode cX7_oldest 71 = .ok (.iload_n 3, 1) := by decide +kernel
theorem dX7_oldest_72 : decode cX7_oldest 72 = .ok (.invokevirtual 219, 3) := by decide +kernel
theorem dX7_oldest_75 : decode cX7_oldest 75 = .ok (.goto 15, 3) := by decide +kernel
theorem dX7_oldest_78 : decode cX7_oldest 78 = .ok (.aload_n 0, 1) := by decide +kernel
theorem dX7_oldest_79 : decode cX7_oldest 79 = .ok (.getfield 12, 3) := by decide +kernel
theorem dX7_oldest_82 : decode cX7_oldest 82 = .ok (.getfield 99, 3) := by decide +kernel
theorem dX7_oldest_85 : decode cX7_oldest 85 = .ok (.getfield 155, 3) := by decide +kernel
theorem dX7_oldest_88 : decode cX7_oldest 88 = .ok (.iload_n 3, 1) := by decide +kernel
theorem dX7_oldest_89 : decode cX7_oldest 89 = .ok (.iaload, 1) := by decide +kernel
theorem dX7_oldest_90 : decode cX7_oldest 90 = .ok (.ireturn, 1) := by decide +kernel
theorem dX7_count_0 : decode cX7_count 0 = .ok (.iload_n 1, 1) := by decide +kernel
theorem dX7_count_1 : decode cX7_count 1 = .ok (.tableswitch 244 0 15 #[79, 87, 95, 103, 114, 125, 136, 147, 161, 175, 189, 197, 208, 218, 228, 236], 79) := by decide +kernel
theorem dX7_count_80 : decode cX7_count 80 = .ok (.aload_n 0, 1) := by decide +kernel
theorem dX7_count_81 : decode cX7_count 81 = .ok (.getfield 12, 3) := by decide +kernel
theorem dX7_count_84 : decode cX7_count 84 = .ok (.getfield 222, 3) := by decide +kernel
theorem dX7_count_87 : decode cX7_count 87 = .ok (.ireturn, 1) := by decide +kernel
theorem dX7_count_88 : decode cX7_count 88 = .ok (.aload_n 0, 1) := by decide +kernel
theorem dX7_count_89 : decode cX7_count 89 = .ok (.getfield 12, 3) := by decide +kernel
theorem dX7_count_92 : decode cX7_count 92 = .ok (.getfield 225, 3) := by decide +kernel
theorem dX7_count_95 : decode cX7_count 95 = .ok (.ireturn, 1) := by decide +kernel
theorem dX7_count_96 : decode cX7_count 96 = .ok (.aload_n 0, 1) := by decide +kernel
theorem dX7_count_97 : decode cX7_count 97 = .ok (.getfield 12, 3) := by decide +kernel
theorem dX7_count_100 : decode cX7_count 100 = .ok (.getfield 227, 3) := by decide +kernel
theorem dX7_count_103 : decode cX7_count 103 = .ok (.ireturn, 1) := by decide +kernel
theorem dX7_count_104 : decode cX7_count 104 = .ok (.aload_n 0, 1) := by decide +kernel
theorem dX7_count_105 : decode cX7_count 105 = .ok (.getfield 12, 3) := by decide +kernel
theorem dX7_count_108 : decode cX7_count 108 = .ok (.getfield 108, 3) := by decide +kernel
theorem dX7_count_111 : decode cX7_count 111 = .ok (.getfield 212, 3) := by decide +kernel
theorem dX7_count_114 : decode cX7_count 114 = .ok (.ireturn, 1) := by decide +kernel
theorem dX7_count_115 : decode cX7_count 115 = .ok (.aload_n 0, 1) := by decide +kernel
theorem dX7_count_116 : decode cX7_count 116 = .ok (.getfield 12, 3) := by decide +kernel
theorem dX7_count_119 : decode cX7_count 119 = .ok (.getfield 99, 3) := by decide +kernel
theorem dX7_count_122 : decode cX7_count 122 = .ok (.invokevirtual 103, 3) := by decide +kernel
theorem dX7_count_125 : decode cX7_count 125 = .ok (.ireturn, 1) := by decide +kernel
theorem dX7_count_126 : decode cX7_count 126 = .ok (.aload_n 0, 1) := by decide +kernel
theorem dX7_count_127 : decode cX7_count 127 = .ok (.getfield 12, 3) := by decide +kernel
theorem dX7_count_130 : decode cX7_count 130 = .ok (.getfield 99, 3) := by decide +kernel
theorem dX7_count_133 : decode cX7_count 133 = .ok (.invokevirtual 230, 3) := by decide +kernel
theorem dX7_count_136 : decode cX7_count 136 = .ok (.ireturn, 1) := by decide +kernel
theorem dX7_count_137 : decode cX7_count 137 = .ok (.aload_n 0, 1) := by decide +kernel
theorem dX7_count_138 : decode cX7_count 138 = .ok (.getfield 12, 3) := by decide +kernel
theorem dX7_count_141 : decode cX7_count 141 = .ok (.getfield 125, 3) := by decide +kernel
theorem dX7_count_144 : decode cX7_count 144 = .ok (.getfield 207, 3) := by decide +kernel
theorem dX7_count_147 : decode cX7_count 147 = .ok (.ireturn, 1) := by decide +kernel
theorem dX7_count_148 : decode cX7_count 148 = .ok (.aload_n 0, 1) := by decide +kernel
theorem dX7_count_149 : decode cX7_count 149 = .ok (.getfield 12, 3) := by decide +kernel
theorem dX7_count_152 : decode cX7_count 152 = .ok (.getfield 108, 3) := by decide +kernel
theorem dX7_count_155 : decode cX7_count 155 = .ok (.getfield 137, 3) := by decide +kernel
theorem dX7_count_158 : decode cX7_count 158 = .ok (.invokestatic 233, 3) := by decide +kernel
theorem dX7_count_161 : decode cX7_count 161 = .ok (.ireturn, 1) := by decide +kernel
theorem dX7_count_162 : decode cX7_count 162 = .ok (.aload_n 0, 1) := by decide +kernel
theorem dX7_count_163 : decode cX7_count 163 = .ok (.getfield 12, 3) := by decide +kernel
theorem dX7_count_166 : decode cX7_count 166 = .ok (.getfield 108, 3) := by decide +kernel
theorem dX7_count_169 : decode cX7_count 169 = .ok (.getfield 140, 3) := by decide +kernel
theorem dX7_count_172 : decode cX7_count 172 = .ok (.invokestatic 233, 3) := by decide +kernel
theorem dX7_count_175 : decode cX7_count 175 = .ok (.ireturn, 1) := by decide +kernel
theorem dX7_count_176 : decode cX7_count 176 = .ok (.aload_n 0, 1) := by decide +kernel
theorem dX7_count_177 : decode cX7_count 177 = .ok (.getfield 12, 3) := by decide +kernel
theorem dX7_count_180 : decode cX7_count 180 = .ok (.getfield 108, 3) := by decide +kernel
theorem dX7_count_183 : decode cX7_count 183 = .ok (.getfield 143, 3) := by decide +kernel
theorem dX7_count_186 : decode cX7_count 186 = .ok (.invokestatic 233, 3) := by decide +kernel
theorem dX7_count_189 : decode cX7_count 189 = .ok (.ireturn, 1) := by decide +kernel
theorem dX7_count_190 : decode cX7_count 190 = .ok (.aload_n 0, 1) := by decide +kernel
theorem dX7_count_191 : decode cX7_count 191 = .ok (.getfield 12, 3) := by decide +kernel
theorem dX7_count_194 : decode cX7_count 194 = .ok (.getfield 237, 3) := by decide +kernel
theorem dX7_count_197 : decode cX7_count 197 = .ok (.ireturn, 1) := by decide +kernel
theorem dX7_count_198 : decode cX7_count 198 = .ok (.aload_n 0, 1) := by decide +kernel
theorem dX7_count_199 : decode cX7_count 199 = .ok (.getfield 12, 3) := by decide +kernel
theorem dX7_count_202 : decode cX7_count 202 = .ok (.getfield 99, 3) := by decide +kernel
theorem dX7_count_205 : decode cX7_count 205 = .ok (.invokevirtual 240, 3) := by decide +kernel
theorem dX7_count_208 : decode cX7_count 208 = .ok (.ireturn, 1) := by decide +kernel
theorem dX7_count_209 : decode cX7_count 209 = .ok (.aload_n 0, 1) := by decide +kernel
theorem dX7_count_210 : decode cX7_count 210 = .ok (.getfield 12, 3) := by decide +kernel
theorem dX7_count_213 : decode cX7_count 213 = .ok (.getfield 243, 3) := by decide +kernel
theorem dX7_count_216 : decode cX7_count 216 = .ok (.iconst 0, 1) := by decide +kernel
theorem dX7_count_217 : decode cX7_count 217 = .ok (.iaload, 1) := by decide +kernel
theorem dX7_count_218 : decode cX7_count 218 = .ok (.ireturn, 1) := by decide +kernel
theorem dX7_count_219 : decode cX7_count 219 = .ok (.aload_n 0, 1) := by decide +kernel
theorem dX7_count_220 : decode cX7_count 220 = .ok (.getfield 12, 3) := by decide +kernel
theorem dX7_count_223 : decode cX7_count 223 = .ok (.getfield 243, 3) := by decide +kernel
theorem dX7_count_226 : decode cX7_count 226 = .ok (.iconst 1, 1) := by decide +kernel
theorem dX7_count_227 : decode cX7_count 227 = .ok (.iaload, 1) := by decide +kernel
theorem dX7_count_228 : decode cX7_count 228 = .ok (.ireturn, 1) := by decide +kernel
theorem dX7_count_229 : decode cX7_count 229 = .ok (.aload_n 0, 1) := by decide +kernel
theorem dX7_count_230 : decode cX7_count 230 = .ok (.getfield 28, 3) := by decide +kernel
theorem dX7_count_233 : decode cX7_count 233 = .ok (.getfield 246, 3) := by decide +kernel
theorem dX7_count_236 : decode cX7_count 236 = .ok (.ireturn, 1) := by decide +kernel
theorem dX7_count_237 : decode cX7_count 237 = .ok (.aload_n 0, 1) := by decide +kernel
theorem dX7_count_238 : decode cX7_count 238 = .ok (.getfield 35, 3) := by decide +kernel
theorem dX7_count_241 : decode cX7_count 241 = .ok (.getfield 247, 3) := by decide +kernel
theorem dX7_count_244 : decode cX7_count 244 = .ok (.ireturn, 1) := by decide +kernel
theorem dX7_count_245 : decode cX7_count 245 = .ok (.bipush (-2), 2) := by decide +kernel
theorem dX7_count_247 : decode cX7_count 247 = .ok (.ireturn, 1) := by decide +kernel
theorem dX7_isComb_0 : decode cX7_isComb 0 = .ok (.iload_n 0, 1) := by decide +kernel
theorem dX7_isComb_1 : decode cX7_isComb 1 = .ok (.ifCond .lt 13, 3) := by decide +kernel
theorem dX7_isComb_4 : decode cX7_isComb 4 = .ok (.iload_n 0, 1) := by decide +kernel
theorem dX7_isComb_5 : decode cX7_isComb 5 = .ok (.bipush 6, 2) := by decide +kernel
theorem dX7_isComb_7 : decode cX7_isComb 7 = .ok (.if_icmp .ge 7, 3) := by decide +kernel
theorem dX7_isComb_10 : decode cX7_isComb 10 = .ok (.iconst 1, 1) := by decide +kernel
theorem dX7_isComb_11 : decode cX7_isComb 11 = .ok (.goto 4, 3) := by decide +kernel
theorem dX7_isComb_14 : decode cX7_isComb 14 = .ok (.iconst 0, 1) := by decide +kernel
theorem dX7_isComb_15 : decode cX7_isComb 15 = .ok (.ireturn, 1) := by decide +kernel
theorem dX7_isPlace_0 : decode cX7_isPlace 0 = .ok (.iload_n 0, 1) := by decide +kernel
theorem dX7_isPlace_1 : decode cX7_isPlace 1 = .ok (.ifCond .lt 13, 3) := by decide +kernel
theorem dX7_isPlace_4 : decode cX7_isPlace 4 = .ok (.iload_n 0, 1) := by decide +kernel
theorem dX7_isPlace_5 : decode cX7_isPlace 5 = .ok (.bipush 7, 2) := by decide +kernel
theorem dX7_isPlace_7 : decode cX7_isPlace 7 = .ok (.if_icmp .ge 7, 3) := by decide +kernel
theorem dX7_isPlace_10 : decode cX7_isPlace 10 = .ok (.iconst 1, 1) := by decide +kernel
theorem dX7_isPlace_11 : decode cX7_isPlace 11 = .ok (.goto 4, 3) := by decide +kernel
theorem dX7_isPlace_14 : decode cX7_isPlace 14 = .ok (.iconst 0, 1) := by decide +kernel
theorem dX7_isPlace_15 : decode cX7_isPlace 15 = .ok (.ireturn, 1) := by decide +kernel
theorem dX7_isDoing_0 : decode cX7_isDoing 0 = .ok (.iload_n 0, 1) := by decide +kernel
theorem dX7_isDoing_1 : decode cX7_isDoing 1 = .ok (.ifCond .lt 13, 3) := by decide +kernel
theorem dX7_isDoing_4 : decode cX7_isDoing 4 = .ok (.iload_n 0, 1) := by decide +kernel
theorem dX7_isDoing_5 : decode cX7_isDoing 5 = .ok (.bipush 20, 2) := by decide +kernel
theorem dX7_isDoing_7 : decode cX7_isDoing 7 = .ok (.if_icmp .ge 7, 3) := by decide +kernel
theorem dX7_isDoing_10 : decode cX7_isDoing 10 = .ok (.iconst 1, 1) := by decide +kernel
theorem dX7_isDoing_11 : decode cX7_isDoing 11 = .ok (.goto 4, 3) := by decide +kernel
theorem dX7_isDoing_14 : decode cX7_isDoing 14 = .ok (.iconst 0, 1) := by decide +kernel
theorem dX7_isDoing_15 : decode cX7_isDoing 15 = .ok (.ireturn, 1) := by decide +kernel
theorem dX7_sum_0 : decode cX7_sum 0 = .ok (.iconst 0, 1) := by decide +kernel
theorem dX7_sum_1 : decode cX7_sum 1 = .ok (.istore_n 1, 1) := by decide +kernel
theorem dX7_sum_2 : decode cX7_sum 2 = .ok (.aload_n 0, 1) := by decide +kernel
theorem dX7_sum_3 : decode cX7_sum 3 = .ok (.astore_n 2, 1) := by decide +kernel
theorem dX7_sum_4 : decode cX7_sum 4 = .ok (.aload_n 2, 1) := by decide +kernel
theorem dX7_sum_5 : decode cX7_sum 5 = .ok (.arraylength, 1) := by decide +kernel
theorem dX7_sum_6 : decode cX7_sum 6 = .ok (.istore_n 3, 1) := by decide +kernel
theorem dX7_sum_7 : decode cX7_sum 7 = .ok (.iconst 0, 1) := by decide +kernel
theorem dX7_sum_8 : decode cX7_sum 8 = .ok (.istore 4, 2) := by decide +kernel
theorem dX7_sum_10 : decode cX7_sum 10 = .ok (.iload 4, 2) := by decide +kernel
theorem dX7_sum_12 : decode cX7_sum 12 = .ok (.iload_n 3, 1) := by decide +kernel
theorem dX7_sum_13 : decode cX7_sum 13 = .ok (.if_icmp .ge 20, 3) := by decide +kernel
theorem dX7_sum_16 : decode cX7_sum 16 = .ok (.aload_n 2, 1) := by decide +kernel
theorem dX7_sum_17 : decode cX7_sum 17 = .ok (.iload 4, 2) := by decide +kernel
theorem dX7_sum_19 : decode cX7_sum 19 = .ok (.iaload, 1) := by decide +kernel
theorem dX7_sum_20 : decode cX7_sum 20 = .ok (.istore 5, 2) := by decide +kernel
theorem dX7_sum_22 : decode cX7_sum 22 = .ok (.iload_n 1, 1) := by decide +kernel
theorem dX7_sum_23 : decode cX7_sum 23 = .ok (.iload 5, 2) := by decide +kernel
theorem dX7_sum_25 : decode cX7_sum 25 = .ok (.iadd, 1) := by decide +kernel
theorem dX7_sum_26 : decode cX7_sum 26 = .ok (.istore_n 1, 1) := by decide +kernel
theorem dX7_sum_27 : decode cX7_sum 27 = .ok (.iinc 4 1, 3) := by decide +kernel
theorem dX7_sum_30 : decode cX7_sum 30 = .ok (.goto (-20), 3) := by decide +kernel
theorem dX7_sum_33 : decode cX7_sum 33 = .ok (.iload_n 1, 1) := by decide +kernel
theorem dX7_sum_34 : decode cX7_sum 34 = .ok (.ireturn, 1) := by decide +kernel
theorem dX7_recorded_0 : decode cX7_recorded 0 = .ok (.iload_n 1, 1) := by decide +kernel
theorem dX7_recorded_1 : decode cX7_recorded 1 = .ok (.ifCond .lt 14, 3) := by decide +kernel
theorem dX7_recorded_4 : decode cX7_recorded 4 = .ok (.aload_n 0, 1) := by decide +kernel
theorem dX7_recorded_5 : decode cX7_recorded 5 = .ok (.getfield 28, 3) := by decide +kernel
theorem dX7_recorded_8 : decode cX7_recorded 8 = .ok (.aload_n 0, 1) := by decide +kernel
theorem dX7_recorded_9 : decode cX7_recorded 9 = .ok (.getfield 16, 3) := by decide +kernel
theorem dX7_recorded_12 : decode cX7_recorded 12 = .ok (.invokevirtual 250, 3) := by decide +kernel
theorem dX7_recorded_15 : decode cX7_recorded 15 = .ok (.iload_n 1, 1) := by decide +kernel
theorem dX7_recorded_16 : decode cX7_recorded 16 = .ok (.ireturn, 1) := by decide +kernel
theorem dL_cell_0 : decode cL_cell 0 = .ok (.iload_n 1, 1) := by decide +kernel
theorem dL_cell_1 : decode cL_cell 1 = .ok (.aload_n 0, 1) := by decide +kernel
theorem dL_cell_2 : decode cL_cell 2 = .ok (.arraylength, 1) := by decide +kernel
theorem dL_cell_3 : decode cL_cell 3 = .ok (.if_icmp .ge 9, 3) := by decide +kernel
theorem dL_cell_6 : decode cL_cell 6 = .ok (.aload_n 0, 1) := by decide +kernel
theorem dL_cell_7 : decode cL_cell 7 = .ok (.iload_n 1, 1) := by decide +kernel
theorem dL_cell_8 : decode cL_cell 8 = .ok (.iaload, 1) := by decide +kernel
theorem dL_cell_9 : decode cL_cell 9 = .ok (.goto 12, 3) := by decide +kernel
theorem dL_cell_12 : decode cL_cell 12 = .ok (.ldc 7, 2) := by decide +kernel
theorem dL_cell_14 : decode cL_cell 14 = .ok (.iload_n 1, 1) := by decide +kernel
theorem dL_cell_15 : decode cL_cell 15 = .ok (.iconst 1, 1) := by decide +kernel
theorem dL_cell_16 : decode cL_cell 16 = .ok (.iadd, 1) := by decide +kernel
theorem dL_cell_17 : decode cL_cell 17 = .ok (.imul, 1) := by decide +kernel
theorem dL_cell_18 : decode cL_cell 18 = .ok (.ldc 8, 2) := by decide +kernel
theorem dL_cell_20 : decode cL_cell 20 = .ok (.iadd, 1) := by decide +kernel
theorem dL_cell_21 : decode cL_cell 21 = .ok (.ireturn, 1) := by decide +kernel
theorem dL_low_0 : decode cL_low 0 = .ok (.iload_n 0, 1) := by decide +kernel
theorem dL_low_1 : decode cL_low 1 = .ok (.ldc 9, 2) := by decide +kernel
theorem dL_low_3 : decode cL_low 3 = .ok (.iand, 1) := by decide +kernel
theorem dL_low_4 : decode cL_low 4 = .ok (.iload_n 1, 1) := by decide +kernel
theorem dL_low_5 : decode cL_low 5 = .ok (.irem, 1) := by decide +kernel
theorem dL_low_6 : decode cL_low 6 = .ok (.ireturn, 1) := by decide +kernel
theorem dL_act_0 : decode cL_act 0 = .ok (.iload_n 1, 1) := by decide +kernel
theorem dL_act_1 : decode cL_act 1 = .ok (.iconst 4, 1) := by decide +kernel
theorem dL_act_2 : decode cL_act 2 = .ok (.ishr, 1) := by decide +kernel
theorem dL_act_3 : decode cL_act 3 = .ok (.bipush 9, 2) := by decide +kernel
theorem dL_act_5 : decode cL_act 5 = .ok (.invokestatic 10, 3) := by decide +kernel
theorem dL_act_8 : decode cL_act 8 = .ok (.istore_n 3, 1) := by decide +kernel
theorem dL_act_9 : decode cL_act 9 = .ok (.iload_n 2, 1) := by decide +kernel
theorem dL_act_10 : decode cL_act 10 = .ok (.iload_n 2, 1) := by decide +kernel
theorem dL_act_11 : decode cL_act 11 = .ok (.bipush 9, 2) := by decide +kernel
theorem dL_act_13 : decode cL_act 13 = .ok (.ishr, 1) := by decide +kernel
theorem dL_act_14 : decode cL_act 14 = .ok (.iconst 2, 1) := by decide +kernel
theorem dL_act_15 : decode cL_act 15 = .ok (.invokestatic 10, 3) := by decide +kernel
theorem dL_act_18 : decode cL_act 18 = .ok (.ifCond .ne 8, 3) := by decide +kernel
theorem dL_act_21 : decode cL_act 21 = .ok (.bipush 20, 2) := by decide +kernel
theorem dL_act_23 : decode cL_act 23 = .ok (.goto 4, 3) := by decide +kernel
theorem dL_act_26 : decode cL_act 26 = .ok (.iconst 3, 1) := by decide +kernel
theorem dL_act_27 : decode cL_act 27 = .ok (.invokestatic 10, 3) := by decide +kernel
theorem dL_act_30 : decode cL_act 30 = .ok (.istore 4, 2) := by decide +kernel
theorem dL_act_32 : decode cL_act 32 = .ok (.iload_n 1, 1) := by decide +kernel
theorem dL_act_33 : decode cL_act 33 = .ok (.bipush 15, 2) := by decide +kernel
theorem dL_act_35 : decode cL_act 35 = .ok (.invokestatic 10, 3) := by decide +kernel
theorem dL_act_38 : decode cL_act 38 = .ok (.tableswitch 179 0 10 #[58, 78, 89, 89, 89, 89, 127, 127, 127, 127, 139], 58) := by decide +kernel
theorem dL_act_96 : decode cL_act 96 = .ok (.aload_n 0, 1) := by decide +kernel
theorem dL_act_97 : decode cL_act 97 = .ok (.iload_n 1, 1) := by decide +kernel
theorem dL_act_98 : decode cL_act 98 = .ok (.iconst 4, 1) := by decide +kernel
theorem dL_act_99 : decode cL_act 99 = .ok (.ishr, 1) := by decide +kernel
theorem dL_act_100 : decode cL_act 100 = .ok (.iconst 4, 1) := by decide +kernel
theorem dL_act_101 : decode cL_act 101 = .ok (.invokestatic 10, 3) := by decide +kernel
theorem dL_act_104 : decode cL_act 104 = .ok (.iconst 1, 1) := by decide +kernel
theorem dL_act_105 : decode cL_act 105 = .ok (.iload_n 2, 1) := by decide +kernel
theorem dL_act_106 : decode cL_act 106 = .ok (.bipush 9, 2) := by decide +kernel
theorem dL_act_108 : decode cL_act 108 = .ok (.invokestatic 10, 3) := by decide +kernel
theorem dL_act_111 : decode cL_act 111 = .ok (.iadd, 1) := by decide +kernel
theorem dL_act_112 : decode cL_act 112 = .ok (.invokevirtual 16, 3) := by decide +kernel
theorem dL_act_115 : decode cL_act 115 = .ok (.ireturn, 1) := by decide +kernel
theorem dL_act_116 : decode cL_act 116 = .ok (.aload_n 0, 1) := by decide +kernel
theorem dL_act_117 : decode cL_act 117 = .ok (.iload_n 3, 1) := by decide +kernel
theorem dL_act_118 : decode cL_act 118 = .ok (.iload_n 2, 1) := by decide +kernel
theorem dL_act_119 : decode cL_act 119 = .ok (.iconst 4, 1) := by decide +kernel
theorem dL_act_120 : decode cL_act 120 = .ok (.invokestatic 10, 3) := by decide +kernel
theorem dL_act_123 : decode cL_act 123 = .ok (.invokevirtual 21, 3) := by decide +kernel
theorem dL_act_126 : decode cL_act 126 = .ok (.ireturn, 1) := by decide +kernel
theorem dL_act_127 : decode cL_act 127 = .ok (.aload_n 0, 1) := by decide +kernel
theorem dL_act_128 : decode cL_act 128 = .ok (.iload_n 3, 1) := by decide +kernel
theorem dL_act_129 : decode cL_act 129 = .ok (.iload_n 2, 1) := by decide +kernel
theorem dL_act_130 : decode cL_act 130 = .ok (.bipush 6, 2) := by decide +kernel
theorem dL_act_132 : decode cL_act 132 = .ok (.ishr, 1) := by decide +kernel
theorem dL_act_133 : decode cL_act 133 = .ok (.iconst 5, 1) := by decide +kernel
theorem dL_act_134 : decode cL_act 134 = .ok (.invokestatic 10, 3) := by decide +kernel
theorem dL_act_137 : decode cL_act 137 = .ok (.iconst 2, 1) := by decide +kernel
theorem dL_act_138 : decode cL_act 138 = .ok (.if_icmp .le 8, 3) := by decide +kernel
theorem dL_act_141 : decode cL_act 141 = .ok (.bipush 6, 2) := by decide +kernel
theorem dL_act_143 : decode cL_act 143 = .ok (.goto 9, 3) := by decide +kernel
theorem dL_act_146 : decode cL_act 146 = .ok (.aload_n 0, 1) := by decide +kernel
theorem dL_act_147 : decode cL_act 147 = .ok (.iload_n 3, 1) := by decide +kernel
theorem dL_act_148 : decode cL_act 148 = .ok (.iconst 0, 1) := by decide +kernel
theorem dL_act_149 : decode cL_act 149 = .ok (.invokevirtual 24, 3) := by decide +kernel
theorem dL_act_152 : decode cL_act 152 = .ok (.iload 4, 2) := by decide +kernel
theorem dL_act_154 : decode cL_act 154 = .ok (.iload_n 2, 1) := by decide +kernel
theorem dL_act_155 : decode cL_act 155 = .ok (.iconst 4, 1) := by decide +kernel
theorem dL_act_156 : decode cL_act 156 = .ok (.ishr, 1) := by decide +kernel
theorem dL_act_157 : decode cL_act 157 = .ok (.iconst 3, 1) := by decide +kernel
theorem dL_act_158 : decode cL_act 158 = .ok (.invokestatic 10, 3) := by decide +kernel
theorem dL_act_161 : decode cL_act 161 = .ok (.invokevirtual 27, 3) := by decide +kernel
theorem dL_act_164 : decode cL_act 164 = .ok (.ireturn, 1) := by decide +kernel
theorem dL_act_165 : decode cL_act 165 = .ok (.aload_n 0, 1) := by decide +kernel
theorem dL_act_166 : decode cL_act 166 = .ok (.iload_n 3, 1) := by decide +kernel
theorem dL_act_167 : decode cL_act 167 = .ok (.iload_n 2, 1) := by decide +kernel
theorem dL_act_168 : decode cL_act 168 = .ok (.bipush 6, 2) := by decide +kernel
theorem dL_act_170 : decode cL_act 170 = .ok (.invokestatic 10, 3) := by decide +kernel
theorem dL_act_173 : decode cL_act 173 = .ok (.invokevirtual 31, 3) := by decide +kernel
theorem dL_act_176 : decode cL_act 176 = .ok (.ireturn, 1) := by decide +kernel
theorem dL_act_177 : decode cL_act 177 = .ok (.iload_n 2, 1) := by decide +kernel
theorem dL_act_178 : decode cL_act 178 = .ok (.iconst 2, 1) := by decide +kernel
theorem dL_act_179 : decode cL_act 179 = .ok (.invokestatic 10, 3) := by decide +kernel
theorem dL_act_182 : decode cL_act 182 = .ok (.ifCond .ne 19, 3) := by decide +kernel
theorem dL_act_185 : decode cL_act 185 = .ok (.aload_n 0, 1) := by decide +kernel
theorem dL_act_186 : decode cL_act 186 = .ok (.iconst 0, 1) := by decide +kernel
theorem dL_act_187 : decode cL_act 187 = .ok (.iload_n 2, 1) := by decide +kernel
theorem dL_act_188 : decode cL_act 188 = .ok (.iconst 1, 1) := by decide +kernel
theorem dL_act_189 : decode cL_act 189 = .ok (.ishr, 1) := by decide +kernel
theorem dL_act_190 : decode cL_act 190 = .ok (.bipush 12, 2) := by decide +kernel
theorem dL_act_192 : decode cL_act 192 = .ok (.invokestatic 10, 3) := by decide +kernel
theorem dL_act_195 : decode cL_act 195 = .ok (.invokevirtual 34, 3) := by decide +kernel
theorem dL_act_198 : decode cL_act 198 = .ok (.goto 18, 3) := by decide +kernel
theorem dL_act_201 : decode cL_act 201 = .ok (.aload_n 0, 1) := by decide +kernel
theorem dL_act_202 : decode cL_act 202 = .ok (.iconst 1, 1) := by decide +kernel
theorem dL_act_203 : decode cL_act 203 = .ok (.iconst 1, 1) := by decide +kernel
theorem dL_act_204 : decode cL_act 204 = .ok (.iload_n 2, 1) := by decide +kernel
theorem dL_act_205 : decode cL_act 205 = .ok (.iconst 1, 1) := by decide +kernel
theorem dL_act_206 : decode cL_act 206 = .ok (.ishr, 1) := by decide +kernel
theorem dL_act_207 : decode cL_act 207 = .ok (.bipush 8, 2) := by decide +kernel
theorem dL_act_209 : decode cL_act 209 = .ok (.invokestatic 10, 3) := by decide +kernel
theorem dL_act_212 : decode cL_act 212 = .ok (.iadd, 1) := by decide +kernel
theorem dL_act_213 : decode cL_act 213 = .ok (.invokevirtual 34, 3) := by decide +kernel
theorem dL_act_216 : decode cL_act 216 = .ok (.ireturn, 1) := by decide +kernel
theorem dL_act_217 : decode cL_act 217 = .ok (.aload_n 0, 1) := by decide +kernel
theorem dL_act_218 : decode cL_act 218 = .ok (.iconst 1, 1) := by decide +kernel
theorem dL_act_219 : decode cL_act 219 = .ok (.iload_n 2, 1) := by decide +kernel
theorem dL_act_220 : decode cL_act 220 = .ok (.iload_n 2, 1) := by decide +kernel
theorem dL_act_221 : decode cL_act 221 = .ok (.bipush 8, 2) := by decide +kernel
theorem dL_act_223 : decode cL_act 223 = .ok (.ishr, 1) := by decide +kernel
theorem dL_act_224 : decode cL_act 224 = .ok (.iconst 5, 1) := by decide +kernel
theorem dL_act_225 : decode cL_act 225 = .ok (.invokestatic 10, 3) := by decide +kernel
theorem dL_act_228 : decode cL_act 228 = .ok (.ifCond .ne 8, 3) := by decide +kernel
theorem dL_act_231 : decode cL_act 231 = .ok (.bipush 30, 2) := by decide +kernel
theorem dL_act_233 : decode cL_act 233 = .ok (.goto 4, 3) := by decide +kernel
theorem dL_act_236 : decode cL_act 236 = .ok (.iconst 5, 1) := by decide +kernel
theorem dL_act_237 : decode cL_act 237 = .ok (.invokestatic 10, 3) := by decide +kernel
theorem dL_act_240 : decode cL_act 240 = .ok (.iadd, 1) := by decide +kernel
theorem dL_act_241 : decode cL_act 241 = .ok (.invokevirtual 37, 3) := by decide +kernel
theorem dL_act_244 : decode cL_act 244 = .ok (.ireturn, 1) := by decide +kernel
theorem dL_weight_0 : decode cL_weight 0 = .ok (.iconst 0, 1) := by decide +kernel
theorem dL_weight_1 : decode cL_weight 1 = .ok (.istore_n 2, 1) := by decide +kernel
theorem dL_weight_2 : decode cL_weight 2 = .ok (.iconst 0, 1) := by decide +kernel
theorem dL_weight_3 : decode cL_weight 3 = .ok (.istore_n 3, 1) := by decide +kernel
theorem dL_weight_4 : decode cL_weight 4 = .ok (.iload_n 3, 1) := by decide +kernel
theorem dL_weight_5 : decode cL_weight 5 = .ok (.aload_n 0, 1) := by decide +kernel
theorem dL_weight_6 : decode cL_weight 6 = .ok (.iconst 3, 1) := by decide +kernel
theorem dL_weight_7 : decode cL_weight 7 = .ok (.invokevirtual 41, 3) := by decide +kernel
theorem dL_weight_10 : decode cL_weight 10 = .ok (.if_icmp .ge 38, 3) := by decide +kernel
theorem dL_weight_13 : decode cL_weight 13 = .ok (.iload_n 2, 1) := by decide +kernel
theorem dL_weight_14 : decode cL_weight 14 = .ok (.iload_n 1, 1) := by decide +kernel
theorem dL_weight_15 : decode cL_weight 15 = .ok (.bipush 6, 2) := by decide +kernel
theorem dL_weight_17 : decode cL_weight 17 = .ok (.if_icmp .eq 13, 3) := by decide +kernel
theorem dL_weight_20 : decode cL_weight 20 = .ok (.aload_n 0, 1) := by decide +kernel
theorem dL_weight_21 : decode cL_weight 21 = .ok (.iload_n 3, 1) := by decide +kernel
theorem dL_weight_22 : decode cL_weight 22 = .ok (.iconst 0, 1) := by decide +kernel
theorem dL_weight_23 : decode cL_weight 23 = .ok (.invokevirtual 24, 3) := by decide +kernel
theorem dL_weight_26 : decode cL_weight 26 = .ok (.iload_n 1, 1) := by decide +kernel
theorem dL_weight_27 : decode cL_weight 27 = .ok (.if_icmp .ne 12, 3) := by decide +kernel
theorem dL_weight_30 : decode cL_weight 30 = .ok (.aload_n 0, 1) := by decide +kernel
theorem dL_weight_31 : decode cL_weight 31 = .ok (.iload_n 3, 1) := by decide +kernel
theorem dL_weight_32 : decode cL_weight 32 = .ok (.iconst 1, 1) := by decide +kernel
theorem dL_weight_33 : decode cL_weight 33 = .ok (.invokevirtual 24, 3) := by decide +kernel
theorem dL_weight_36 : decode cL_weight 36 = .ok (.goto 4, 3) := by decide +kernel
theorem dL_weight_39 : decode cL_weight 39 = .ok (.iconst 0, 1) := by decide +kernel
theorem dL_weight_40 : decode cL_weight 40 = .ok (.iadd, 1) := by decide +kernel
theorem dL_weight_41 : decode cL_weight 41 = .ok (.istore_n 2, 1) := by decide +kernel
theorem dL_weight_42 : decode cL_weight 42 = .ok (.iinc 3 1, 3) := by decide +kernel
theorem dL_weight_45 : decode cL_weight 45 = .ok (.goto (-41), 3) := by decide +kernel
theorem dL_weight_48 : decode cL_weight 48 = .ok (.iload_n 2, 1) := by decide +kernel
theorem dL_weight_49 : decode cL_weight 49 = .ok (.ireturn, 1) := by decide +kernel
theorem dL_petitions_0 : decode cL_petitions 0 = .ok (.iconst 0, 1) := by decide +kernel
theorem dL_petitions_1 : decode cL_petitions 1 = .ok (.istore_n 1, 1) := by decide +kernel
theorem dL_petitions_2 : decode cL_petitions 2 = .ok (.iconst 0, 1) := by decide +kernel
theorem dL_petitions_3 : decode cL_petitions 3 = .ok (.istore_n 2, 1) := by decide +kernel
theorem dL_petitions_4 : decode cL_petitions 4 = .ok (.iconst 0, 1) := by decide +kernel
theorem dL_petitions_5 : decode cL_petitions 5 = .ok (.istore_n 3, 1) := by decide +kernel
theorem dL_petitions_6 : decode cL_petitions 6 = .ok (.iconst 0, 1) := by decide +kernel
theorem dL_petitions_7 : decode cL_petitions 7 = .ok (.istore 4, 2) := by decide +kernel
theorem dL_petitions_9 : decode cL_petitions 9 = .ok (.iconst 0, 1) := by decide +kernel
theorem dL_petitions_10 : decode cL_petitions 10 = .ok (.istore 5, 2) := by decide +kernel
theorem dL_petitions_12 : decode cL_petitions 12 = .ok (.iload 5, 2) := by decide +kernel
theorem dL_petitions_14 : decode cL_petitions 14 = .ok (.aload_n 0, 1) := by decide +kernel
theorem dL_petitions_15 : decode cL_petitions 15 = .ok (.iconst 3, 1) := by decide +kernel
theorem dL_petitions_16 : decode cL_petitions 16 = .ok (.invokevirtual 41, 3) := by decide +kernel
theorem dL_petitions_19 : decode cL_petitions 19 = .ok (.if_icmp .ge 125, 3) := by decide +kernel
theorem dL_petitions_22 : decode cL_petitions 22 = .ok (.aload_n 0, 1) := by decide +kernel
theorem dL_petitions_23 : decode cL_petitions 23 = .ok (.iload 5, 2) := by decide +kernel
theorem dL_petitions_25 : decode cL_petitions 25 = .ok (.iconst 2, 1) := by decide +kernel
theorem dL_petitions_26 : decode cL_petitions 26 = .ok (.invokevirtual 24, 3) := by decide +kernel
theorem dL_petitions_29 : decode cL_petitions 29 = .ok (.istore 6, 2) := by decide +kernel
theorem dL_petitions_31 : decode cL_petitions 31 = .ok (.iload_n 1, 1) := by decide +kernel
theorem dL_petitions_32 : decode cL_petitions 32 = .ok (.iload 6, 2) := by decide +kernel
theorem dL_petitions_34 : decode cL_petitions 34 = .ok (.bipush (-5), 2) := by decide +kernel
theorem dL_petitions_36 : decode cL_petitions 36 = .ok (.if_icmp .ne 10, 3) := by decide +kernel
theorem dL_petitions_39 : decode cL_petitions 39 = .ok (.iconst 1, 1) := by decide +kernel
theorem dL_petitions_40 : decode cL_petitions 40 = .ok (.iload 5, 2) := by decide +kernel
theorem dL_petitions_42 : decode cL_petitions 42 = .ok (.ishl, 1) := by decide +kernel
theorem dL_petitions_43 : decode cL_petitions 43 = .ok (.goto 4, 3) := by decide +kernel
theorem dL_petitions_46 : decode cL_petitions 46 = .ok (.iconst 0, 1) := by decide +kernel
theorem dL_petitions_47 : decode cL_petitions 47 = .ok (.ior, 1) := by decide +kernel
theorem dL_petitions_48 : decode cL_petitions 48 = .ok (.istore_n 1, 1) := by decide +kernel
theorem dL_petitions_49 : decode cL_petitions 49 = .ok (.iload_n 2, 1) := by decide +kernel
theorem dL_petitions_50 : decode cL_petitions 50 = .ok (.aload_n 0, 1) := by decide +kernel
theorem dL_petitions_51 : decode cL_petitions 51 = .ok (.iload 5, 2) := by decide +kernel
theorem dL_petitions_53 : decode cL_petitions 53 = .ok (.iconst 4, 1) := by decide +kernel
theorem dL_petitions_54 : decode cL_petitions 54 = .ok (.invokevirtual 24, 3) := by decide +kernel
theorem dL_petitions_57 : decode cL_petitions 57 = .ok (.iadd, 1) := by decide +kernel
theorem dL_petitions_58 : decode cL_petitions 58 = .ok (.istore_n 2, 1) := by decide +kernel
theorem dL_petitions_59 : decode cL_petitions 59 = .ok (.iload_n 3, 1) := by decide +kernel
theorem dL_petitions_60 : decode cL_petitions 60 = .ok (.aload_n 0, 1) := by decide +kernel
theorem dL_petitions_61 : decode cL_petitions 61 = .ok (.iload 5, 2) := by decide +kernel
theorem dL_petitions_63 : decode cL_petitions 63 = .ok (.iconst 5, 1) := by decide +kernel
theorem dL_petitions_64 : decode cL_petitions 64 = .ok (.invokevirtual 24, 3) := by decide +kernel
theorem dL_petitions_67 : decode cL_petitions 67 = .ok (.iadd, 1) := by decide +kernel
theorem dL_petitions_68 : decode cL_petitions 68 = .ok (.istore_n 3, 1) := by decide +kernel
theorem dL_petitions_69 : decode cL_petitions 69 = .ok (.iload 4, 2) := by decide +kernel
theorem dL_petitions_71 : decode cL_petitions 71 = .ok (.aload_n 0, 1) := by decide +kernel
theorem dL_petitions_72 : decode cL_petitions 72 = .ok (.iload 5, 2) := by decide +kernel
theorem dL_petitions_74 : decode cL_petitions 74 = .ok (.bipush 6, 2) := by decide +kernel
theorem dL_petitions_76 : decode cL_petitions 76 = .ok (.invokevirtual 24, 3) := by decide +kernel
theorem dL_petitions_79 : decode cL_petitions 79 = .ok (.iadd, 1) := by decide +kernel
theorem dL_petitions_80 : decode cL_petitions 80 = .ok (.istore 4, 2) := by decide +kernel
theorem dL_petitions_82 : decode cL_petitions 82 = .ok (.iload 6, 2) := by decide +kernel
theorem dL_petitions_84 : decode cL_petitions 84 = .ok (.ifCond .lt 15, 3) := by decide +kernel
theorem dL_petitions_87 : decode cL_petitions 87 = .ok (.aload_n 0, 1) := by decide +kernel
theorem dL_petitions_88 : decode cL_petitions 88 = .ok (.iload 6, 2) := by decide +kernel
theorem dL_petitions_90 : decode cL_petitions 90 = .ok (.iconst 0, 1) := by decide +kernel
theorem dL_petitions_91 : decode cL_petitions 91 = .ok (.invokevirtual 44, 3) := by decide +kernel
theorem dL_petitions_94 : decode cL_petitions 94 = .ok (.iload 5, 2) := by decide +kernel
theorem dL_petitions_96 : decode cL_petitions 96 = .ok (.if_icmp .ne 40, 3) := by decide +kernel
theorem dL_petitions_99 : decode cL_petitions 99 = .ok (.aload_n 0, 1) := by decide +kernel
theorem dL_petitions_100 : decode cL_petitions 100 = .ok (.iload 5, 2) := by decide +kernel
theorem dL_petitions_102 : decode cL_petitions 102 = .ok (.iconst 4, 1) := by decide +kernel
theorem dL_petitions_103 : decode cL_petitions 103 = .ok (.invokevirtual 24, 3) := by decide +kernel
theorem dL_petitions_106 : decode cL_petitions 106 = .ok (.aload_n 0, 1) := by decide +kernel
theorem dL_petitions_107 : decode cL_petitions 107 = .ok (.iload 5, 2) := by decide +kernel
theorem dL_petitions_109 : decode cL_petitions 109 = .ok (.iconst 5, 1) := by decide +kernel
theorem dL_petitions_110 : decode cL_petitions 110 = .ok (.invokevirtual 24, 3) := by decide +kernel
theorem dL_petitions_113 : decode cL_petitions 113 = .ok (.aload_n 0, 1) := by decide +kernel
theorem dL_petitions_114 : decode cL_petitions 114 = .ok (.iload 5, 2) := by decide +kernel
theorem dL_petitions_116 : decode cL_petitions 116 = .ok (.bipush 6, 2) := by decide +kernel
theorem dL_petitions_118 : decode cL_petitions 118 = .ok (.invokevirtual 24, 3) := by decide +kernel
theorem dL_petitions_121 : decode cL_petitions 121 = .ok (.iadd, 1) := by decide +kernel
theorem dL_petitions_122 : decode cL_petitions 122 = .ok (.iload 6, 2) := by decide +kernel
theorem dL_petitions_124 : decode cL_petitions 124 = .ok (.ifCond .lt 7, 3) := by decide +kernel
theorem dL_petitions_127 : decode cL_petitions 127 = .ok (.iconst 1, 1) := by decide +kernel
theorem dL_petitions_128 : decode cL_petitions 128 = .ok (.goto 4, 3) := by decide +kernel
theorem dL_petitions_131 : decode cL_petitions 131 = .ok (.iconst 0, 1) := by decide +kernel
theorem dL_petitions_132 : decode cL_petitions 132 = .ok (.iadd, 1) := by decide +kernel
theorem dL_petitions_133 : decode cL_petitions 133 = .ok (.if_icmp .eq 5, 3) := by decide +kernel
theorem dL_petitions_136 : decode cL_petitions 136 = .ok (.iconst 0, 1) := by decide +kernel
theorem dL_petitions_137 : decode cL_petitions 137 = .ok (.ireturn, 1) := by decide +kernel
theorem dL_petitions_138 : decode cL_petitions 138 = .ok (.iinc 5 1, 3) := by decide +kernel
theorem dL_petitions_141 : decode cL_petitions 141 = .ok (.goto (-129), 3) := by decide +kernel
theorem dL_petitions_144 : decode cL_petitions 144 = .ok (.iconst 0, 1) := by decide +kernel
theorem dL_petitions_145 : decode cL_petitions 145 = .ok (.istore 5, 2) := by decide +kernel
theorem dL_petitions_147 : decode cL_petitions 147 = .ok (.iconst 0, 1) := by decide +kernel
theorem dL_petitions_148 : decode cL_petitions 148 = .ok (.istore 6, 2) := by decide +kernel
theorem dL_petitions_150 : decode cL_petitions 150 = .ok (.iload 6, 2) := by decide +kernel
theorem dL_petitions_152 : decode cL_petitions 152 = .ok (.aload_n 0, 1) := by decide +kernel
theorem dL_petitions_153 : decode cL_petitions 153 = .ok (.bipush 6, 2) := by decide +kernel
theorem dL_petitions_155 : decode cL_petitions 155 = .ok (.invokevirtual 41, 3) := by decide +kernel
theorem dL_petitions_158 : decode cL_petitions 158 = .ok (.if_icmp .ge 248, 3) := by decide +kernel
theorem dL_petitions_161 : decode cL_petitions 161 = .ok (.aload_n 0, 1) := by decide +kernel
theorem dL_petitions_162 : decode cL_petitions 162 = .ok (.aload_n 0, 1) := by decide +kernel
theorem dL_petitions_163 : decode cL_petitions 163 = .ok (.iload 6, 2) := by decide +kernel
theorem dL_petitions_165 : decode cL_petitions 165 = .ok (.iconst 0, 1) := by decide +kernel
theorem dL_petitions_166 : decode cL_petitions 166 = .ok (.invokevirtual 44, 3) := by decide +kernel
theorem dL_petitions_169 : decode cL_petitions 169 = .ok (.iconst 1, 1) := by decide +kernel
theorem dL_petitions_170 : decode cL_petitions 170 = .ok (.invokevirtual 24, 3) := by decide +kernel
theorem dL_petitions_173 : decode cL_petitions 173 = .ok (.istore 7, 2) := by decide +kernel
theorem dL_petitions_175 : decode cL_petitions 175 = .ok (.aload_n 0, 1) := by decide +kernel
theorem dL_petitions_176 : decode cL_petitions 176 = .ok (.iload 6, 2) := by decide +kernel
theorem dL_petitions_178 : decode cL_petitions 178 = .ok (.iconst 5, 1) := by decide +kernel
theorem dL_petitions_179 : decode cL_petitions 179 = .ok (.invokevirtual 44, 3) := by decide +kernel
theorem dL_petitions_182 : decode cL_petitions 182 = .ok (.istore 8, 2) := by decide +kernel
theorem dL_petitions_184 : decode cL_petitions 184 = .ok (.iconst 0, 1) := by decide +kernel
theorem dL_petitions_185 : decode cL_petitions 185 = .ok (.istore 9, 2) := by decide +kernel
theorem dL_petitions_187 : decode cL_petitions 187 = .ok (.iload 9, 2) := by decide +kernel
theorem dL_petitions_189 : decode cL_petitions 189 = .ok (.aload_n 0, 1) := by decide +kernel
theorem dL_petitions_190 : decode cL_petitions 190 = .ok (.iconst 3, 1) := by decide +kernel
theorem dL_petitions_191 : decode cL_petitions 191 = .ok (.invokevirtual 41, 3) := by decide +kernel
theorem dL_petitions_194 : decode cL_petitions 194 = .ok (.if_icmp .ge 93, 3) := by decide +kernel
theorem dL_petitions_197 : decode cL_petitions 197 = .ok (.iload 8, 2) := by decide +kernel
theorem dL_petitions_199 : decode cL_petitions 199 = .ok (.iload 9, 2) := by decide +kernel
theorem dL_petitions_201 : decode cL_petitions 201 = .ok (.ishr, 1) := by decide +kernel
theorem dL_petitions_202 : decode cL_petitions 202 = .ok (.iconst 1, 1) := by decide +kernel
theorem dL_petitions_203 : decode cL_petitions 203 = .ok (.iand, 1) := by decide +kernel
theorem dL_petitions_204 : decode cL_petitions 204 = .ok (.iconst 1, 1) := by decide +kernel
theorem dL_petitions_205 : decode cL_petitions 205 = .ok (.if_icmp .ne 7, 3) := by decide +kernel
theorem dL_petitions_208 : decode cL_petitions 208 = .ok (.iconst 1, 1) := by decide +kernel
theorem dL_petitions_209 : decode cL_petitions 209 = .ok (.goto 4, 3) := by decide +kernel
theorem dL_petitions_212 : decode cL_petitions 212 = .ok (.iconst 0, 1) := by decide +kernel
theorem dL_petitions_213 : decode cL_petitions 213 = .ok (.istore 10, 2) := by decide +kernel
theorem dL_petitions_215 : decode cL_petitions 215 = .ok (.iload 7, 2) := by decide +kernel
theorem dL_petitions_217 : decode cL_petitions 217 = .ok (.iload 10, 2) := by decide +kernel
theorem dL_petitions_219 : decode cL_petitions 219 = .ok (.ifCond .eq 13, 3) := by decide +kernel
theorem dL_petitions_222 : decode cL_petitions 222 = .ok (.aload_n 0, 1) := by decide +kernel
theorem dL_petitions_223 : decode cL_petitions 223 = .ok (.iload 9, 2) := by decide +kernel
theorem dL_petitions_225 : decode cL_petitions 225 = .ok (.iconst 1, 1) := by decide +kernel
theorem dL_petitions_226 : decode cL_petitions 226 = .ok (.invokevirtual 24, 3) := by decide +kernel
theorem dL_petitions_229 : decode cL_petitions 229 = .ok (.goto 4, 3) := by decide +kernel
theorem dL_petitions_232 : decode cL_petitions 232 = .ok (.iconst 0, 1) := by decide +kernel
theorem dL_petitions_233 : decode cL_petitions 233 = .ok (.iadd, 1) := by decide +kernel
theorem dL_petitions_234 : decode cL_petitions 234 = .ok (.istore 7, 2) := by decide +kernel
theorem dL_petitions_236 : decode cL_petitions 236 = .ok (.iload 10, 2) := by decide +kernel
theorem dL_petitions_238 : decode cL_petitions 238 = .ok (.aload_n 0, 1) := by decide +kernel
theorem dL_petitions_239 : decode cL_petitions 239 = .ok (.iload 9, 2) := by decide +kernel
theorem dL_petitions_241 : decode cL_petitions 241 = .ok (.iconst 3, 1) := by decide +kernel
theorem dL_petitions_242 : decode cL_petitions 242 = .ok (.invokevirtual 24, 3) := by decide +kernel
theorem dL_petitions_245 : decode cL_petitions 245 = .ok (.iload 6, 2) := by decide +kernel
theorem dL_petitions_247 : decode cL_petitions 247 = .ok (.ishr, 1) := by decide +kernel
theorem dL_petitions_248 : decode cL_petitions 248 = .ok (.iconst 1, 1) := by decide +kernel
theorem dL_petitions_249 : decode cL_petitions 249 = .ok (.iand, 1) := by decide +kernel
theorem dL_petitions_250 : decode cL_petitions 250 = .ok (.iconst 1, 1) := by decide +kernel
theorem dL_petitions_251 : decode cL_petitions 251 = .ok (.if_icmp .ne 7, 3) := by decide +kernel
theorem dL_petitions_254 : decode cL_petitions 254 = .ok (.iconst 1, 1) := by decide +kernel
theorem dL_petitions_255 : decode cL_petitions 255 = .ok (.goto 4, 3) := by decide +kernel
theorem dL_petitions_258 : decode cL_petitions 258 = .ok (.iconst 0, 1) := by decide +kernel
theorem dL_petitions_259 : decode cL_petitions 259 = .ok (.if_icmp .ne 20, 3) := by decide +kernel
theorem dL_petitions_262 : decode cL_petitions 262 = .ok (.iload 10, 2) := by decide +kernel
theorem dL_petitions_264 : decode cL_petitions 264 = .ok (.ifCond .eq 17, 3) := by decide +kernel
theorem dL_petitions_267 : decode cL_petitions 267 = .ok (.iload 9, 2) := by decide +kernel
theorem dL_petitions_269 : decode cL_petitions 269 = .ok (.aload_n 0, 1) := by decide +kernel
theorem dL_petitions_270 : decode cL_petitions 270 = .ok (.iload 6, 2) := by decide +kernel
theorem dL_petitions_272 : decode cL_petitions 272 = .ok (.iconst 0, 1) := by decide +kernel
theorem dL_petitions_273 : decode cL_petitions 273 = .ok (.invokevirtual 44, 3) := by decide +kernel
theorem dL_petitions_276 : decode cL_petitions 276 = .ok (.if_icmp .ne 5, 3) := by decide +kernel
theorem dL_petitions_279 : decode cL_petitions 279 = .ok (.iconst 0, 1) := by decide +kernel
theorem dL_petitions_280 : decode cL_petitions 280 = .ok (.ireturn, 1) := by decide +kernel
theorem dL_petitions_281 : decode cL_petitions 281 = .ok (.iinc 9 1, 3) := by decide +kernel
theorem dL_petitions_284 : decode cL_petitions 284 = .ok (.goto (-97), 3) := by decide +kernel
theorem dL_petitions_287 : decode cL_petitions 287 = .ok (.iload 6, 2) := by decide +kernel
theorem dL_petitions_289 : decode cL_petitions 289 = .ok (.ifCond .ne 7, 3) := by decide +kernel
theorem dL_petitions_292 : decode cL_petitions 292 = .ok (.iconst 0, 1) := by decide +kernel
theorem dL_petitions_293 : decode cL_petitions 293 = .ok (.goto 11, 3) := by decide +kernel
theorem dL_petitions_296 : decode cL_petitions 296 = .ok (.aload_n 0, 1) := by decide +kernel
theorem dL_petitions_297 : decode cL_petitions 297 = .ok (.iload 6, 2) := by decide +kernel
theorem dL_petitions_299 : decode cL_petitions 299 = .ok (.iconst 1, 1) := by decide +kernel
theorem dL_petitions_300 : decode cL_petitions 300 = .ok (.isub, 1) := by decide +kernel
theorem dL_petitions_301 : decode cL_petitions 301 = .ok (.invokevirtual 47, 3) := by decide +kernel
theorem dL_petitions_304 : decode cL_petitions 304 = .ok (.istore 9, 2) := by decide +kernel
theorem dL_petitions_306 : decode cL_petitions 306 = .ok (.aload_n 0, 1) := by decide +kernel
theorem dL_petitions_307 : decode cL_petitions 307 = .ok (.iload 6, 2) := by decide +kernel
theorem dL_petitions_309 : decode cL_petitions 309 = .ok (.invokevirtual 47, 3) := by decide +kernel
theorem dL_petitions_312 : decode cL_petitions 312 = .ok (.istore 10, 2) := by decide +kernel
theorem dL_petitions_314 : decode cL_petitions 314 = .ok (.iload 5, 2) := by decide +kernel
theorem dL_petitions_316 : decode cL_petitions 316 = .ok (.iconst 1, 1) := by decide +kernel
theorem dL_petitions_317 : decode cL_petitions 317 = .ok (.iload 10, 2) := by decide +kernel
theorem dL_petitions_319 : decode cL_petitions 319 = .ok (.ishl, 1) := by decide +kernel
theorem dL_petitions_320 : decode cL_petitions 320 = .ok (.ior, 1) := by decide +kernel
theorem dL_petitions_321 : decode cL_petitions 321 = .ok (.istore 5, 2) := by decide +kernel
theorem dL_petitions_323 : decode cL_petitions 323 = .ok (.aload_n 0, 1) := by decide +kernel
theorem dL_petitions_324 : decode cL_petitions 324 = .ok (.iload 6, 2) := by decide +kernel
theorem dL_petitions_326 : decode cL_petitions 326 = .ok (.iconst 4, 1) := by decide +kernel
theorem dL_petitions_327 : decode cL_petitions 327 = .ok (.invokevirtual 44, 3) := by decide +kernel
theorem dL_petitions_330 : decode cL_petitions 330 = .ok (.iload 7, 2) := by decide +kernel
theorem dL_petitions_332 : decode cL_petitions 332 = .ok (.if_icmp .ne 66, 3) := by decide +kernel
theorem dL_petitions_335 : decode cL_petitions 335 = .ok (.aload_n 0, 1) := by decide +kernel
theorem dL_petitions_336 : decode cL_petitions 336 = .ok (.aload_n 0, 1) := by decide +kernel
theorem dL_petitions_337 : decode cL_petitions 337 = .ok (.iload 6, 2) := by decide +kernel
theorem dL_petitions_339 : decode cL_petitions 339 = .ok (.iconst 0, 1) := by decide +kernel
theorem dL_petitions_340 : decode cL_petitions 340 = .ok (.invokevirtual 44, 3) := by decide +kernel
theorem dL_petitions_343 : decode cL_petitions 343 = .ok (.iconst 2, 1) := by decide +kernel
theorem dL_petitions_344 : decode cL_petitions 344 = .ok (.invokevirtual 24, 3) := by decide +kernel
theorem dL_petitions_347 : decode cL_petitions 347 = .ok (.iload 6, 2) := by decide +kernel
theorem dL_petitions_349 : decode cL_petitions 349 = .ok (.if_icmp .ne 49, 3) := by decide +kernel
theorem dL_petitions_352 : decode cL_petitions 352 = .ok (.iload 6, 2) := by decide +kernel
theorem dL_petitions_354 : decode cL_petitions 354 = .ok (.ifCond .le 46, 3) := by decide +kernel
theorem dL_petitions_357 : decode cL_petitions 357 = .ok (.aload_n 0, 1) := by decide +kernel
theorem dL_petitions_358 : decode cL_petitions 358 = .ok (.iload 10, 2) := by decide +kernel
theorem dL_petitions_360 : decode cL_petitions 360 = .ok (.iconst 4, 1) := by decide +kernel
theorem dL_petitions_361 : decode cL_petitions 361 = .ok (.invokevirtual 44, 3) := by decide +kernel
theorem dL_petitions_364 : decode cL_petitions 364 = .ok (.aload_n 0, 1) := by decide +kernel
theorem dL_petitions_365 : decode cL_petitions 365 = .ok (.iload 9, 2) := by decide +kernel
theorem dL_petitions_367 : decode cL_petitions 367 = .ok (.iconst 4, 1) := by decide +kernel
theorem dL_petitions_368 : decode cL_petitions 368 = .ok (.invokevirtual 44, 3) := by decide +kernel
theorem dL_petitions_371 : decode cL_petitions 371 = .ok (.if_icmp .gt 27, 3) := by decide +kernel
theorem dL_petitions_374 : decode cL_petitions 374 = .ok (.aload_n 0, 1) := by decide +kernel
theorem dL_petitions_375 : decode cL_petitions 375 = .ok (.iload 10, 2) := by decide +kernel
theorem dL_petitions_377 : decode cL_petitions 377 = .ok (.iconst 4, 1) := by decide +kernel
theorem dL_petitions_378 : decode cL_petitions 378 = .ok (.invokevirtual 44, 3) := by decide +kernel
theorem dL_petitions_381 : decode cL_petitions 381 = .ok (.aload_n 0, 1) := by decide +kernel
theorem dL_petitions_382 : decode cL_petitions 382 = .ok (.iload 9, 2) := by decide +kernel
theorem dL_petitions_384 : decode cL_petitions 384 = .ok (.iconst 4, 1) := by decide +kernel
theorem dL_petitions_385 : decode cL_petitions 385 = .ok (.invokevirtual 44, 3) := by decide +kernel
theorem dL_petitions_388 : decode cL_petitions 388 = .ok (.if_icmp .ne 12, 3) := by decide +kernel
theorem dL_petitions_391 : decode cL_petitions 391 = .ok (.iload 10, 2) := by decide +kernel
theorem dL_petitions_393 : decode cL_petitions 393 = .ok (.iload 9, 2) := by decide +kernel
theorem dL_petitions_395 : decode cL_petitions 395 = .ok (.if_icmp .ge 5, 3) := by decide +kernel
theorem dL_petitions_398 : decode cL_petitions 398 = .ok (.iconst 0, 1) := by decide +kernel
theorem dL_petitions_399 : decode cL_petitions 399 = .ok (.ireturn, 1) := by decide +kernel
theorem dL_petitions_400 : decode cL_petitions 400 = .ok (.iinc 6 1, 3) := by decide +kernel
theorem dL_petitions_403 : decode cL_petitions 403 = .ok (.goto (-253), 3) := by decide +kernel
theorem dL_petitions_406 : decode cL_petitions 406 = .ok (.iload 5, 2) := by decide +kernel
theorem dL_petitions_408 : decode cL_petitions 408 = .ok (.iconst 1, 1) := by decide +kernel
theorem dL_petitions_409 : decode cL_petitions 409 = .ok (.aload_n 0, 1) := by decide +kernel
theorem dL_petitions_410 : decode cL_petitions 410 = .ok (.bipush 6, 2) := by decide +kernel
theorem dL_petitions_412 : decode cL_petitions 412 = .ok (.invokevirtual 41, 3) := by decide +kernel
theorem dL_petitions_415 : decode cL_petitions 415 = .ok (.ishl, 1) := by decide +kernel
theorem dL_petitions_416 : decode cL_petitions 416 = .ok (.iconst 1, 1) := by decide +kernel
theorem dL_petitions_417 : decode cL_petitions 417 = .ok (.isub, 1) := by decide +kernel
theorem dL_petitions_418 : decode cL_petitions 418 = .ok (.if_icmp .ne 90, 3) := by decide +kernel
theorem dL_petitions_421 : decode cL_petitions 421 = .ok (.aload_n 0, 1) := by decide +kernel
theorem dL_petitions_422 : decode cL_petitions 422 = .ok (.invokevirtual 50, 3) := by decide +kernel
theorem dL_petitions_425 : decode cL_petitions 425 = .ok (.iload_n 1, 1) := by decide +kernel
theorem dL_petitions_426 : decode cL_petitions 426 = .ok (.if_icmp .ne 82, 3) := by decide +kernel
theorem dL_petitions_429 : decode cL_petitions 429 = .ok (.iload_n 2, 1) := by decide +kernel
theorem dL_petitions_430 : decode cL_petitions 430 = .ok (.aload_n 0, 1) := by decide +kernel
theorem dL_petitions_431 : decode cL_petitions 431 = .ok (.bipush 7, 2) := by decide +kernel
theorem dL_petitions_433 : decode cL_petitions 433 = .ok (.invokevirtual 41, 3) := by decide +kernel
theorem dL_petitions_436 : decode cL_petitions 436 = .ok (.if_icmp .ne 72, 3) := by decide +kernel
theorem dL_petitions_439 : decode cL_petitions 439 = .ok (.iload_n 3, 1) := by decide +kernel
theorem dL_petitions_440 : decode cL_petitions 440 = .ok (.aload_n 0, 1) := by decide +kernel
theorem dL_petitions_441 : decode cL_petitions 441 = .ok (.bipush 8, 2) := by decide +kernel
theorem dL_petitions_443 : decode cL_petitions 443 = .ok (.invokevirtual 41, 3) := by decide +kernel
theorem dL_petitions_446 : decode cL_petitions 446 = .ok (.if_icmp .ne 62, 3) := by decide +kernel
theorem dL_petitions_449 : decode cL_petitions 449 = .ok (.iload 4, 2) := by decide +kernel
theorem dL_petitions_451 : decode cL_petitions 451 = .ok (.aload_n 0, 1) := by decide +kernel
theorem dL_petitions_452 : decode cL_petitions 452 = .ok (.bipush 9, 2) := by decide +kernel
theorem dL_petitions_454 : decode cL_petitions 454 = .ok (.invokevirtual 41, 3) := by decide +kernel
theorem dL_petitions_457 : decode cL_petitions 457 = .ok (.if_icmp .ne 51, 3) := by decide +kernel
theorem dL_petitions_460 : decode cL_petitions 460 = .ok (.iload_n 2, 1) := by decide +kernel
theorem dL_petitions_461 : decode cL_petitions 461 = .ok (.iload_n 3, 1) := by decide +kernel
theorem dL_petitions_462 : decode cL_petitions 462 = .ok (.iload 4, 2) := by decide +kernel
theorem dL_petitions_464 : decode cL_petitions 464 = .ok (.iadd, 1) := by decide +kernel
theorem dL_petitions_465 : decode cL_petitions 465 = .ok (.aload_n 0, 1) := by decide +kernel
theorem dL_petitions_466 : decode cL_petitions 466 = .ok (.bipush 6, 2) := by decide +kernel
theorem dL_petitions_468 : decode cL_petitions 468 = .ok (.invokevirtual 41, 3) := by decide +kernel
theorem dL_petitions_471 : decode cL_petitions 471 = .ok (.iadd, 1) := by decide +kernel
theorem dL_petitions_472 : decode cL_petitions 472 = .ok (.if_icmp .ne 36, 3) := by decide +kernel
theorem dL_petitions_475 : decode cL_petitions 475 = .ok (.aload_n 0, 1) := by decide +kernel
theorem dL_petitions_476 : decode cL_petitions 476 = .ok (.bipush 10, 2) := by decide +kernel
theorem dL_petitions_478 : decode cL_petitions 478 = .ok (.invokevirtual 41, 3) := by decide +kernel
theorem dL_petitions_481 : decode cL_petitions 481 = .ok (.aload_n 0, 1) := by decide +kernel
theorem dL_petitions_482 : decode cL_petitions 482 = .ok (.bipush 8, 2) := by decide +kernel
theorem dL_petitions_484 : decode cL_petitions 484 = .ok (.invokevirtual 41, 3) := by decide +kernel
theorem dL_petitions_487 : decode cL_petitions 487 = .ok (.if_icmp .gt 21, 3) := by decide +kernel
theorem dL_petitions_490 : decode cL_petitions 490 = .ok (.aload_n 0, 1) := by decide +kernel
theorem dL_petitions_491 : decode cL_petitions 491 = .ok (.bipush 6, 2) := by decide +kernel
theorem dL_petitions_493 : decode cL_petitions 493 = .ok (.invokevirtual 41, 3) := by decide +kernel
theorem dL_petitions_496 : decode cL_petitions 496 = .ok (.aload_n 0, 1) := by decide +kernel
theorem dL_petitions_497 : decode cL_petitions 497 = .ok (.iconst 3, 1) := by decide +kernel
theorem dL_petitions_498 : decode cL_petitions 498 = .ok (.invokevirtual 41, 3) := by decide +kernel
theorem dL_petitions_501 : decode cL_petitions 501 = .ok (.if_icmp .gt 7, 3) := by decide +kernel
theorem dL_petitions_504 : decode cL_petitions 504 = .ok (.iconst 1, 1) := by decide +kernel
theorem dL_petitions_505 : decode cL_petitions 505 = .ok (.goto 4, 3) := by decide +kernel
theorem dL_petitions_508 : decode cL_petitions 508 = .ok (.iconst 0, 1) := by decide +kernel
theorem dL_petitions_509 : decode cL_petitions 509 = .ok (.ireturn, 1) := by decide +kernel
theorem dL_hangs_0 : decode cL_hangs 0 = .ok (.iconst 0, 1) := by decide +kernel
theorem dL_hangs_1 : decode cL_hangs 1 = .ok (.istore_n 1, 1) := by decide +kernel
theorem dL_hangs_2 : decode cL_hangs 2 = .ok (.iconst (-1), 1) := by decide +kernel
theorem dL_hangs_3 : decode cL_hangs 3 = .ok (.istore_n 2, 1) := by decide +kernel
theorem dL_hangs_4 : decode cL_hangs 4 = .ok (.iconst 0, 1) := by decide +kernel
theorem dL_hangs_5 : decode cL_hangs 5 = .ok (.istore_n 3, 1) := by decide +kernel
theorem dL_hangs_6 : decode cL_hangs 6 = .ok (.iload_n 3, 1) := by decide +kernel
theorem dL_hangs_7 : decode cL_hangs 7 = .ok (.aload_n 0, 1) := by decide +kernel
theorem dL_hangs_8 : decode cL_hangs 8 = .ok (.iconst 4, 1) := by decide +kernel
theorem dL_hangs_9 : decode cL_hangs 9 = .ok (.invokevirtual 41, 3) := by decide +kernel
theorem dL_hangs_12 : decode cL_hangs 12 = .ok (.if_icmp .ge 103, 3) := by decide +kernel
theorem dL_hangs_15 : decode cL_hangs 15 = .ok (.aload_n 0, 1) := by decide +kernel
theorem dL_hangs_16 : decode cL_hangs 16 = .ok (.iload_n 3, 1) := by decide +kernel
theorem dL_hangs_17 : decode cL_hangs 17 = .ok (.iconst 0, 1) := by decide +kernel
theorem dL_hangs_18 : decode cL_hangs 18 = .ok (.invokevirtual 54, 3) := by decide +kernel
theorem dL_hangs_21 : decode cL_hangs 21 = .ok (.istore 4, 2) := by decide +kernel
theorem dL_hangs_23 : decode cL_hangs 23 = .ok (.bipush 20, 2) := by decide +kernel
theorem dL_hangs_25 : decode cL_hangs 25 = .ok (.iload 4, 2) := by decide +kernel
theorem dL_hangs_27 : decode cL_hangs 27 = .ok (.imul, 1) := by decide +kernel
theorem dL_hangs_28 : decode cL_hangs 28 = .ok (.aload_n 0, 1) := by decide +kernel
theorem dL_hangs_29 : decode cL_hangs 29 = .ok (.iload_n 3, 1) := by decide +kernel
theorem dL_hangs_30 : decode cL_hangs 30 = .ok (.iconst 1, 1) := by decide +kernel
theorem dL_hangs_31 : decode cL_hangs 31 = .ok (.invokevirtual 54, 3) := by decide +kernel
theorem dL_hangs_34 : decode cL_hangs 34 = .ok (.iadd, 1) := by decide +kernel
theorem dL_hangs_35 : decode cL_hangs 35 = .ok (.istore 5, 2) := by decide +kernel
theorem dL_hangs_37 : decode cL_hangs 37 = .ok (.iload_n 1, 1) := by decide +kernel
theorem dL_hangs_38 : decode cL_hangs 38 = .ok (.iconst 1, 1) := by decide +kernel
theorem dL_hangs_39 : decode cL_hangs 39 = .ok (.aload_n 0, 1) := by decide +kernel
theorem dL_hangs_40 : decode cL_hangs 40 = .ok (.iload_n 3, 1) := by decide +kernel
theorem dL_hangs_41 : decode cL_hangs 41 = .ok (.iconst 2, 1) := by decide +kernel
theorem dL_hangs_42 : decode cL_hangs 42 = .ok (.invokevirtual 54, 3) := by decide +kernel
theorem dL_hangs_45 : decode cL_hangs 45 = .ok (.isub, 1) := by decide +kernel
theorem dL_hangs_46 : decode cL_hangs 46 = .ok (.iadd, 1) := by decide +kernel
theorem dL_hangs_47 : decode cL_hangs 47 = .ok (.istore_n 1, 1) := by decide +kernel
theorem dL_hangs_48 : decode cL_hangs 48 = .ok (.iload 5, 2) := by decide +kernel
theorem dL_hangs_50 : decode cL_hangs 50 = .ok (.iload_n 2, 1) := by decide +kernel
theorem dL_hangs_51 : decode cL_hangs 51 = .ok (.if_icmp .le 53, 3) := by decide +kernel
theorem dL_hangs_54 : decode cL_hangs 54 = .ok (.iload 4, 2) := by decide +kernel
theorem dL_hangs_56 : decode cL_hangs 56 = .ok (.ifCond .lt 48, 3) := by decide +kernel
theorem dL_hangs_59 : decode cL_hangs 59 = .ok (.iload 4, 2) := by decide +kernel
theorem dL_hangs_61 : decode cL_hangs 61 = .ok (.bipush 6, 2) := by decide +kernel
theorem dL_hangs_63 : decode cL_hangs 63 = .ok (.if_icmp .gt 41, 3) := by decide +kernel
theorem dL_hangs_66 : decode cL_hangs 66 = .ok (.aload_n 0, 1) := by decide +kernel
theorem dL_hangs_67 : decode cL_hangs 67 = .ok (.iload_n 3, 1) := by decide +kernel
theorem dL_hangs_68 : decode cL_hangs 68 = .ok (.iconst 3, 1) := by decide +kernel
theorem dL_hangs_69 : decode cL_hangs 69 = .ok (.invokevirtual 54, 3) := by decide +kernel
theorem dL_hangs_72 : decode cL_hangs 72 = .ok (.ifCond .lt 32, 3) := by decide +kernel
theorem dL_hangs_75 : decode cL_hangs 75 = .ok (.aload_n 0, 1) := by decide +kernel
theorem dL_hangs_76 : decode cL_hangs 76 = .ok (.iload_n 3, 1) := by decide +kernel
theorem dL_hangs_77 : decode cL_hangs 77 = .ok (.iconst 4, 1) := by decide +kernel
theorem dL_hangs_78 : decode cL_hangs 78 = .ok (.invokevirtual 54, 3) := by decide +kernel
theorem dL_hangs_81 : decode cL_hangs 81 = .ok (.aload_n 0, 1) := by decide +kernel
theorem dL_hangs_82 : decode cL_hangs 82 = .ok (.iconst 1, 1) := by decide +kernel
theorem dL_hangs_83 : decode cL_hangs 83 = .ok (.invokevirtual 41, 3) := by decide +kernel
theorem dL_hangs_86 : decode cL_hangs 86 = .ok (.if_icmp .ge 18, 3) := by decide +kernel
theorem dL_hangs_89 : decode cL_hangs 89 = .ok (.aload_n 0, 1) := by decide +kernel
theorem dL_hangs_90 : decode cL_hangs 90 = .ok (.iload_n 3, 1) := by decide +kernel
theorem dL_hangs_91 : decode cL_hangs 91 = .ok (.iconst 5, 1) := by decide +kernel
theorem dL_hangs_92 : decode cL_hangs 92 = .ok (.invokevirtual 54, 3) := by decide +kernel
theorem dL_hangs_95 : decode cL_hangs 95 = .ok (.aload_n 0, 1) := by decide +kernel
theorem dL_hangs_96 : decode cL_hangs 96 = .ok (.iload 4, 2) := by decide +kernel
theorem dL_hangs_98 : decode cL_hangs 98 = .ok (.invokestatic 57, 3) := by decide +kernel
theorem dL_hangs_101 : decode cL_hangs 101 = .ok (.if_icmp .eq 5, 3) := by decide +kernel
theorem dL_hangs_104 : decode cL_hangs 104 = .ok (.iconst 0, 1) := by decide +kernel
theorem dL_hangs_105 : decode cL_hangs 105 = .ok (.ireturn, 1) := by decide +kernel
theorem dL_hangs_106 : decode cL_hangs 106 = .ok (.iload 5, 2) := by decide +kernel
theorem dL_hangs_108 : decode cL_hangs 108 = .ok (.istore_n 2, 1) := by decide +kernel
theorem dL_hangs_109 : decode cL_hangs 109 = .ok (.iinc 3 1, 3) := by decide +kernel
theorem dL_hangs_112 : decode cL_hangs 112 = .ok (.goto (-106), 3) := by decide +kernel
theorem dL_hangs_115 : decode cL_hangs 115 = .ok (.iconst 0, 1) := by decide +kernel
theorem dL_hangs_116 : decode cL_hangs 116 = .ok (.istore_n 3, 1) := by decide +kernel
theorem dL_hangs_117 : decode cL_hangs 117 = .ok (.iconst 0, 1) := by decide +kernel
theorem dL_hangs_118 : decode cL_hangs 118 = .ok (.istore 4, 2) := by decide +kernel
theorem dL_hangs_120 : decode cL_hangs 120 = .ok (.iload 4, 2) := by decide +kernel
theorem dL_hangs_122 : decode cL_hangs 122 = .ok (.bipush 120, 2) := by decide +kernel
theorem dL_hangs_124 : decode cL_hangs 124 = .ok (.if_icmp .ge 293, 3) := by decide +kernel
theorem dL_hangs_127 : decode cL_hangs 127 = .ok (.iconst (-1), 1) := by decide +kernel
theorem dL_hangs_128 : decode cL_hangs 128 = .ok (.istore 5, 2) := by decide +kernel
theorem dL_hangs_130 : decode cL_hangs 130 = .ok (.iconst (-1), 1) := by decide +kernel
theorem dL_hangs_131 : decode cL_hangs 131 = .ok (.istore 6, 2) := by decide +kernel
theorem dL_hangs_133 : decode cL_hangs 133 = .ok (.iconst 0, 1) := by decide +kernel
theorem dL_hangs_134 : decode cL_hangs 134 = .ok (.istore 7, 2) := by decide +kernel
theorem dL_hangs_136 : decode cL_hangs 136 = .ok (.iload 7, 2) := by decide +kernel
theorem dL_hangs_138 : decode cL_hangs 138 = .ok (.aload_n 0, 1) := by decide +kernel
theorem dL_hangs_139 : decode cL_hangs 139 = .ok (.iconst 4, 1) := by decide +kernel
theorem dL_hangs_140 : decode cL_hangs 140 = .ok (.invokevirtual 41, 3) := by decide +kernel
theorem dL_hangs_143 : decode cL_hangs 143 = .ok (.if_icmp .ge 86, 3) := by decide +kernel
theorem dL_hangs_146 : decode cL_hangs 146 = .ok (.aload_n 0, 1) := by decide +kernel
theorem dL_hangs_147 : decode cL_hangs 147 = .ok (.iload 7, 2) := by decide +kernel
theorem dL_hangs_149 : decode cL_hangs 149 = .ok (.iconst 1, 1) := by decide +kernel
theorem dL_hangs_150 : decode cL_hangs 150 = .ok (.invokevirtual 54, 3) := by decide +kernel
theorem dL_hangs_153 : decode cL_hangs 153 = .ok (.iload 4, 2) := by decide +kernel
theorem dL_hangs_155 : decode cL_hangs 155 = .ok (.bipush 20, 2) := by decide +kernel
theorem dL_hangs_157 : decode cL_hangs 157 = .ok (.irem, 1) := by decide +kernel
theorem dL_hangs_158 : decode cL_hangs 158 = .ok (.if_icmp .ne 7, 3) := by decide +kernel
theorem dL_hangs_161 : decode cL_hangs 161 = .ok (.iconst 1, 1) := by decide +kernel
theorem dL_hangs_162 : decode cL_hangs 162 = .ok (.goto 4, 3) := by decide +kernel
theorem dL_hangs_165 : decode cL_hangs 165 = .ok (.iconst 0, 1) := by decide +kernel
theorem dL_hangs_166 : decode cL_hangs 166 = .ok (.istore 8, 2) := by decide +kernel
theorem dL_hangs_168 : decode cL_hangs 168 = .ok (.iload 8, 2) := by decide +kernel
theorem dL_hangs_170 : decode cL_hangs 170 = .ok (.ifCond .eq 23, 3) := by decide +kernel
theorem dL_hangs_173 : decode cL_hangs 173 = .ok (.aload_n 0, 1) := by decide +kernel
theorem dL_hangs_174 : decode cL_hangs 174 = .ok (.iload 7, 2) := by decide +kernel
theorem dL_hangs_176 : decode cL_hangs 176 = .ok (.iconst 0, 1) := by decide +kernel
theorem dL_hangs_177 : decode cL_hangs 177 = .ok (.invokevirtual 54, 3) := by decide +kernel
theorem dL_hangs_180 : decode cL_hangs 180 = .ok (.iload 4, 2) := by decide +kernel
theorem dL_hangs_182 : decode cL_hangs 182 = .ok (.bipush 20, 2) := by decide +kernel
theorem dL_hangs_184 : decode cL_hangs 184 = .ok (.idiv, 1) := by decide +kernel
theorem dL_hangs_185 : decode cL_hangs 185 = .ok (.if_icmp .ne 8, 3) := by decide +kernel
theorem dL_hangs_188 : decode cL_hangs 188 = .ok (.iload 7, 2) := by decide +kernel
theorem dL_hangs_190 : decode cL_hangs 190 = .ok (.goto 5, 3) := by decide +kernel
theorem dL_hangs_193 : decode cL_hangs 193 = .ok (.iload 5, 2) := by decide +kernel
theorem dL_hangs_195 : decode cL_hangs 195 = .ok (.istore 5, 2) := by decide +kernel
theorem dL_hangs_197 : decode cL_hangs 197 = .ok (.iload 8, 2) := by decide +kernel
theorem dL_hangs_199 : decode cL_hangs 199 = .ok (.ifCond .eq 20, 3) := by decide +kernel
theorem dL_hangs_202 : decode cL_hangs 202 = .ok (.aload_n 0, 1) := by decide +kernel
theorem dL_hangs_203 : decode cL_hangs 203 = .ok (.iload 7, 2) := by decide +kernel
theorem dL_hangs_205 : decode cL_hangs 205 = .ok (.iconst 0, 1) := by decide +kernel
theorem dL_hangs_206 : decode cL_hangs 206 = .ok (.invokevirtual 54, 3) := by decide +kernel
theorem dL_hangs_209 : decode cL_hangs 209 = .ok (.bipush 6, 2) := by decide +kernel
theorem dL_hangs_211 : decode cL_hangs 211 = .ok (.if_icmp .ne 8, 3) := by decide +kernel
theorem dL_hangs_214 : decode cL_hangs 214 = .ok (.iload 7, 2) := by decide +kernel
theorem dL_hangs_216 : decode cL_hangs 216 = .ok (.goto 5, 3) := by decide +kernel
theorem dL_hangs_219 : decode cL_hangs 219 = .ok (.iload 6, 2) := by decide +kernel
theorem dL_hangs_221 : decode cL_hangs 221 = .ok (.istore 6, 2) := by decide +kernel
theorem dL_hangs_223 : decode cL_hangs 223 = .ok (.iinc 7 1, 3) := by decide +kernel
theorem dL_hangs_226 : decode cL_hangs 226 = .ok (.goto (-90), 3) := by decide +kernel
theorem dL_hangs_229 : decode cL_hangs 229 = .ok (.iload 6, 2) := by decide +kernel
theorem dL_hangs_231 : decode cL_hangs 231 = .ok (.ifCond .lt 29, 3) := by decide +kernel
theorem dL_hangs_234 : decode cL_hangs 234 = .ok (.iload 5, 2) := by decide +kernel
theorem dL_hangs_236 : decode cL_hangs 236 = .ok (.ifCond .lt 20, 3) := by decide +kernel
theorem dL_hangs_239 : decode cL_hangs 239 = .ok (.aload_n 0, 1) := by decide +kernel
theorem dL_hangs_240 : decode cL_hangs 240 = .ok (.iload 6, 2) := by decide +kernel
theorem dL_hangs_242 : decode cL_hangs 242 = .ok (.iconst 3, 1) := by decide +kernel
theorem dL_hangs_243 : decode cL_hangs 243 = .ok (.invokevirtual 54, 3) := by decide +kernel
theorem dL_hangs_246 : decode cL_hangs 246 = .ok (.aload_n 0, 1) := by decide +kernel
theorem dL_hangs_247 : decode cL_hangs 247 = .ok (.iload 5, 2) := by decide +kernel
theorem dL_hangs_249 : decode cL_hangs 249 = .ok (.iconst 3, 1) := by decide +kernel
theorem dL_hangs_250 : decode cL_hangs 250 = .ok (.invokevirtual 54, 3) := by decide +kernel
theorem dL_hangs_253 : decode cL_hangs 253 = .ok (.if_icmp .le 7, 3) := by decide +kernel
theorem dL_hangs_256 : decode cL_hangs 256 = .ok (.iconst 1, 1) := by decide +kernel
theorem dL_hangs_257 : decode cL_hangs 257 = .ok (.goto 4, 3) := by decide +kernel
theorem dL_hangs_260 : decode cL_hangs 260 = .ok (.iconst 0, 1) := by decide +kernel
theorem dL_hangs_261 : decode cL_hangs 261 = .ok (.istore 7, 2) := by decide +kernel
theorem dL_hangs_263 : decode cL_hangs 263 = .ok (.iload 7, 2) := by decide +kernel
theorem dL_hangs_265 : decode cL_hangs 265 = .ok (.ifCond .eq 8, 3) := by decide +kernel
theorem dL_hangs_268 : decode cL_hangs 268 = .ok (.iload 6, 2) := by decide +kernel
theorem dL_hangs_270 : decode cL_hangs 270 = .ok (.goto 5, 3) := by decide +kernel
theorem dL_hangs_273 : decode cL_hangs 273 = .ok (.iload 5, 2) := by decide +kernel
theorem dL_hangs_275 : decode cL_hangs 275 = .ok (.istore 8, 2) := by decide +kernel
theorem dL_hangs_277 : decode cL_hangs 277 = .ok (.iload_n 3, 1) := by decide +kernel
theorem dL_hangs_278 : decode cL_hangs 278 = .ok (.iconst 1, 1) := by decide +kernel
theorem dL_hangs_279 : decode cL_hangs 279 = .ok (.aload_n 0, 1) := by decide +kernel
theorem dL_hangs_280 : decode cL_hangs 280 = .ok (.iload 4, 2) := by decide +kernel
theorem dL_hangs_282 : decode cL_hangs 282 = .ok (.bipush 20, 2) := by decide +kernel
theorem dL_hangs_284 : decode cL_hangs 284 = .ok (.idiv, 1) := by decide +kernel
theorem dL_hangs_285 : decode cL_hangs 285 = .ok (.iload 4, 2) := by decide +kernel
theorem dL_hangs_287 : decode cL_hangs 287 = .ok (.bipush 20, 2) := by decide +kernel
theorem dL_hangs_289 : decode cL_hangs 289 = .ok (.irem, 1) := by decide +kernel
theorem dL_hangs_290 : decode cL_hangs 290 = .ok (.iconst 0, 1) := by decide +kernel
theorem dL_hangs_291 : decode cL_hangs 291 = .ok (.invokevirtual 61, 3) := by decide +kernel
theorem dL_hangs_294 : decode cL_hangs 294 = .ok (.isub, 1) := by decide +kernel
theorem dL_hangs_295 : decode cL_hangs 295 = .ok (.iadd, 1) := by decide +kernel
theorem dL_hangs_296 : decode cL_hangs 296 = .ok (.istore_n 3, 1) := by decide +kernel
theorem dL_hangs_297 : decode cL_hangs 297 = .ok (.aload_n 0, 1) := by decide +kernel
theorem dL_hangs_298 : decode cL_hangs 298 = .ok (.iload 4, 2) := by decide +kernel
theorem dL_hangs_300 : decode cL_hangs 300 = .ok (.bipush 20, 2) := by decide +kernel
theorem dL_hangs_302 : decode cL_hangs 302 = .ok (.idiv, 1) := by decide +kernel
theorem dL_hangs_303 : decode cL_hangs 303 = .ok (.iload 4, 2) := by decide +kernel
theorem dL_hangs_305 : decode cL_hangs 305 = .ok (.bipush 20, 2) := by decide +kernel
theorem dL_hangs_307 : decode cL_hangs 307 = .ok (.irem, 1) := by decide +kernel
theorem dL_hangs_308 : decode cL_hangs 308 = .ok (.iconst 0, 1) := by decide +kernel
theorem dL_hangs_309 : decode cL_hangs 309 = .ok (.invokevirtual 61, 3) := by decide +kernel
theorem dL_hangs_312 : decode cL_hangs 312 = .ok (.iload 8, 2) := by decide +kernel
theorem dL_hangs_314 : decode cL_hangs 314 = .ok (.ifCond .ge 7, 3) := by decide +kernel
theorem dL_hangs_317 : decode cL_hangs 317 = .ok (.iconst 1, 1) := by decide +kernel
theorem dL_hangs_318 : decode cL_hangs 318 = .ok (.goto 10, 3) := by decide +kernel
theorem dL_hangs_321 : decode cL_hangs 321 = .ok (.aload_n 0, 1) := by decide +kernel
theorem dL_hangs_322 : decode cL_hangs 322 = .ok (.iload 8, 2) := by decide +kernel
theorem dL_hangs_324 : decode cL_hangs 324 = .ok (.iconst 2, 1) := by decide +kernel
theorem dL_hangs_325 : decode cL_hangs 325 = .ok (.invokevirtual 54, 3) := by decide +kernel
theorem dL_hangs_328 : decode cL_hangs 328 = .ok (.if_icmp .ne 81, 3) := by decide +kernel
theorem dL_hangs_331 : decode cL_hangs 331 = .ok (.aload_n 0, 1) := by decide +kernel
theorem dL_hangs_332 : decode cL_hangs 332 = .ok (.iload 4, 2) := by decide +kernel
theorem dL_hangs_334 : decode cL_hangs 334 = .ok (.bipush 20, 2) := by decide +kernel
theorem dL_hangs_336 : decode cL_hangs 336 = .ok (.idiv, 1) := by decide +kernel
theorem dL_hangs_337 : decode cL_hangs 337 = .ok (.iload 4, 2) := by decide +kernel
theorem dL_hangs_339 : decode cL_hangs 339 = .ok (.bipush 20, 2) := by decide +kernel
theorem dL_hangs_341 : decode cL_hangs 341 = .ok (.irem, 1) := by decide +kernel
theorem dL_hangs_342 : decode cL_hangs 342 = .ok (.iconst 1, 1) := by decide +kernel
theorem dL_hangs_343 : decode cL_hangs 343 = .ok (.invokevirtual 61, 3) := by decide +kernel
theorem dL_hangs_346 : decode cL_hangs 346 = .ok (.iload 8, 2) := by decide +kernel
theorem dL_hangs_348 : decode cL_hangs 348 = .ok (.ifCond .ge 8, 3) := by decide +kernel
theorem dL_hangs_351 : decode cL_hangs 351 = .ok (.bipush (-5), 2) := by decide +kernel
theorem dL_hangs_353 : decode cL_hangs 353 = .ok (.goto 18, 3) := by decide +kernel
theorem dL_hangs_356 : decode cL_hangs 356 = .ok (.iload 7, 2) := by decide +kernel
theorem dL_hangs_358 : decode cL_hangs 358 = .ok (.ifCond .eq 8, 3) := by decide +kernel
theorem dL_hangs_361 : decode cL_hangs 361 = .ok (.bipush 6, 2) := by decide +kernel
theorem dL_hangs_363 : decode cL_hangs 363 = .ok (.goto 8, 3) := by decide +kernel
theorem dL_hangs_366 : decode cL_hangs 366 = .ok (.iload 4, 2) := by decide +kernel
theorem dL_hangs_368 : decode cL_hangs 368 = .ok (.bipush 20, 2) := by decide +kernel
theorem dL_hangs_370 : decode cL_hangs 370 = .ok (.idiv, 1) := by decide +kernel
theorem dL_hangs_371 : decode cL_hangs 371 = .ok (.if_icmp .ne 38, 3) := by decide +kernel
theorem dL_hangs_374 : decode cL_hangs 374 = .ok (.aload_n 0, 1) := by decide +kernel
theorem dL_hangs_375 : decode cL_hangs 375 = .ok (.iload 4, 2) := by decide +kernel
theorem dL_hangs_377 : decode cL_hangs 377 = .ok (.bipush 20, 2) := by decide +kernel
theorem dL_hangs_379 : decode cL_hangs 379 = .ok (.idiv, 1) := by decide +kernel
theorem dL_hangs_380 : decode cL_hangs 380 = .ok (.iload 4, 2) := by decide +kernel
theorem dL_hangs_382 : decode cL_hangs 382 = .ok (.bipush 20, 2) := by decide +kernel
theorem dL_hangs_384 : decode cL_hangs 384 = .ok (.irem, 1) := by decide +kernel
theorem dL_hangs_385 : decode cL_hangs 385 = .ok (.iconst 2, 1) := by decide +kernel
theorem dL_hangs_386 : decode cL_hangs 386 = .ok (.invokevirtual 61, 3) := by decide +kernel
theorem dL_hangs_389 : decode cL_hangs 389 = .ok (.iload 8, 2) := by decide +kernel
theorem dL_hangs_391 : decode cL_hangs 391 = .ok (.ifCond .ge 8, 3) := by decide +kernel
theorem dL_hangs_394 : decode cL_hangs 394 = .ok (.bipush (-5), 2) := by decide +kernel
theorem dL_hangs_396 : decode cL_hangs 396 = .ok (.goto 10, 3) := by decide +kernel
theorem dL_hangs_399 : decode cL_hangs 399 = .ok (.aload_n 0, 1) := by decide +kernel
theorem dL_hangs_400 : decode cL_hangs 400 = .ok (.iload 8, 2) := by decide +kernel
theorem dL_hangs_402 : decode cL_hangs 402 = .ok (.iconst 3, 1) := by decide +kernel
theorem dL_hangs_403 : decode cL_hangs 403 = .ok (.invokevirtual 54, 3) := by decide +kernel
theorem dL_hangs_406 : decode cL_hangs 406 = .ok (.if_icmp .eq 5, 3) := by decide +kernel
theorem dL_hangs_409 : decode cL_hangs 409 = .ok (.iconst 0, 1) := by decide +kernel
theorem dL_hangs_410 : decode cL_hangs 410 = .ok (.ireturn, 1) := by decide +kernel
theorem dL_hangs_411 : decode cL_hangs 411 = .ok (.iinc 4 1, 3) := by decide +kernel
theorem dL_hangs_414 : decode cL_hangs 414 = .ok (.goto (-294), 3) := by decide +kernel
theorem dL_hangs_417 : decode cL_hangs 417 = .ok (.iconst 0, 1) := by decide +kernel
theorem dL_hangs_418 : decode cL_hangs 418 = .ok (.istore 4, 2) := by decide +kernel
theorem dL_hangs_420 : decode cL_hangs 420 = .ok (.iload 4, 2) := by decide +kernel
theorem dL_hangs_422 : decode cL_hangs 422 = .ok (.aload_n 0, 1) := by decide +kernel
theorem dL_hangs_423 : decode cL_hangs 423 = .ok (.iconst 3, 1) := by decide +kernel
theorem dL_hangs_424 : decode cL_hangs 424 = .ok (.invokevirtual 41, 3) := by decide +kernel
theorem dL_hangs_427 : decode cL_hangs 427 = .ok (.if_icmp .ge 105, 3) := by decide +kernel
theorem dL_hangs_430 : decode cL_hangs 430 = .ok (.aload_n 0, 1) := by decide +kernel
theorem dL_hangs_431 : decode cL_hangs 431 = .ok (.iload 4, 2) := by decide +kernel
theorem dL_hangs_433 : decode cL_hangs 433 = .ok (.iconst 0, 1) := by decide +kernel
theorem dL_hangs_434 : decode cL_hangs 434 = .ok (.invokevirtual 65, 3) := by decide +kernel
theorem dL_hangs_437 : decode cL_hangs 437 = .ok (.istore 5, 2) := by decide +kernel
theorem dL_hangs_439 : decode cL_hangs 439 = .ok (.iload 5, 2) := by decide +kernel
theorem dL_hangs_441 : decode cL_hangs 441 = .ok (.bipush (-5), 2) := by decide +kernel
theorem dL_hangs_443 : decode cL_hangs 443 = .ok (.if_icmp .ne 23, 3) := by decide +kernel
theorem dL_hangs_446 : decode cL_hangs 446 = .ok (.aload_n 0, 1) := by decide +kernel
theorem dL_hangs_447 : decode cL_hangs 447 = .ok (.iload 4, 2) := by decide +kernel
theorem dL_hangs_449 : decode cL_hangs 449 = .ok (.iconst 1, 1) := by decide +kernel
theorem dL_hangs_450 : decode cL_hangs 450 = .ok (.invokevirtual 65, 3) := by decide +kernel
theorem dL_hangs_453 : decode cL_hangs 453 = .ok (.iload 5, 2) := by decide +kernel
theorem dL_hangs_455 : decode cL_hangs 455 = .ok (.if_icmp .ne 7, 3) := by decide +kernel
theorem dL_hangs_458 : decode cL_hangs 458 = .ok (.iconst 1, 1) := by decide +kernel
theorem dL_hangs_459 : decode cL_hangs 459 = .ok (.goto 58, 3) := by decide +kernel
theorem dL_hangs_462 : decode cL_hangs 462 = .ok (.iconst 0, 1) := by decide +kernel
theorem dL_hangs_463 : decode cL_hangs 463 = .ok (.goto 54, 3) := by decide +kernel
theorem dL_hangs_466 : decode cL_hangs 466 = .ok (.aload_n 0, 1) := by decide +kernel
theorem dL_hangs_467 : decode cL_hangs 467 = .ok (.iload 4, 2) := by decide +kernel
theorem dL_hangs_469 : decode cL_hangs 469 = .ok (.iconst 1, 1) := by decide +kernel
theorem dL_hangs_470 : decode cL_hangs 470 = .ok (.invokevirtual 65, 3) := by decide +kernel
theorem dL_hangs_473 : decode cL_hangs 473 = .ok (.aload_n 0, 1) := by decide +kernel
theorem dL_hangs_474 : decode cL_hangs 474 = .ok (.iload 5, 2) := by decide +kernel
theorem dL_hangs_476 : decode cL_hangs 476 = .ok (.iconst 4, 1) := by decide +kernel
theorem dL_hangs_477 : decode cL_hangs 477 = .ok (.invokevirtual 54, 3) := by decide +kernel
theorem dL_hangs_480 : decode cL_hangs 480 = .ok (.if_icmp .ne 36, 3) := by decide +kernel
theorem dL_hangs_483 : decode cL_hangs 483 = .ok (.aload_n 0, 1) := by decide +kernel
theorem dL_hangs_484 : decode cL_hangs 484 = .ok (.aload_n 0, 1) := by decide +kernel
theorem dL_hangs_485 : decode cL_hangs 485 = .ok (.iload 4, 2) := by decide +kernel
theorem dL_hangs_487 : decode cL_hangs 487 = .ok (.iconst 0, 1) := by decide +kernel
theorem dL_hangs_488 : decode cL_hangs 488 = .ok (.invokevirtual 24, 3) := by decide +kernel
theorem dL_hangs_491 : decode cL_hangs 491 = .ok (.aload_n 0, 1) := by decide +kernel
theorem dL_hangs_492 : decode cL_hangs 492 = .ok (.iload 5, 2) := by decide +kernel
theorem dL_hangs_494 : decode cL_hangs 494 = .ok (.iconst 1, 1) := by decide +kernel
theorem dL_hangs_495 : decode cL_hangs 495 = .ok (.invokevirtual 54, 3) := by decide +kernel
theorem dL_hangs_498 : decode cL_hangs 498 = .ok (.iconst 1, 1) := by decide +kernel
theorem dL_hangs_499 : decode cL_hangs 499 = .ok (.invokevirtual 61, 3) := by decide +kernel
theorem dL_hangs_502 : decode cL_hangs 502 = .ok (.aload_n 0, 1) := by decide +kernel
theorem dL_hangs_503 : decode cL_hangs 503 = .ok (.iload 5, 2) := by decide +kernel
theorem dL_hangs_505 : decode cL_hangs 505 = .ok (.iconst 0, 1) := by decide +kernel
theorem dL_hangs_506 : decode cL_hangs 506 = .ok (.invokevirtual 54, 3) := by decide +kernel
theorem dL_hangs_509 : decode cL_hangs 509 = .ok (.if_icmp .ne 7, 3) := by decide +kernel
theorem dL_hangs_512 : decode cL_hangs 512 = .ok (.iconst 1, 1) := by decide +kernel
theorem dL_hangs_513 : decode cL_hangs 513 = .ok (.goto 4, 3) := by decide +kernel
theorem dL_hangs_516 : decode cL_hangs 516 = .ok (.iconst 0, 1) := by decide +kernel
theorem dL_hangs_517 : decode cL_hangs 517 = .ok (.istore 6, 2) := by decide +kernel
theorem dL_hangs_519 : decode cL_hangs 519 = .ok (.iload 6, 2) := by decide +kernel
theorem dL_hangs_521 : decode cL_hangs 521 = .ok (.ifCond .ne 5, 3) := by decide +kernel
theorem dL_hangs_524 : decode cL_hangs 524 = .ok (.iconst 0, 1) := by decide +kernel
theorem dL_hangs_525 : decode cL_hangs 525 = .ok (.ireturn, 1) := by decide +kernel
theorem dL_hangs_526 : decode cL_hangs 526 = .ok (.iinc 4 1, 3) := by decide +kernel
theorem dL_hangs_529 : decode cL_hangs 529 = .ok (.goto (-109), 3) := by decide +kernel
theorem dL_hangs_532 : decode cL_hangs 532 = .ok (.aload_n 0, 1) := by decide +kernel
theorem dL_hangs_533 : decode cL_hangs 533 = .ok (.iconst 5, 1) := by decide +kernel
theorem dL_hangs_534 : decode cL_hangs 534 = .ok (.invokevirtual 41, 3) := by decide +kernel
theorem dL_hangs_537 : decode cL_hangs 537 = .ok (.iload_n 1, 1) := by decide +kernel
theorem dL_hangs_538 : decode cL_hangs 538 = .ok (.if_icmp .ne 32, 3) := by decide +kernel
theorem dL_hangs_541 : decode cL_hangs 541 = .ok (.aload_n 0, 1) := by decide +kernel
theorem dL_hangs_542 : decode cL_hangs 542 = .ok (.bipush 11, 2) := by decide +kernel
theorem dL_hangs_544 : decode cL_hangs 544 = .ok (.invokevirtual 41, 3) := by decide +kernel
theorem dL_hangs_547 : decode cL_hangs 547 = .ok (.iload_n 3, 1) := by decide +kernel
theorem dL_hangs_548 : decode cL_hangs 548 = .ok (.if_icmp .ne 22, 3) := by decide +kernel
theorem dL_hangs_551 : decode cL_hangs 551 = .ok (.aload_n 0, 1) := by decide +kernel
theorem dL_hangs_552 : decode cL_hangs 552 = .ok (.iconst 2, 1) := by decide +kernel
theorem dL_hangs_553 : decode cL_hangs 553 = .ok (.invokevirtual 41, 3) := by decide +kernel
theorem dL_hangs_556 : decode cL_hangs 556 = .ok (.ifCond .lt 14, 3) := by decide +kernel
theorem dL_hangs_559 : decode cL_hangs 559 = .ok (.aload_n 0, 1) := by decide +kernel
theorem dL_hangs_560 : decode cL_hangs 560 = .ok (.invokestatic 68, 3) := by decide +kernel
theorem dL_hangs_563 : decode cL_hangs 563 = .ok (.ifCond .eq 7, 3) := by decide +kernel
theorem dL_hangs_566 : decode cL_hangs 566 = .ok (.iconst 1, 1) := by decide +kernel
theorem dL_hangs_567 : decode cL_hangs 567 = .ok (.goto 4, 3) := by decide +kernel
theorem dL_hangs_570 : decode cL_hangs 570 = .ok (.iconst 0, 1) := by decide +kernel
theorem dL_hangs_571 : decode cL_hangs 571 = .ok (.ireturn, 1) := by decide +kernel
theorem dL_print_0 : decode cL_print 0 = .ok (.ldc2_w 72, 3) := by decide +kernel
theorem dL_print_3 : decode cL_print 3 = .ok (.lstore_n 1, 1) := by decide +kernel
theorem dL_print_4 : decode cL_print 4 = .ok (.iconst 0, 1) := by decide +kernel
theorem dL_print_5 : decode cL_print 5 = .ok (.istore_n 3, 1) := by decide +kernel
theorem dL_print_6 : decode cL_print 6 = .ok (.iload_n 3, 1) := by decide +kernel
theorem dL_print_7 : decode cL_print 7 = .ok (.bipush 14, 2) := by decide +kernel
theorem dL_print_9 : decode cL_print 9 = .ok (.if_icmp .ge 22, 3) := by decide +kernel
theorem dL_print_12 : decode cL_print 12 = .ok (.ldc2_w 74, 3) := by decide +kernel
theorem dL_print_15 : decode cL_print 15 = .ok (.lload_n 1, 1) := by decide +kernel
theorem dL_print_16 : decode cL_print 16 = .ok (.lmul, 1) := by decide +kernel
theorem dL_print_17 : decode cL_print 17 = .ok (.aload_n 0, 1) := by decide +kernel
theorem dL_print_18 : decode cL_print 18 = .ok (.iload_n 3, 1) := by decide +kernel
theorem dL_print_19 : decode cL_print 19 = .ok (.invokevirtual 41, 3) := by decide +kernel
theorem dL_print_22 : decode cL_print 22 = .ok (.i2l, 1) := by decide +kernel
theorem dL_print_23 : decode cL_print 23 = .ok (.ladd, 1) := by decide +kernel
theorem dL_print_24 : decode cL_print 24 = .ok (.lstore_n 1, 1) := by decide +kernel
theorem dL_print_25 : decode cL_print 25 = .ok (.iinc 3 1, 3) := by decide +kernel
theorem dL_print_28 : decode cL_print 28 = .ok (.goto (-22), 3) := by decide +kernel
theorem dL_print_31 : decode cL_print 31 = .ok (.iconst 0, 1) := by decide +kernel
theorem dL_print_32 : decode cL_print 32 = .ok (.istore_n 3, 1) := by decide +kernel
theorem dL_print_33 : decode cL_print 33 = .ok (.iload_n 3, 1) := by decide +kernel
theorem dL_print_34 : decode cL_print 34 = .ok (.bipush 84, 2) := by decide +kernel
theorem dL_print_36 : decode cL_print 36 = .ok (.if_icmp .ge 29, 3) := by decide +kernel
theorem dL_print_39 : decode cL_print 39 = .ok (.ldc2_w 74, 3) := by decide +kernel
theorem dL_print_42 : decode cL_print 42 = .ok (.lload_n 1, 1) := by decide +kernel
theorem dL_print_43 : decode cL_print 43 = .ok (.lmul, 1) := by decide +kernel
theorem dL_print_44 : decode cL_print 44 = .ok (.aload_n 0, 1) := by decide +kernel
theorem dL_print_45 : decode cL_print 45 = .ok (.iload_n 3, 1) := by decide +kernel
theorem dL_print_46 : decode cL_print 46 = .ok (.bipush 7, 2) := by decide +kernel
theorem dL_print_48 : decode cL_print 48 = .ok (.idiv, 1) := by decide +kernel
theorem dL_print_49 : decode cL_print 49 = .ok (.iload_n 3, 1) := by decide +kernel
theorem dL_print_50 : decode cL_print 50 = .ok (.bipush 7, 2) := by decide +kernel
theorem dL_print_52 : decode cL_print 52 = .ok (.irem, 1) := by decide +kernel
theorem dL_print_53 : decode cL_print 53 = .ok (.invokevirtual 24, 3) := by decide +kernel
theorem dL_print_56 : decode cL_print 56 = .ok (.i2l, 1) := by decide +kernel
theorem dL_print_57 : decode cL_print 57 = .ok (.ladd, 1) := by decide +kernel
theorem dL_print_58 : decode cL_print 58 = .ok (.lstore_n 1, 1) := by decide +kernel
theorem dL_print_59 : decode cL_print 59 = .ok (.iinc 3 1, 3) := by decide +kernel
theorem dL_print_62 : decode cL_print 62 = .ok (.goto (-29), 3) := by decide +kernel
theorem dL_print_65 : decode cL_print 65 = .ok (.iconst 0, 1) := by decide +kernel
theorem dL_print_66 : decode cL_print 66 = .ok (.istore_n 3, 1) := by decide +kernel
theorem dL_print_67 : decode cL_print 67 = .ok (.iload_n 3, 1) := by decide +kernel
theorem dL_print_68 : decode cL_print 68 = .ok (.bipush 72, 2) := by decide +kernel
theorem dL_print_70 : decode cL_print 70 = .ok (.if_icmp .ge 29, 3) := by decide +kernel
theorem dL_print_73 : decode cL_print 73 = .ok (.ldc2_w 74, 3) := by decide +kernel
theorem dL_print_76 : decode cL_print 76 = .ok (.lload_n 1, 1) := by decide +kernel
theorem dL_print_77 : decode cL_print 77 = .ok (.lmul, 1) := by decide +kernel
theorem dL_print_78 : decode cL_print 78 = .ok (.aload_n 0, 1) := by decide +kernel
theorem dL_print_79 : decode cL_print 79 = .ok (.iload_n 3, 1) := by decide +kernel
theorem dL_print_80 : decode cL_print 80 = .ok (.bipush 6, 2) := by decide +kernel
theorem dL_print_82 : decode cL_print 82 = .ok (.idiv, 1) := by decide +kernel
theorem dL_print_83 : decode cL_print 83 = .ok (.iload_n 3, 1) := by decide +kernel
theorem dL_print_84 : decode cL_print 84 = .ok (.bipush 6, 2) := by decide +kernel
theorem dL_print_86 : decode cL_print 86 = .ok (.irem, 1) := by decide +kernel
theorem dL_print_87 : decode cL_print 87 = .ok (.invokevirtual 44, 3) := by decide +kernel
theorem dL_print_90 : decode cL_print 90 = .ok (.i2l, 1) := by decide +kernel
theorem dL_print_91 : decode cL_print 91 = .ok (.ladd, 1) := by decide +kernel
theorem dL_print_92 : decode cL_print 92 = .ok (.lstore_n 1, 1) := by decide +kernel
theorem dL_print_93 : decode cL_print 93 = .ok (.iinc 3 1, 3) := by decide +kernel
theorem dL_print_96 : decode cL_print 96 = .ok (.goto (-29), 3) := by decide +kernel
theorem dL_print_99 : decode cL_print 99 = .ok (.iconst 0, 1) := by decide +kernel
theorem dL_print_100 : decode cL_print 100 = .ok (.istore_n 3, 1) := by decide +kernel
theorem dL_print_101 : decode cL_print 101 = .ok (.iload_n 3, 1) := by decide +kernel
theorem dL_print_102 : decode cL_print 102 = .ok (.iconst 5, 1) := by decide +kernel
theorem dL_print_103 : decode cL_print 103 = .ok (.aload_n 0, 1) := by decide +kernel
theorem dL_print_104 : decode cL_print 104 = .ok (.iconst 4, 1) := by decide +kernel
theorem dL_print_105 : decode cL_print 105 = .ok (.invokevirtual 41, 3) := by decide +kernel
theorem dL_print_108 : decode cL_print 108 = .ok (.imul, 1) := by decide +kernel
theorem dL_print_109 : decode cL_print 109 = .ok (.if_icmp .ge 27, 3) := by decide +kernel
theorem dL_print_112 : decode cL_print 112 = .ok (.ldc2_w 74, 3) := by decide +kernel
theorem dL_print_115 : decode cL_print 115 = .ok (.lload_n 1, 1) := by decide +kernel
theorem dL_print_116 : decode cL_print 116 = .ok (.lmul, 1) := by decide +kernel
theorem dL_print_117 : decode cL_print 117 = .ok (.aload_n 0, 1) := by decide +kernel
theorem dL_print_118 : decode cL_print 118 = .ok (.iload_n 3, 1) := by decide +kernel
theorem dL_print_119 : decode cL_print 119 = .ok (.iconst 5, 1) := by decide +kernel
theorem dL_print_120 : decode cL_print 120 = .ok (.idiv, 1) := by decide +kernel
theorem dL_print_121 : decode cL_print 121 = .ok (.iload_n 3, 1) := by decide +kernel
theorem dL_print_122 : decode cL_print 122 = .ok (.iconst 5, 1) := by decide +kernel
theorem dL_print_123 : decode cL_print 123 = .ok (.irem, 1) := by decide +kernel
theorem dL_print_124 : decode cL_print 124 = .ok (.invokevirtual 54, 3) := by decide +kernel
theorem dL_print_127 : decode cL_print 127 = .ok (.i2l, 1) := by decide +kernel
theorem dL_print_128 : decode cL_print 128 = .ok (.ladd, 1) := by decide +kernel
theorem dL_print_129 : decode cL_print 129 = .ok (.lstore_n 1, 1) := by decide +kernel
theorem dL_print_130 : decode cL_print 130 = .ok (.iinc 3 1, 3) := by decide +kernel
theorem dL_print_133 : decode cL_print 133 = .ok (.goto (-32), 3) := by decide +kernel
theorem dL_print_136 : decode cL_print 136 = .ok (.lload_n 1, 1) := by decide +kernel
theorem dL_print_137 : decode cL_print 137 = .ok (.lreturn, 1) := by decide +kernel
theorem dL_ends_0 : decode cL_ends 0 = .ok (.aload_n 0, 1) := by decide +kernel
theorem dL_ends_1 : decode cL_ends 1 = .ok (.invokestatic 76, 3) := by decide +kernel
theorem dL_ends_4 : decode cL_ends 4 = .ok (.lstore_n 1, 1) := by decide +kernel
theorem dL_ends_5 : decode cL_ends 5 = .ok (.aload_n 0, 1) := by decide +kernel
theorem dL_ends_6 : decode cL_ends 6 = .ok (.invokevirtual 80, 3) := by decide +kernel
theorem dL_ends_9 : decode cL_ends 9 = .ok (.istore_n 3, 1) := by decide +kernel
theorem dL_ends_10 : decode cL_ends 10 = .ok (.aload_n 0, 1) := by decide +kernel
theorem dL_ends_11 : decode cL_ends 11 = .ok (.iconst 1, 1) := by decide +kernel
theorem dL_ends_12 : decode cL_ends 12 = .ok (.invokevirtual 41, 3) := by decide +kernel
theorem dL_ends_15 : decode cL_ends 15 = .ok (.istore 4, 2) := by decide +kernel
theorem dL_ends_17 : decode cL_ends 17 = .ok (.aload_n 0, 1) := by decide +kernel
theorem dL_ends_18 : decode cL_ends 18 = .ok (.bipush 6, 2) := by decide +kernel
theorem dL_ends_20 : decode cL_ends 20 = .ok (.invokevirtual 41, 3) := by decide +kernel
theorem dL_ends_23 : decode cL_ends 23 = .ok (.istore 5, 2) := by decide +kernel
theorem dL_ends_25 : decode cL_ends 25 = .ok (.aload_n 0, 1) := by decide +kernel
theorem dL_ends_26 : decode cL_ends 26 = .ok (.bipush 8, 2) := by decide +kernel
theorem dL_ends_28 : decode cL_ends 28 = .ok (.invokevirtual 41, 3) := by decide +kernel
theorem dL_ends_31 : decode cL_ends 31 = .ok (.istore 6, 2) := by decide +kernel
theorem dL_ends_33 : decode cL_ends 33 = .ok (.aload_n 0, 1) := by decide +kernel
theorem dL_ends_34 : decode cL_ends 34 = .ok (.bipush 9, 2) := by decide +kernel
theorem dL_ends_36 : decode cL_ends 36 = .ok (.invokevirtual 41, 3) := by decide +kernel
theorem dL_ends_39 : decode cL_ends 39 = .ok (.istore 7, 2) := by decide +kernel
theorem dL_ends_41 : decode cL_ends 41 = .ok (.iconst 0, 1) := by decide +kernel
theorem dL_ends_42 : decode cL_ends 42 = .ok (.istore 8, 2) := by decide +kernel
theorem dL_ends_44 : decode cL_ends 44 = .ok (.iconst 0, 1) := by decide +kernel
theorem dL_ends_45 : decode cL_ends 45 = .ok (.istore 9, 2) := by decide +kernel
theorem dL_ends_47 : decode cL_ends 47 = .ok (.iconst 0, 1) := by decide +kernel
theorem dL_ends_48 : decode cL_ends 48 = .ok (.istore 10, 2) := by decide +kernel
theorem dL_ends_50 : decode cL_ends 50 = .ok (.iload 10, 2) := by decide +kernel
theorem dL_ends_52 : decode cL_ends 52 = .ok (.iload 5, 2) := by decide +kernel
theorem dL_ends_54 : decode cL_ends 54 = .ok (.if_icmp .ge 104, 3) := by decide +kernel
theorem dL_ends_57 : decode cL_ends 57 = .ok (.iload_n 3, 1) := by decide +kernel
theorem dL_ends_58 : decode cL_ends 58 = .ok (.iload 10, 2) := by decide +kernel
theorem dL_ends_60 : decode cL_ends 60 = .ok (.ishr, 1) := by decide +kernel
theorem dL_ends_61 : decode cL_ends 61 = .ok (.iconst 1, 1) := by decide +kernel
theorem dL_ends_62 : decode cL_ends 62 = .ok (.iand, 1) := by decide +kernel
theorem dL_ends_63 : decode cL_ends 63 = .ok (.iconst 1, 1) := by decide +kernel
theorem dL_ends_64 : decode cL_ends 64 = .ok (.if_icmp .ne 7, 3) := by decide +kernel
theorem dL_ends_67 : decode cL_ends 67 = .ok (.iconst 1, 1) := by decide +kernel
theorem dL_ends_68 : decode cL_ends 68 = .ok (.goto 4, 3) := by decide +kernel
theorem dL_ends_71 : decode cL_ends 71 = .ok (.iconst 0, 1) := by decide +kernel
theorem dL_ends_72 : decode cL_ends 72 = .ok (.istore 11, 2) := by decide +kernel
theorem dL_ends_74 : decode cL_ends 74 = .ok (.iload 9, 2) := by decide +kernel
theorem dL_ends_76 : decode cL_ends 76 = .ok (.iload 11, 2) := by decide +kernel
theorem dL_ends_78 : decode cL_ends 78 = .ok (.ifCond .eq 7, 3) := by decide +kernel
theorem dL_ends_81 : decode cL_ends 81 = .ok (.iconst 1, 1) := by decide +kernel
theorem dL_ends_82 : decode cL_ends 82 = .ok (.goto 4, 3) := by decide +kernel
theorem dL_ends_85 : decode cL_ends 85 = .ok (.iconst 0, 1) := by decide +kernel
theorem dL_ends_86 : decode cL_ends 86 = .ok (.iadd, 1) := by decide +kernel
theorem dL_ends_87 : decode cL_ends 87 = .ok (.istore 9, 2) := by decide +kernel
theorem dL_ends_89 : decode cL_ends 89 = .ok (.iload 8, 2) := by decide +kernel
theorem dL_ends_91 : decode cL_ends 91 = .ok (.iload 11, 2) := by decide +kernel
theorem dL_ends_93 : decode cL_ends 93 = .ok (.ifCond .eq 15, 3) := by decide +kernel
theorem dL_ends_96 : decode cL_ends 96 = .ok (.iconst 1, 1) := by decide +kernel
theorem dL_ends_97 : decode cL_ends 97 = .ok (.aload_n 0, 1) := by decide +kernel
theorem dL_ends_98 : decode cL_ends 98 = .ok (.iload 10, 2) := by decide +kernel
theorem dL_ends_100 : decode cL_ends 100 = .ok (.iconst 0, 1) := by decide +kernel
theorem dL_ends_101 : decode cL_ends 101 = .ok (.invokevirtual 44, 3) := by decide +kernel
theorem dL_ends_104 : decode cL_ends 104 = .ok (.ishl, 1) := by decide +kernel
theorem dL_ends_105 : decode cL_ends 105 = .ok (.goto 4, 3) := by decide +kernel
theorem dL_ends_108 : decode cL_ends 108 = .ok (.iconst 0, 1) := by decide +kernel
theorem dL_ends_109 : decode cL_ends 109 = .ok (.ior, 1) := by decide +kernel
theorem dL_ends_110 : decode cL_ends 110 = .ok (.istore 8, 2) := by decide +kernel
theorem dL_ends_112 : decode cL_ends 112 = .ok (.iload 11, 2) := by decide +kernel
theorem dL_ends_114 : decode cL_ends 114 = .ok (.aload_n 0, 1) := by decide +kernel
theorem dL_ends_115 : decode cL_ends 115 = .ok (.iload 10, 2) := by decide +kernel
theorem dL_ends_117 : decode cL_ends 117 = .ok (.invokevirtual 83, 3) := by decide +kernel
theorem dL_ends_120 : decode cL_ends 120 = .ok (.ifCond .ne 7, 3) := by decide +kernel
theorem dL_ends_123 : decode cL_ends 123 = .ok (.iconst 1, 1) := by decide +kernel
theorem dL_ends_124 : decode cL_ends 124 = .ok (.goto 4, 3) := by decide +kernel
theorem dL_ends_127 : decode cL_ends 127 = .ok (.iconst 0, 1) := by decide +kernel
theorem dL_ends_128 : decode cL_ends 128 = .ok (.if_icmp .ne 22, 3) := by decide +kernel
theorem dL_ends_131 : decode cL_ends 131 = .ok (.aload_n 0, 1) := by decide +kernel
theorem dL_ends_132 : decode cL_ends 132 = .ok (.iload 10, 2) := by decide +kernel
theorem dL_ends_134 : decode cL_ends 134 = .ok (.invokevirtual 83, 3) := by decide +kernel
theorem dL_ends_137 : decode cL_ends 137 = .ok (.ifCond .lt 13, 3) := by decide +kernel
theorem dL_ends_140 : decode cL_ends 140 = .ok (.aload_n 0, 1) := by decide +kernel
theorem dL_ends_141 : decode cL_ends 141 = .ok (.iload 10, 2) := by decide +kernel
theorem dL_ends_143 : decode cL_ends 143 = .ok (.invokevirtual 83, 3) := by decide +kernel
theorem dL_ends_146 : decode cL_ends 146 = .ok (.iconst 5, 1) := by decide +kernel
theorem dL_ends_147 : decode cL_ends 147 = .ok (.if_icmp .le 5, 3) := by decide +kernel
theorem dL_ends_150 : decode cL_ends 150 = .ok (.iconst 0, 1) := by decide +kernel
theorem dL_ends_151 : decode cL_ends 151 = .ok (.ireturn, 1) := by decide +kernel
theorem dL_ends_152 : decode cL_ends 152 = .ok (.iinc 10 1, 3) := by decide +kernel
theorem dL_ends_155 : decode cL_ends 155 = .ok (.goto (-105), 3) := by decide +kernel
theorem dL_ends_158 : decode cL_ends 158 = .ok (.bipush 12, 2) := by decide +kernel
theorem dL_ends_160 : decode cL_ends 160 = .ok (.newarray .int, 2) := by decide +kernel
theorem dL_ends_162 : decode cL_ends 162 = .ok (.astore 10, 2) := by decide +kernel
theorem dL_ends_164 : decode cL_ends 164 = .ok (.iconst 0, 1) := by decide +kernel
theorem dL_ends_165 : decode cL_ends 165 = .ok (.istore 11, 2) := by decide +kernel
theorem dL_ends_167 : decode cL_ends 167 = .ok (.iload 11, 2) := by decide +kernel
theorem dL_ends_169 : decode cL_ends 169 = .ok (.aload_n 0, 1) := by decide +kernel
theorem dL_ends_170 : decode cL_ends 170 = .ok (.iconst 3, 1) := by decide +kernel
theorem dL_ends_171 : decode cL_ends 171 = .ok (.invokevirtual 41, 3) := by decide +kernel
theorem dL_ends_174 : decode cL_ends 174 = .ok (.if_icmp .ge 21, 3) := by decide +kernel
theorem dL_ends_177 : decode cL_ends 177 = .ok (.aload 10, 2) := by decide +kernel
theorem dL_ends_179 : decode cL_ends 179 = .ok (.iload 11, 2) := by decide +kernel
theorem dL_ends_181 : decode cL_ends 181 = .ok (.aload_n 0, 1) := by decide +kernel
theorem dL_ends_182 : decode cL_ends 182 = .ok (.iload 11, 2) := by decide +kernel
theorem dL_ends_184 : decode cL_ends 184 = .ok (.iconst 5, 1) := by decide +kernel
theorem dL_ends_185 : decode cL_ends 185 = .ok (.invokevirtual 24, 3) := by decide +kernel
theorem dL_ends_188 : decode cL_ends 188 = .ok (.iastore, 1) := by decide +kernel
theorem dL_ends_189 : decode cL_ends 189 = .ok (.iinc 11 1, 3) := by decide +kernel
theorem dL_ends_192 : decode cL_ends 192 = .ok (.goto (-25), 3) := by decide +kernel
theorem dL_ends_195 : decode cL_ends 195 = .ok (.aload_n 0, 1) := by decide +kernel
theorem dL_ends_196 : decode cL_ends 196 = .ok (.bipush 13, 2) := by decide +kernel
theorem dL_ends_198 : decode cL_ends 198 = .ok (.invokevirtual 41, 3) := by decide +kernel
theorem dL_ends_201 : decode cL_ends 201 = .ok (.aload_n 0, 1) := by decide +kernel
theorem dL_ends_202 : decode cL_ends 202 = .ok (.iconst 2, 1) := by decide +kernel
theorem dL_ends_203 : decode cL_ends 203 = .ok (.invokevirtual 41, 3) := by decide +kernel
theorem dL_ends_206 : decode cL_ends 206 = .ok (.isub, 1) := by decide +kernel
theorem dL_ends_207 : decode cL_ends 207 = .ok (.istore 11, 2) := by decide +kernel
theorem dL_ends_209 : decode cL_ends 209 = .ok (.aload_n 0, 1) := by decide +kernel
theorem dL_ends_210 : decode cL_ends 210 = .ok (.iload 11, 2) := by decide +kernel
theorem dL_ends_212 : decode cL_ends 212 = .ok (.iconst 1, 1) := by decide +kernel
theorem dL_ends_213 : decode cL_ends 213 = .ok (.if_icmp .ge 7, 3) := by decide +kernel
theorem dL_ends_216 : decode cL_ends 216 = .ok (.iconst 1, 1) := by decide +kernel
theorem dL_ends_217 : decode cL_ends 217 = .ok (.goto 5, 3) := by decide +kernel
theorem dL_ends_220 : decode cL_ends 220 = .ok (.iload 11, 2) := by decide +kernel
theorem dL_ends_222 : decode cL_ends 222 = .ok (.invokevirtual 37, 3) := by decide +kernel
theorem dL_ends_225 : decode cL_ends 225 = .ok (.iload 9, 2) := by decide +kernel
theorem dL_ends_227 : decode cL_ends 227 = .ok (.if_icmp .ne 67, 3) := by decide +kernel
theorem dL_ends_230 : decode cL_ends 230 = .ok (.aload_n 0, 1) := by decide +kernel
theorem dL_ends_231 : decode cL_ends 231 = .ok (.iconst 1, 1) := by decide +kernel
theorem dL_ends_232 : decode cL_ends 232 = .ok (.invokevirtual 41, 3) := by decide +kernel
theorem dL_ends_235 : decode cL_ends 235 = .ok (.iload 4, 2) := by decide +kernel
theorem dL_ends_237 : decode cL_ends 237 = .ok (.iconst 1, 1) := by decide +kernel
theorem dL_ends_238 : decode cL_ends 238 = .ok (.iadd, 1) := by decide +kernel
theorem dL_ends_239 : decode cL_ends 239 = .ok (.if_icmp .ne 55, 3) := by decide +kernel
theorem dL_ends_242 : decode cL_ends 242 = .ok (.aload_n 0, 1) := by decide +kernel
theorem dL_ends_243 : decode cL_ends 243 = .ok (.iconst 2, 1) := by decide +kernel
theorem dL_ends_244 : decode cL_ends 244 = .ok (.invokevirtual 41, 3) := by decide +kernel
theorem dL_ends_247 : decode cL_ends 247 = .ok (.ifCond .ne 47, 3) := by decide +kernel
theorem dL_ends_250 : decode cL_ends 250 = .ok (.aload_n 0, 1) := by decide +kernel
theorem dL_ends_251 : decode cL_ends 251 = .ok (.bipush 6, 2) := by decide +kernel
theorem dL_ends_253 : decode cL_ends 253 = .ok (.invokevirtual 41, 3) := by decide +kernel
theorem dL_ends_256 : decode cL_ends 256 = .ok (.ifCond .ne 38, 3) := by decide +kernel
theorem dL_ends_259 : decode cL_ends 259 = .ok (.aload_n 0, 1) := by decide +kernel
theorem dL_ends_260 : decode cL_ends 260 = .ok (.bipush 8, 2) := by decide +kernel
theorem dL_ends_262 : decode cL_ends 262 = .ok (.invokevirtual 41, 3) := by decide +kernel
theorem dL_ends_265 : decode cL_ends 265 = .ok (.iload 6, 2) := by decide +kernel
theorem dL_ends_267 : decode cL_ends 267 = .ok (.iload 9, 2) := by decide +kernel
theorem dL_ends_269 : decode cL_ends 269 = .ok (.iadd, 1) := by decide +kernel
theorem dL_ends_270 : decode cL_ends 270 = .ok (.if_icmp .ne 24, 3) := by decide +kernel
theorem dL_ends_273 : decode cL_ends 273 = .ok (.aload_n 0, 1) := by decide +kernel
theorem dL_ends_274 : decode cL_ends 274 = .ok (.bipush 9, 2) := by decide +kernel
theorem dL_ends_276 : decode cL_ends 276 = .ok (.invokevirtual 41, 3) := by decide +kernel
theorem dL_ends_279 : decode cL_ends 279 = .ok (.iload 7, 2) := by decide +kernel
theorem dL_ends_281 : decode cL_ends 281 = .ok (.iload 5, 2) := by decide +kernel
theorem dL_ends_283 : decode cL_ends 283 = .ok (.iadd, 1) := by decide +kernel
theorem dL_ends_284 : decode cL_ends 284 = .ok (.iload 9, 2) := by decide +kernel
theorem dL_ends_286 : decode cL_ends 286 = .ok (.isub, 1) := by decide +kernel
theorem dL_ends_287 : decode cL_ends 287 = .ok (.if_icmp .ne 7, 3) := by decide +kernel
theorem dL_ends_290 : decode cL_ends 290 = .ok (.iconst 1, 1) := by decide +kernel
theorem dL_ends_291 : decode cL_ends 291 = .ok (.goto 4, 3) := by decide +kernel
theorem dL_ends_294 : decode cL_ends 294 = .ok (.iconst 0, 1) := by decide +kernel
theorem dL_ends_295 : decode cL_ends 295 = .ok (.istore 12, 2) := by decide +kernel
theorem dL_ends_297 : decode cL_ends 297 = .ok (.iconst 0, 1) := by decide +kernel
theorem dL_ends_298 : decode cL_ends 298 = .ok (.istore 13, 2) := by decide +kernel
theorem dL_ends_300 : decode cL_ends 300 = .ok (.iload 13, 2) := by decide +kernel
theorem dL_ends_302 : decode cL_ends 302 = .ok (.aload_n 0, 1) := by decide +kernel
theorem dL_ends_303 : decode cL_ends 303 = .ok (.iconst 3, 1) := by decide +kernel
theorem dL_ends_304 : decode cL_ends 304 = .ok (.invokevirtual 41, 3) := by decide +kernel
theorem dL_ends_307 : decode cL_ends 307 = .ok (.if_icmp .ge 56, 3) := by decide +kernel
theorem dL_ends_310 : decode cL_ends 310 = .ok (.iload 12, 2) := by decide +kernel
theorem dL_ends_312 : decode cL_ends 312 = .ok (.ifCond .eq 42, 3) := by decide +kernel
theorem dL_ends_315 : decode cL_ends 315 = .ok (.aload_n 0, 1) := by decide +kernel
theorem dL_ends_316 : decode cL_ends 316 = .ok (.iload 13, 2) := by decide +kernel
theorem dL_ends_318 : decode cL_ends 318 = .ok (.iconst 5, 1) := by decide +kernel
theorem dL_ends_319 : decode cL_ends 319 = .ok (.invokevirtual 24, 3) := by decide +kernel
theorem dL_ends_322 : decode cL_ends 322 = .ok (.aload 10, 2) := by decide +kernel
theorem dL_ends_324 : decode cL_ends 324 = .ok (.iload 13, 2) := by decide +kernel
theorem dL_ends_326 : decode cL_ends 326 = .ok (.iaload, 1) := by decide +kernel
theorem dL_ends_327 : decode cL_ends 327 = .ok (.iload 8, 2) := by decide +kernel
theorem dL_ends_329 : decode cL_ends 329 = .ok (.iload 13, 2) := by decide +kernel
theorem dL_ends_331 : decode cL_ends 331 = .ok (.ishr, 1) := by decide +kernel
theorem dL_ends_332 : decode cL_ends 332 = .ok (.iconst 1, 1) := by decide +kernel
theorem dL_ends_333 : decode cL_ends 333 = .ok (.iand, 1) := by decide +kernel
theorem dL_ends_334 : decode cL_ends 334 = .ok (.iadd, 1) := by decide +kernel
theorem dL_ends_335 : decode cL_ends 335 = .ok (.if_icmp .ne 19, 3) := by decide +kernel
theorem dL_ends_338 : decode cL_ends 338 = .ok (.aload_n 0, 1) := by decide +kernel
theorem dL_ends_339 : decode cL_ends 339 = .ok (.iload 13, 2) := by decide +kernel
theorem dL_ends_341 : decode cL_ends 341 = .ok (.iconst 2, 1) := by decide +kernel
theorem dL_ends_342 : decode cL_ends 342 = .ok (.invokevirtual 24, 3) := by decide +kernel
theorem dL_ends_345 : decode cL_ends 345 = .ok (.bipush (-5), 2) := by decide +kernel
theorem dL_ends_347 : decode cL_ends 347 = .ok (.if_icmp .ne 7, 3) := by decide +kernel
theorem dL_ends_350 : decode cL_ends 350 = .ok (.iconst 1, 1) := by decide +kernel
theorem dL_ends_351 : decode cL_ends 351 = .ok (.goto 4, 3) := by decide +kernel
theorem dL_ends_354 : decode cL_ends 354 = .ok (.iconst 0, 1) := by decide +kernel
theorem dL_ends_355 : decode cL_ends 355 = .ok (.istore 12, 2) := by decide +kernel
theorem dL_ends_357 : decode cL_ends 357 = .ok (.iinc 13 1, 3) := by decide +kernel
theorem dL_ends_360 : decode cL_ends 360 = .ok (.goto (-60), 3) := by decide +kernel
theorem dL_ends_363 : decode cL_ends 363 = .ok (.iload 12, 2) := by decide +kernel
theorem dL_ends_365 : decode cL_ends 365 = .ok (.ifCond .eq 30, 3) := by decide +kernel
theorem dL_ends_368 : decode cL_ends 368 = .ok (.aload_n 0, 1) := by decide +kernel
theorem dL_ends_369 : decode cL_ends 369 = .ok (.invokestatic 86, 3) := by decide +kernel
theorem dL_ends_372 : decode cL_ends 372 = .ok (.ifCond .eq 23, 3) := by decide +kernel
theorem dL_ends_375 : decode cL_ends 375 = .ok (.aload_n 0, 1) := by decide +kernel
theorem dL_ends_376 : decode cL_ends 376 = .ok (.invokevirtual 89, 3) := by decide +kernel
theorem dL_ends_379 : decode cL_ends 379 = .ok (.ifCond .lt 16, 3) := by decide +kernel
theorem dL_ends_382 : decode cL_ends 382 = .ok (.aload_n 0, 1) := by decide +kernel
theorem dL_ends_383 : decode cL_ends 383 = .ok (.invokestatic 76, 3) := by decide +kernel
theorem dL_ends_386 : decode cL_ends 386 = .ok (.lload_n 1, 1) := by decide +kernel
theorem dL_ends_387 : decode cL_ends 387 = .ok (.lcmp, 1) := by decide +kernel
theorem dL_ends_388 : decode cL_ends 388 = .ok (.ifCond .ne 7, 3) := by decide +kernel
theorem dL_ends_391 : decode cL_ends 391 = .ok (.iconst 1, 1) := by decide +kernel
theorem dL_ends_392 : decode cL_ends 392 = .ok (.goto 4, 3) := by decide +kernel
theorem dL_ends_395 : decode cL_ends 395 = .ok (.iconst 0, 1) := by decide +kernel
theorem dL_ends_396 : decode cL_ends 396 = .ok (.ireturn, 1) := by decide +kernel
theorem dL_first_0 : decode cL_first 0 = .ok (.aload_n 0, 1) := by decide +kernel
theorem dL_first_1 : decode cL_first 1 = .ok (.iconst 0, 1) := by decide +kernel
theorem dL_first_2 : decode cL_first 2 = .ok (.invokevirtual 47, 3) := by decide +kernel
theorem dL_first_5 : decode cL_first 5 = .ok (.istore_n 1, 1) := by decide +kernel
theorem dL_first_6 : decode cL_first 6 = .ok (.iload_n 1, 1) := by decide +kernel
theorem dL_first_7 : decode cL_first 7 = .ok (.ifCond .ge 16, 3) := by decide +kernel
theorem dL_first_10 : decode cL_first 10 = .ok (.aload_n 0, 1) := by decide +kernel
theorem dL_first_11 : decode cL_first 11 = .ok (.invokevirtual 80, 3) := by decide +kernel
theorem dL_first_14 : decode cL_first 14 = .ok (.ifCond .ne 7, 3) := by decide +kernel
theorem dL_first_17 : decode cL_first 17 = .ok (.iconst 1, 1) := by decide +kernel
theorem dL_first_18 : decode cL_first 18 = .ok (.goto 4, 3) := by decide +kernel
theorem dL_first_21 : decode cL_first 21 = .ok (.iconst 0, 1) := by decide +kernel
theorem dL_first_22 : decode cL_first 22 = .ok (.ireturn, 1) := by decide +kernel
theorem dL_first_23 : decode cL_first 23 = .ok (.aload_n 0, 1) := by decide +kernel
theorem dL_first_24 : decode cL_first 24 = .ok (.invokestatic 76, 3) := by decide +kernel
theorem dL_first_27 : decode cL_first 27 = .ok (.lstore_n 2, 1) := by decide +kernel
theorem dL_first_28 : decode cL_first 28 = .ok (.aload_n 0, 1) := by decide +kernel
theorem dL_first_29 : decode cL_first 29 = .ok (.iload_n 1, 1) := by decide +kernel
theorem dL_first_30 : decode cL_first 30 = .ok (.invokevirtual 83, 3) := by decide +kernel
theorem dL_first_33 : decode cL_first 33 = .ok (.ifCond .ne 7, 3) := by decide +kernel
theorem dL_first_36 : decode cL_first 36 = .ok (.iconst 1, 1) := by decide +kernel
theorem dL_first_37 : decode cL_first 37 = .ok (.goto 4, 3) := by decide +kernel
theorem dL_first_40 : decode cL_first 40 = .ok (.iconst 0, 1) := by decide +kernel
theorem dL_first_41 : decode cL_first 41 = .ok (.aload_n 0, 1) := by decide +kernel
theorem dL_first_42 : decode cL_first 42 = .ok (.iload_n 1, 1) := by decide +kernel
theorem dL_first_43 : decode cL_first 43 = .ok (.invokevirtual 92, 3) := by decide +kernel
theorem dL_first_46 : decode cL_first 46 = .ok (.ifCond .ne 7, 3) := by decide +kernel
theorem dL_first_49 : decode cL_first 49 = .ok (.iconst 1, 1) := by decide +kernel
theorem dL_first_50 : decode cL_first 50 = .ok (.goto 4, 3) := by decide +kernel
theorem dL_first_53 : decode cL_first 53 = .ok (.iconst 0, 1) := by decide +kernel
theorem dL_first_54 : decode cL_first 54 = .ok (.if_icmp .ne 7, 3) := by decide +kernel
theorem dL_first_57 : decode cL_first 57 = .ok (.iconst 1, 1) := by decide +kernel
theorem dL_first_58 : decode cL_first 58 = .ok (.goto 4, 3) := by decide +kernel
theorem dL_first_61 : decode cL_first 61 = .ok (.iconst 0, 1) := by decide +kernel
theorem dL_first_62 : decode cL_first 62 = .ok (.istore 4, 2) := by decide +kernel
theorem dL_first_64 : decode cL_first 64 = .ok (.iconst 0, 1) := by decide +kernel
theorem dL_first_65 : decode cL_first 65 = .ok (.istore 5, 2) := by decide +kernel
theorem dL_first_67 : decode cL_first 67 = .ok (.iload 5, 2) := by decide +kernel
theorem dL_first_69 : decode cL_first 69 = .ok (.aload_n 0, 1) := by decide +kernel
theorem dL_first_70 : decode cL_first 70 = .ok (.bipush 6, 2) := by decide +kernel
theorem dL_first_72 : decode cL_first 72 = .ok (.invokevirtual 41, 3) := by decide +kernel
theorem dL_first_75 : decode cL_first 75 = .ok (.if_icmp .ge 74, 3) := by decide +kernel
theorem dL_first_78 : decode cL_first 78 = .ok (.iload 4, 2) := by decide +kernel
theorem dL_first_80 : decode cL_first 80 = .ok (.ifCond .eq 60, 3) := by decide +kernel
theorem dL_first_83 : decode cL_first 83 = .ok (.aload_n 0, 1) := by decide +kernel
theorem dL_first_84 : decode cL_first 84 = .ok (.iload 5, 2) := by decide +kernel
theorem dL_first_86 : decode cL_first 86 = .ok (.invokevirtual 92, 3) := by decide +kernel
theorem dL_first_89 : decode cL_first 89 = .ok (.ifCond .eq 7, 3) := by decide +kernel
theorem dL_first_92 : decode cL_first 92 = .ok (.iconst 1, 1) := by decide +kernel
theorem dL_first_93 : decode cL_first 93 = .ok (.goto 4, 3) := by decide +kernel
theorem dL_first_96 : decode cL_first 96 = .ok (.iconst 0, 1) := by decide +kernel
theorem dL_first_97 : decode cL_first 97 = .ok (.aload_n 0, 1) := by decide +kernel
theorem dL_first_98 : decode cL_first 98 = .ok (.iload 5, 2) := by decide +kernel
theorem dL_first_100 : decode cL_first 100 = .ok (.invokevirtual 92, 3) := by decide +kernel
theorem dL_first_103 : decode cL_first 103 = .ok (.ifCond .gt 14, 3) := by decide +kernel
theorem dL_first_106 : decode cL_first 106 = .ok (.aload_n 0, 1) := by decide +kernel
theorem dL_first_107 : decode cL_first 107 = .ok (.iload 5, 2) := by decide +kernel
theorem dL_first_109 : decode cL_first 109 = .ok (.invokevirtual 92, 3) := by decide +kernel
theorem dL_first_112 : decode cL_first 112 = .ok (.bipush (-5), 2) := by decide +kernel
theorem dL_first_114 : decode cL_first 114 = .ok (.if_icmp .ne 7, 3) := by decide +kernel
theorem dL_first_117 : decode cL_first 117 = .ok (.iconst 1, 1) := by decide +kernel
theorem dL_first_118 : decode cL_first 118 = .ok (.goto 4, 3) := by decide +kernel
theorem dL_first_121 : decode cL_first 121 = .ok (.iconst 0, 1) := by decide +kernel
theorem dL_first_122 : decode cL_first 122 = .ok (.if_icmp .ne 18, 3) := by decide +kernel
theorem dL_first_125 : decode cL_first 125 = .ok (.aload_n 0, 1) := by decide +kernel
theorem dL_first_126 : decode cL_first 126 = .ok (.iload 5, 2) := by decide +kernel
theorem dL_first_128 : decode cL_first 128 = .ok (.invokevirtual 92, 3) := by decide +kernel
theorem dL_first_131 : decode cL_first 131 = .ok (.bipush 120, 2) := by decide +kernel
theorem dL_first_133 : decode cL_first 133 = .ok (.if_icmp .gt 7, 3) := by decide +kernel
theorem dL_first_136 : decode cL_first 136 = .ok (.iconst 1, 1) := by decide +kernel
theorem dL_first_137 : decode cL_first 137 = .ok (.goto 4, 3) := by decide +kernel
theorem dL_first_140 : decode cL_first 140 = .ok (.iconst 0, 1) := by decide +kernel
theorem dL_first_141 : decode cL_first 141 = .ok (.istore 4, 2) := by decide +kernel
theorem dL_first_143 : decode cL_first 143 = .ok (.iinc 5 1, 3) := by decide +kernel
theorem dL_first_146 : decode cL_first 146 = .ok (.goto (-79), 3) := by decide +kernel
theorem dL_first_149 : decode cL_first 149 = .ok (.aload_n 0, 1) := by decide +kernel
theorem dL_first_150 : decode cL_first 150 = .ok (.iload_n 1, 1) := by decide +kernel
theorem dL_first_151 : decode cL_first 151 = .ok (.iconst 4, 1) := by decide +kernel
theorem dL_first_152 : decode cL_first 152 = .ok (.invokevirtual 44, 3) := by decide +kernel
theorem dL_first_155 : decode cL_first 155 = .ok (.istore 5, 2) := by decide +kernel
theorem dL_first_157 : decode cL_first 157 = .ok (.iload 4, 2) := by decide +kernel
theorem dL_first_159 : decode cL_first 159 = .ok (.ifCond .eq 58, 3) := by decide +kernel
theorem dL_first_162 : decode cL_first 162 = .ok (.iload 5, 2) := by decide +kernel
theorem dL_first_164 : decode cL_first 164 = .ok (.bipush 60, 2) := by decide +kernel
theorem dL_first_166 : decode cL_first 166 = .ok (.if_icmp .ge 51, 3) := by decide +kernel
theorem dL_first_169 : decode cL_first 169 = .ok (.aload_n 0, 1) := by decide +kernel
theorem dL_first_170 : decode cL_first 170 = .ok (.iconst 0, 1) := by decide +kernel
theorem dL_first_171 : decode cL_first 171 = .ok (.iload 5, 2) := by decide +kernel
theorem dL_first_173 : decode cL_first 173 = .ok (.iconst 1, 1) := by decide +kernel
theorem dL_first_174 : decode cL_first 174 = .ok (.iadd, 1) := by decide +kernel
theorem dL_first_175 : decode cL_first 175 = .ok (.invokevirtual 34, 3) := by decide +kernel
theorem dL_first_178 : decode cL_first 178 = .ok (.istore 6, 2) := by decide +kernel
theorem dL_first_180 : decode cL_first 180 = .ok (.aload_n 0, 1) := by decide +kernel
theorem dL_first_181 : decode cL_first 181 = .ok (.invokevirtual 80, 3) := by decide +kernel
theorem dL_first_184 : decode cL_first 184 = .ok (.ifCond .ne 30, 3) := by decide +kernel
theorem dL_first_187 : decode cL_first 187 = .ok (.aload_n 0, 1) := by decide +kernel
theorem dL_first_188 : decode cL_first 188 = .ok (.iload_n 1, 1) := by decide +kernel
theorem dL_first_189 : decode cL_first 189 = .ok (.invokevirtual 83, 3) := by decide +kernel
theorem dL_first_192 : decode cL_first 192 = .ok (.iconst 1, 1) := by decide +kernel
theorem dL_first_193 : decode cL_first 193 = .ok (.if_icmp .ne 21, 3) := by decide +kernel
theorem dL_first_196 : decode cL_first 196 = .ok (.iload 6, 2) := by decide +kernel
theorem dL_first_198 : decode cL_first 198 = .ok (.bipush (-5), 2) := by decide +kernel
theorem dL_first_200 : decode cL_first 200 = .ok (.if_icmp .eq 10, 3) := by decide +kernel
theorem dL_first_203 : decode cL_first 203 = .ok (.aload_n 0, 1) := by decide +kernel
theorem dL_first_204 : decode cL_first 204 = .ok (.invokevirtual 89, 3) := by decide +kernel
theorem dL_first_207 : decode cL_first 207 = .ok (.ifCond .lt 7, 3) := by decide +kernel
theorem dL_first_210 : decode cL_first 210 = .ok (.iconst 1, 1) := by decide +kernel
theorem dL_first_211 : decode cL_first 211 = .ok (.goto 4, 3) := by decide +kernel
theorem dL_first_214 : decode cL_first 214 = .ok (.iconst 0, 1) := by decide +kernel
theorem dL_first_215 : decode cL_first 215 = .ok (.istore 4, 2) := by decide +kernel
theorem dL_first_217 : decode cL_first 217 = .ok (.iload 4, 2) := by decide +kernel
theorem dL_first_219 : decode cL_first 219 = .ok (.ifCond .eq 16, 3) := by decide +kernel
theorem dL_first_222 : decode cL_first 222 = .ok (.aload_n 0, 1) := by decide +kernel
theorem dL_first_223 : decode cL_first 223 = .ok (.invokestatic 76, 3) := by decide +kernel
theorem dL_first_226 : decode cL_first 226 = .ok (.lload_n 2, 1) := by decide +kernel
theorem dL_first_227 : decode cL_first 227 = .ok (.lcmp, 1) := by decide +kernel
theorem dL_first_228 : decode cL_first 228 = .ok (.ifCond .ne 7, 3) := by decide +kernel
theorem dL_first_231 : decode cL_first 231 = .ok (.iconst 1, 1) := by decide +kernel
theorem dL_first_232 : decode cL_first 232 = .ok (.goto 4, 3) := by decide +kernel
theorem dL_first_235 : decode cL_first 235 = .ok (.iconst 0, 1) := by decide +kernel
theorem dL_first_236 : decode cL_first 236 = .ok (.ireturn, 1) := by decide +kernel
theorem dL_law_0 : decode cL_law 0 = .ok (.new 17, 3) := by decide +kernel
theorem dL_law_3 : decode cL_law 3 = .ok (.dup, 1) := by decide +kernel
theorem dL_law_4 : decode cL_law 4 = .ok (.invokespecial 95, 3) := by decide +kernel
theorem dL_law_7 : decode cL_law 7 = .ok (.astore_n 1, 1) := by decide +kernel
theorem dL_law_8 : decode cL_law 8 = .ok (.aload_n 1, 1) := by decide +kernel
theorem dL_law_9 : decode cL_law 9 = .ok (.invokestatic 86, 3) := by decide +kernel
theorem dL_law_12 : decode cL_law 12 = .ok (.ifCond .eq 14, 3) := by decide +kernel
theorem dL_law_15 : decode cL_law 15 = .ok (.aload_n 1, 1) := by decide +kernel
theorem dL_law_16 : decode cL_law 16 = .ok (.invokestatic 96, 3) := by decide +kernel
theorem dL_law_19 : decode cL_law 19 = .ok (.ifCond .eq 7, 3) := by decide +kernel
theorem dL_law_22 : decode cL_law 22 = .ok (.iconst 1, 1) := by decide +kernel
theorem dL_law_23 : decode cL_law 23 = .ok (.goto 4, 3) := by decide +kernel
theorem dL_law_26 : decode cL_law 26 = .ok (.iconst 0, 1) := by decide +kernel
theorem dL_law_27 : decode cL_law 27 = .ok (.istore_n 2, 1) := by decide +kernel
theorem dL_law_28 : decode cL_law 28 = .ok (.iconst 0, 1) := by decide +kernel
theorem dL_law_29 : decode cL_law 29 = .ok (.istore_n 3, 1) := by decide +kernel
theorem dL_law_30 : decode cL_law 30 = .ok (.iload_n 3, 1) := by decide +kernel
theorem dL_law_31 : decode cL_law 31 = .ok (.bipush 46, 2) := by decide +kernel
theorem dL_law_33 : decode cL_law 33 = .ok (.if_icmp .ge 259, 3) := by decide +kernel
theorem dL_law_36 : decode cL_law 36 = .ok (.iload_n 2, 1) := by decide +kernel
theorem dL_law_37 : decode cL_law 37 = .ok (.ifCond .eq 255, 3) := by decide +kernel
theorem dL_law_40 : decode cL_law 40 = .ok (.aload_n 0, 1) := by decide +kernel
theorem dL_law_41 : decode cL_law 41 = .ok (.iconst 2, 1) := by decide +kernel
theorem dL_law_42 : decode cL_law 42 = .ok (.iload_n 3, 1) := by decide +kernel
theorem dL_law_43 : decode cL_law 43 = .ok (.imul, 1) := by decide +kernel
theorem dL_law_44 : decode cL_law 44 = .ok (.invokestatic 99, 3) := by decide +kernel
theorem dL_law_47 : decode cL_law 47 = .ok (.istore 4, 2) := by decide +kernel
theorem dL_law_49 : decode cL_law 49 = .ok (.aload_n 0, 1) := by decide +kernel
theorem dL_law_50 : decode cL_law 50 = .ok (.iconst 2, 1) := by decide +kernel
theorem dL_law_51 : decode cL_law 51 = .ok (.iload_n 3, 1) := by decide +kernel
theorem dL_law_52 : decode cL_law 52 = .ok (.imul, 1) := by decide +kernel
theorem dL_law_53 : decode cL_law 53 = .ok (.iconst 1, 1) := by decide +kernel
theorem dL_law_54 : decode cL_law 54 = .ok (.iadd, 1) := by decide +kernel
theorem dL_law_55 : decode cL_law 55 = .ok (.invokestatic 99, 3) := by decide +kernel
theorem dL_law_58 : decode cL_law 58 = .ok (.istore 5, 2) := by decide +kernel
theorem dL_law_60 : decode cL_law 60 = .ok (.aload_n 1, 1) := by decide +kernel
theorem dL_law_61 : decode cL_law 61 = .ok (.bipush 14, 2) := by decide +kernel
theorem dL_law_63 : decode cL_law 63 = .ok (.invokevirtual 41, 3) := by decide +kernel
theorem dL_law_66 : decode cL_law 66 = .ok (.istore 6, 2) := by decide +kernel
theorem dL_law_68 : decode cL_law 68 = .ok (.aload_n 1, 1) := by decide +kernel
theorem dL_law_69 : decode cL_law 69 = .ok (.invokestatic 76, 3) := by decide +kernel
theorem dL_law_72 : decode cL_law 72 = .ok (.lstore 7, 2) := by decide +kernel
theorem dL_law_74 : decode cL_law 74 = .ok (.iload_n 3, 1) := by decide +kernel
theorem dL_law_75 : decode cL_law 75 = .ok (.iconst 5, 1) := by decide +kernel
theorem dL_law_76 : decode cL_law 76 = .ok (.if_icmp .ge 25, 3) := by decide +kernel
theorem dL_law_79 : decode cL_law 79 = .ok (.aload_n 1, 1) := by decide +kernel
theorem dL_law_80 : decode cL_law 80 = .ok (.iload 4, 2) := by decide +kernel
theorem dL_law_82 : decode cL_law 82 = .ok (.iconst 3, 1) := by decide +kernel
theorem dL_law_83 : decode cL_law 83 = .ok (.invokestatic 10, 3) := by decide +kernel
theorem dL_law_86 : decode cL_law 86 = .ok (.iconst 1, 1) := by decide +kernel
theorem dL_law_87 : decode cL_law 87 = .ok (.iload 5, 2) := by decide +kernel
theorem dL_law_89 : decode cL_law 89 = .ok (.bipush 9, 2) := by decide +kernel
theorem dL_law_91 : decode cL_law 91 = .ok (.invokestatic 10, 3) := by decide +kernel
theorem dL_law_94 : decode cL_law 94 = .ok (.iadd, 1) := by decide +kernel
theorem dL_law_95 : decode cL_law 95 = .ok (.invokevirtual 16, 3) := by decide +kernel
theorem dL_law_98 : decode cL_law 98 = .ok (.goto 11, 3) := by decide +kernel
theorem dL_law_101 : decode cL_law 101 = .ok (.aload_n 1, 1) := by decide +kernel
theorem dL_law_102 : decode cL_law 102 = .ok (.iload 4, 2) := by decide +kernel
theorem dL_law_104 : decode cL_law 104 = .ok (.iload 5, 2) := by decide +kernel
theorem dL_law_106 : decode cL_law 106 = .ok (.invokestatic 103, 3) := by decide +kernel
theorem dL_law_109 : decode cL_law 109 = .ok (.istore 9, 2) := by decide +kernel
theorem dL_law_111 : decode cL_law 111 = .ok (.iload 9, 2) := by decide +kernel
theorem dL_law_113 : decode cL_law 113 = .ok (.ifCond .ge 33, 3) := by decide +kernel
theorem dL_law_116 : decode cL_law 116 = .ok (.aload_n 1, 1) := by decide +kernel
theorem dL_law_117 : decode cL_law 117 = .ok (.bipush 14, 2) := by decide +kernel
theorem dL_law_119 : decode cL_law 119 = .ok (.invokevirtual 41, 3) := by decide +kernel
theorem dL_law_122 : decode cL_law 122 = .ok (.iload 6, 2) := by decide +kernel
theorem dL_law_124 : decode cL_law 124 = .ok (.if_icmp .ne 17, 3) := by decide +kernel
theorem dL_law_127 : decode cL_law 127 = .ok (.aload_n 1, 1) := by decide +kernel
theorem dL_law_128 : decode cL_law 128 = .ok (.invokestatic 76, 3) := by decide +kernel
theorem dL_law_131 : decode cL_law 131 = .ok (.lload 7, 2) := by decide +kernel
theorem dL_law_133 : decode cL_law 133 = .ok (.lcmp, 1) := by decide +kernel
theorem dL_law_134 : decode cL_law 134 = .ok (.ifCond .ne 7, 3) := by decide +kernel
theorem dL_law_137 : decode cL_law 137 = .ok (.iconst 1, 1) := by decide +kernel
theorem dL_law_138 : decode cL_law 138 = .ok (.goto 4, 3) := by decide +kernel
theorem dL_law_141 : decode cL_law 141 = .ok (.iconst 0, 1) := by decide +kernel
theorem dL_law_142 : decode cL_law 142 = .ok (.istore_n 2, 1) := by decide +kernel
theorem dL_law_143 : decode cL_law 143 = .ok (.goto 100, 3) := by decide +kernel
theorem dL_law_146 : decode cL_law 146 = .ok (.aload_n 1, 1) := by decide +kernel
theorem dL_law_147 : decode cL_law 147 = .ok (.bipush 14, 2) := by decide +kernel
theorem dL_law_149 : decode cL_law 149 = .ok (.invokevirtual 41, 3) := by decide +kernel
theorem dL_law_152 : decode cL_law 152 = .ok (.iload 6, 2) := by decide +kernel
theorem dL_law_154 : decode cL_law 154 = .ok (.iconst 4, 1) := by decide +kernel
theorem dL_law_155 : decode cL_law 155 = .ok (.if_icmp .ge 10, 3) := by decide +kernel
theorem dL_law_158 : decode cL_law 158 = .ok (.iload 6, 2) := by decide +kernel
theorem dL_law_160 : decode cL_law 160 = .ok (.iconst 1, 1) := by decide +kernel
theorem dL_law_161 : decode cL_law 161 = .ok (.iadd, 1) := by decide +kernel
theorem dL_law_162 : decode cL_law 162 = .ok (.goto 4, 3) := by decide +kernel
theorem dL_law_165 : decode cL_law 165 = .ok (.iconst 4, 1) := by decide +kernel
theorem dL_law_166 : decode cL_law 166 = .ok (.if_icmp .ne 7, 3) := by decide +kernel
theorem dL_law_169 : decode cL_law 169 = .ok (.iconst 1, 1) := by decide +kernel
theorem dL_law_170 : decode cL_law 170 = .ok (.goto 4, 3) := by decide +kernel
theorem dL_law_173 : decode cL_law 173 = .ok (.iconst 0, 1) := by decide +kernel
theorem dL_law_174 : decode cL_law 174 = .ok (.istore_n 2, 1) := by decide +kernel
theorem dL_law_175 : decode cL_law 175 = .ok (.iload_n 2, 1) := by decide +kernel
theorem dL_law_176 : decode cL_law 176 = .ok (.ifCond .eq 67, 3) := by decide +kernel
theorem dL_law_179 : decode cL_law 179 = .ok (.iload_n 3, 1) := by decide +kernel
theorem dL_law_180 : decode cL_law 180 = .ok (.iconst 4, 1) := by decide +kernel
theorem dL_law_181 : decode cL_law 181 = .ok (.if_icmp .le 62, 3) := by decide +kernel
theorem dL_law_184 : decode cL_law 184 = .ok (.iload 5, 2) := by decide +kernel
theorem dL_law_186 : decode cL_law 186 = .ok (.iconst 5, 1) := by decide +kernel
theorem dL_law_187 : decode cL_law 187 = .ok (.ishr, 1) := by decide +kernel
theorem dL_law_188 : decode cL_law 188 = .ok (.iconst 4, 1) := by decide +kernel
theorem dL_law_189 : decode cL_law 189 = .ok (.invokestatic 10, 3) := by decide +kernel
theorem dL_law_192 : decode cL_law 192 = .ok (.ifCond .ne 51, 3) := by decide +kernel
theorem dL_law_195 : decode cL_law 195 = .ok (.aload_n 1, 1) := by decide +kernel
theorem dL_law_196 : decode cL_law 196 = .ok (.invokevirtual 89, 3) := by decide +kernel
theorem dL_law_199 : decode cL_law 199 = .ok (.iload 6, 2) := by decide +kernel
theorem dL_law_201 : decode cL_law 201 = .ok (.iconst 4, 1) := by decide +kernel
theorem dL_law_202 : decode cL_law 202 = .ok (.if_icmp .ge 8, 3) := by decide +kernel
theorem dL_law_205 : decode cL_law 205 = .ok (.iload 6, 2) := by decide +kernel
theorem dL_law_207 : decode cL_law 207 = .ok (.goto 4, 3) := by decide +kernel
theorem dL_law_210 : decode cL_law 210 = .ok (.iconst 3, 1) := by decide +kernel
theorem dL_law_211 : decode cL_law 211 = .ok (.if_icmp .ne 30, 3) := by decide +kernel
theorem dL_law_214 : decode cL_law 214 = .ok (.aload_n 1, 1) := by decide +kernel
theorem dL_law_215 : decode cL_law 215 = .ok (.invokestatic 76, 3) := by decide +kernel
theorem dL_law_218 : decode cL_law 218 = .ok (.lload 7, 2) := by decide +kernel
theorem dL_law_220 : decode cL_law 220 = .ok (.lcmp, 1) := by decide +kernel
theorem dL_law_221 : decode cL_law 221 = .ok (.ifCond .ne 20, 3) := by decide +kernel
theorem dL_law_224 : decode cL_law 224 = .ok (.aload_n 1, 1) := by decide +kernel
theorem dL_law_225 : decode cL_law 225 = .ok (.iload 4, 2) := by decide +kernel
theorem dL_law_227 : decode cL_law 227 = .ok (.iload 5, 2) := by decide +kernel
theorem dL_law_229 : decode cL_law 229 = .ok (.invokestatic 103, 3) := by decide +kernel
theorem dL_law_232 : decode cL_law 232 = .ok (.iload 9, 2) := by decide +kernel
theorem dL_law_234 : decode cL_law 234 = .ok (.if_icmp .ne 7, 3) := by decide +kernel
theorem dL_law_237 : decode cL_law 237 = .ok (.iconst 1, 1) := by decide +kernel
theorem dL_law_238 : decode cL_law 238 = .ok (.goto 4, 3) := by decide +kernel
theorem dL_law_241 : decode cL_law 241 = .ok (.iconst 0, 1) := by decide +kernel
theorem dL_law_242 : decode cL_law 242 = .ok (.istore_n 2, 1) := by decide +kernel
theorem dL_law_243 : decode cL_law 243 = .ok (.iload_n 2, 1) := by decide +kernel
theorem dL_law_244 : decode cL_law 244 = .ok (.ifCond .eq 40, 3) := by decide +kernel
theorem dL_law_247 : decode cL_law 247 = .ok (.aload_n 1, 1) := by decide +kernel
theorem dL_law_248 : decode cL_law 248 = .ok (.invokestatic 107, 3) := by decide +kernel
theorem dL_law_251 : decode cL_law 251 = .ok (.ifCond .eq 33, 3) := by decide +kernel
theorem dL_law_254 : decode cL_law 254 = .ok (.iload_n 3, 1) := by decide +kernel
theorem dL_law_255 : decode cL_law 255 = .ok (.iconst 3, 1) := by decide +kernel
theorem dL_law_256 : decode cL_law 256 = .ok (.irem, 1) := by decide +kernel
theorem dL_law_257 : decode cL_law 257 = .ok (.ifCond .gt 10, 3) := by decide +kernel
theorem dL_law_260 : decode cL_law 260 = .ok (.aload_n 1, 1) := by decide +kernel
theorem dL_law_261 : decode cL_law 261 = .ok (.invokestatic 86, 3) := by decide +kernel
theorem dL_law_264 : decode cL_law 264 = .ok (.ifCond .eq 20, 3) := by decide +kernel
theorem dL_law_267 : decode cL_law 267 = .ok (.iload_n 3, 1) := by decide +kernel
theorem dL_law_268 : decode cL_law 268 = .ok (.iconst 2, 1) := by decide +kernel
theorem dL_law_269 : decode cL_law 269 = .ok (.irem, 1) := by decide +kernel
theorem dL_law_270 : decode cL_law 270 = .ok (.ifCond .gt 10, 3) := by decide +kernel
theorem dL_law_273 : decode cL_law 273 = .ok (.aload_n 1, 1) := by decide +kernel
theorem dL_law_274 : decode cL_law 274 = .ok (.invokestatic 96, 3) := by decide +kernel
theorem dL_law_277 : decode cL_law 277 = .ok (.ifCond .eq 7, 3) := by decide +kernel
theorem dL_law_280 : decode cL_law 280 = .ok (.iconst 1, 1) := by decide +kernel
theorem dL_law_281 : decode cL_law 281 = .ok (.goto 4, 3) := by decide +kernel
theorem dL_law_284 : decode cL_law 284 = .ok (.iconst 0, 1) := by decide +kernel
theorem dL_law_285 : decode cL_law 285 = .ok (.istore_n 2, 1) := by decide +kernel
theorem dL_law_286 : decode cL_law 286 = .ok (.iinc 3 1, 3) := by decide +kernel
theorem dL_law_289 : decode cL_law 289 = .ok (.goto (-259), 3) := by decide +kernel
theorem dL_law_292 : decode cL_law 292 = .ok (.iload_n 2, 1) := by decide +kernel
theorem dL_law_293 : decode cL_law 293 = .ok (.ifCond .eq 14, 3) := by decide +kernel
theorem dL_law_296 : decode cL_law 296 = .ok (.aload_n 1, 1) := by decide +kernel
theorem dL_law_297 : decode cL_law 297 = .ok (.invokestatic 86, 3) := by decide +kernel
theorem dL_law_300 : decode cL_law 300 = .ok (.ifCond .eq 7, 3) := by decide +kernel
theorem dL_law_303 : decode cL_law 303 = .ok (.iconst 1, 1) := by decide +kernel
theorem dL_law_304 : decode cL_law 304 = .ok (.goto 4, 3) := by decide +kernel
theorem dL_law_307 : decode cL_law 307 = .ok (.iconst 0, 1) := by decide +kernel
theorem dL_law_308 : decode cL_law 308 = .ok (.ireturn, 1) := by decide +kernel
