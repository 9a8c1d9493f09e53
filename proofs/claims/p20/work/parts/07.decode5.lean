theorem dX12_feed_98 : decode cX12_feed 98 = .ok (.ishr, 1) := by decide +kernel
theorem dX12_feed_99 : decode cX12_feed 99 = .ok (.sipush 255, 3) := by decide +kernel
theorem dX12_feed_102 : decode cX12_feed 102 = .ok (.iand, 1) := by decide +kernel
theorem dX12_feed_103 : decode cX12_feed 103 = .ok (.iastore, 1) := by decide +kernel
theorem dX12_feed_104 : decode cX12_feed 104 = .ok (.iinc 6 1, 3) := by decide +kernel
theorem dX12_feed_107 : decode cX12_feed 107 = .ok (.goto (-87), 3) := by decide +kernel
theorem dX12_feed_110 : decode cX12_feed 110 = .ok (.aload_n 0, 1) := by decide +kernel
theorem dX12_feed_111 : decode cX12_feed 111 = .ok (.dup, 1) := by decide +kernel
theorem dX12_feed_112 : decode cX12_feed 112 = .ok (.getfield 378, 3) := by decide +kernel
theorem dX12_feed_115 : decode cX12_feed 115 = .ok (.bipush 20, 2) := by decide +kernel
theorem dX12_feed_117 : decode cX12_feed 117 = .ok (.iadd, 1) := by decide +kernel
theorem dX12_feed_118 : decode cX12_feed 118 = .ok (.putfield 378, 3) := by decide +kernel
theorem dX12_feed_121 : decode cX12_feed 121 = .ok (.aload_n 0, 1) := by decide +kernel
theorem dX12_feed_122 : decode cX12_feed 122 = .ok (.getfield 378, 3) := by decide +kernel
theorem dX12_feed_125 : decode cX12_feed 125 = .ok (.ireturn, 1) := by decide +kernel
theorem dX12_clearsRules_0 : decode cX12_clearsRules 0 = .ok (.aload_n 0, 1) := by decide +kernel
theorem dX12_clearsRules_1 : decode cX12_clearsRules 1 = .ok (.getfield 84, 3) := by decide +kernel
theorem dX12_clearsRules_4 : decode cX12_clearsRules 4 = .ok (.iload_n 1, 1) := by decide +kernel
theorem dX12_clearsRules_5 : decode cX12_clearsRules 5 = .ok (.iconst 0, 1) := by decide +kernel
theorem dX12_clearsRules_6 : decode cX12_clearsRules 6 = .ok (.iastore, 1) := by decide +kernel
theorem dX12_clearsRules_7 : decode cX12_clearsRules 7 = .ok (.aload_n 0, 1) := by decide +kernel
theorem dX12_clearsRules_8 : decode cX12_clearsRules 8 = .ok (.getfield 97, 3) := by decide +kernel
theorem dX12_clearsRules_11 : decode cX12_clearsRules 11 = .ok (.iload_n 1, 1) := by decide +kernel
theorem dX12_clearsRules_12 : decode cX12_clearsRules 12 = .ok (.iconst 0, 1) := by decide +kernel
theorem dX12_clearsRules_13 : decode cX12_clearsRules 13 = .ok (.iastore, 1) := by decide +kernel
theorem dX12_clearsRules_14 : decode cX12_clearsRules 14 = .ok (.aload_n 0, 1) := by decide +kernel
theorem dX12_clearsRules_15 : decode cX12_clearsRules 15 = .ok (.getfield 106, 3) := by decide +kernel
theorem dX12_clearsRules_18 : decode cX12_clearsRules 18 = .ok (.iload_n 1, 1) := by decide +kernel
theorem dX12_clearsRules_19 : decode cX12_clearsRules 19 = .ok (.iconst 2, 1) := by decide +kernel
theorem dX12_clearsRules_20 : decode cX12_clearsRules 20 = .ok (.iastore, 1) := by decide +kernel
theorem dX12_clearsRules_21 : decode cX12_clearsRules 21 = .ok (.aload_n 0, 1) := by decide +kernel
theorem dX12_clearsRules_22 : decode cX12_clearsRules 22 = .ok (.getfield 109, 3) := by decide +kernel
theorem dX12_clearsRules_25 : decode cX12_clearsRules 25 = .ok (.iload_n 1, 1) := by decide +kernel
theorem dX12_clearsRules_26 : decode cX12_clearsRules 26 = .ok (.iconst 1, 1) := by decide +kernel
theorem dX12_clearsRules_27 : decode cX12_clearsRules 27 = .ok (.iastore, 1) := by decide +kernel
theorem dX12_clearsRules_28 : decode cX12_clearsRules 28 = .ok (.aload_n 0, 1) := by decide +kernel
theorem dX12_clearsRules_29 : decode cX12_clearsRules 29 = .ok (.getfield 112, 3) := by decide +kernel
theorem dX12_clearsRules_32 : decode cX12_clearsRules 32 = .ok (.iload_n 1, 1) := by decide +kernel
theorem dX12_clearsRules_33 : decode cX12_clearsRules 33 = .ok (.iconst 0, 1) := by decide +kernel
theorem dX12_clearsRules_34 : decode cX12_clearsRules 34 = .ok (.iastore, 1) := by decide +kernel
theorem dX12_clearsRules_35 : decode cX12_clearsRules 35 = .ok (.iconst 0, 1) := by decide +kernel
theorem dX12_clearsRules_36 : decode cX12_clearsRules 36 = .ok (.istore_n 2, 1) := by decide +kernel
theorem dX12_clearsRules_37 : decode cX12_clearsRules 37 = .ok (.iload_n 2, 1) := by decide +kernel
theorem dX12_clearsRules_38 : decode cX12_clearsRules 38 = .ok (.bipush 10, 2) := by decide +kernel
theorem dX12_clearsRules_40 : decode cX12_clearsRules 40 = .ok (.if_icmp .ge 29, 3) := by decide +kernel
theorem dX12_clearsRules_43 : decode cX12_clearsRules 43 = .ok (.aload_n 0, 1) := by decide +kernel
theorem dX12_clearsRules_44 : decode cX12_clearsRules 44 = .ok (.getfield 151, 3) := by decide +kernel
theorem dX12_clearsRules_47 : decode cX12_clearsRules 47 = .ok (.iload_n 2, 1) := by decide +kernel
theorem dX12_clearsRules_48 : decode cX12_clearsRules 48 = .ok (.iload_n 1, 1) := by decide +kernel
theorem dX12_clearsRules_49 : decode cX12_clearsRules 49 = .ok (.ifCond .ne 7, 3) := by decide +kernel
theorem dX12_clearsRules_52 : decode cX12_clearsRules 52 = .ok (.iload_n 2, 1) := by decide +kernel
theorem dX12_clearsRules_53 : decode cX12_clearsRules 53 = .ok (.goto 9, 3) := by decide +kernel
theorem dX12_clearsRules_56 : decode cX12_clearsRules 56 = .ok (.aload_n 0, 1) := by decide +kernel
theorem dX12_clearsRules_57 : decode cX12_clearsRules 57 = .ok (.getfield 151, 3) := by decide +kernel
theorem dX12_clearsRules_60 : decode cX12_clearsRules 60 = .ok (.iload_n 2, 1) := by decide +kernel
theorem dX12_clearsRules_61 : decode cX12_clearsRules 61 = .ok (.iaload, 1) := by decide +kernel
theorem dX12_clearsRules_62 : decode cX12_clearsRules 62 = .ok (.iastore, 1) := by decide +kernel
theorem dX12_clearsRules_63 : decode cX12_clearsRules 63 = .ok (.iinc 2 1, 3) := by decide +kernel
theorem dX12_clearsRules_66 : decode cX12_clearsRules 66 = .ok (.goto (-29), 3) := by decide +kernel
theorem dX12_clearsRules_69 : decode cX12_clearsRules 69 = .ok (.return_, 1) := by decide +kernel
theorem dX12_here_0 : decode cX12_here 0 = .ok (.aload_n 0, 1) := by decide +kernel
theorem dX12_here_1 : decode cX12_here 1 = .ok (.getfield 381, 3) := by decide +kernel
theorem dX12_here_4 : decode cX12_here 4 = .ok (.aload_n 0, 1) := by decide +kernel
theorem dX12_here_5 : decode cX12_here 5 = .ok (.getfield 384, 3) := by decide +kernel
theorem dX12_here_8 : decode cX12_here 8 = .ok (.if_icmp .ge 15, 3) := by decide +kernel
theorem dX12_here_11 : decode cX12_here 11 = .ok (.aload_n 0, 1) := by decide +kernel
theorem dX12_here_12 : decode cX12_here 12 = .ok (.getfield 81, 3) := by decide +kernel
theorem dX12_here_15 : decode cX12_here 15 = .ok (.aload_n 0, 1) := by decide +kernel
theorem dX12_here_16 : decode cX12_here 16 = .ok (.getfield 381, 3) := by decide +kernel
theorem dX12_here_19 : decode cX12_here 19 = .ok (.iaload, 1) := by decide +kernel
theorem dX12_here_20 : decode cX12_here 20 = .ok (.goto 4, 3) := by decide +kernel
theorem dX12_here_23 : decode cX12_here 23 = .ok (.iconst (-1), 1) := by decide +kernel
theorem dX12_here_24 : decode cX12_here 24 = .ok (.ireturn, 1) := by decide +kernel
theorem dX12_isSmall_0 : decode cX12_isSmall 0 = .ok (.iload_n 0, 1) := by decide +kernel
theorem dX12_isSmall_1 : decode cX12_isSmall 1 = .ok (.bipush 97, 2) := by decide +kernel
theorem dX12_isSmall_3 : decode cX12_isSmall 3 = .ok (.if_icmp .lt 13, 3) := by decide +kernel
theorem dX12_isSmall_6 : decode cX12_isSmall 6 = .ok (.iload_n 0, 1) := by decide +kernel
theorem dX12_isSmall_7 : decode cX12_isSmall 7 = .ok (.bipush 122, 2) := by decide +kernel
theorem dX12_isSmall_9 : decode cX12_isSmall 9 = .ok (.if_icmp .gt 7, 3) := by decide +kernel
theorem dX12_isSmall_12 : decode cX12_isSmall 12 = .ok (.iconst 1, 1) := by decide +kernel
theorem dX12_isSmall_13 : decode cX12_isSmall 13 = .ok (.goto 4, 3) := by decide +kernel
theorem dX12_isSmall_16 : decode cX12_isSmall 16 = .ok (.iconst 0, 1) := by decide +kernel
theorem dX12_isSmall_17 : decode cX12_isSmall 17 = .ok (.ireturn, 1) := by decide +kernel
theorem dX12_isDigit_0 : decode cX12_isDigit 0 = .ok (.iload_n 0, 1) := by decide +kernel
theorem dX12_isDigit_1 : decode cX12_isDigit 1 = .ok (.bipush 48, 2) := by decide +kernel
theorem dX12_isDigit_3 : decode cX12_isDigit 3 = .ok (.if_icmp .lt 13, 3) := by decide +kernel
theorem dX12_isDigit_6 : decode cX12_isDigit 6 = .ok (.iload_n 0, 1) := by decide +kernel
theorem dX12_isDigit_7 : decode cX12_isDigit 7 = .ok (.bipush 57, 2) := by decide +kernel
theorem dX12_isDigit_9 : decode cX12_isDigit 9 = .ok (.if_icmp .gt 7, 3) := by decide +kernel
theorem dX12_isDigit_12 : decode cX12_isDigit 12 = .ok (.iconst 1, 1) := by decide +kernel
theorem dX12_isDigit_13 : decode cX12_isDigit 13 = .ok (.goto 4, 3) := by decide +kernel
theorem dX12_isDigit_16 : decode cX12_isDigit 16 = .ok (.iconst 0, 1) := by decide +kernel
theorem dX12_isDigit_17 : decode cX12_isDigit 17 = .ok (.ireturn, 1) := by decide +kernel
theorem dX12_next_0 : decode cX12_next 0 = .ok (.aload_n 0, 1) := by decide +kernel
theorem dX12_next_1 : decode cX12_next 1 = .ok (.invokevirtual 387, 3) := by decide +kernel
theorem dX12_next_4 : decode cX12_next 4 = .ok (.bipush 10, 2) := by decide +kernel
theorem dX12_next_6 : decode cX12_next 6 = .ok (.if_icmp .eq 12, 3) := by decide +kernel
theorem dX12_next_9 : decode cX12_next 9 = .ok (.aload_n 0, 1) := by decide +kernel
theorem dX12_next_10 : decode cX12_next 10 = .ok (.invokevirtual 387, 3) := by decide +kernel
theorem dX12_next_13 : decode cX12_next 13 = .ok (.bipush 32, 2) := by decide +kernel
theorem dX12_next_15 : decode cX12_next 15 = .ok (.if_icmp .ne 16, 3) := by decide +kernel
theorem dX12_next_18 : decode cX12_next 18 = .ok (.aload_n 0, 1) := by decide +kernel
theorem dX12_next_19 : decode cX12_next 19 = .ok (.dup, 1) := by decide +kernel
theorem dX12_next_20 : decode cX12_next 20 = .ok (.getfield 381, 3) := by decide +kernel
theorem dX12_next_23 : decode cX12_next 23 = .ok (.iconst 1, 1) := by decide +kernel
theorem dX12_next_24 : decode cX12_next 24 = .ok (.iadd, 1) := by decide +kernel
theorem dX12_next_25 : decode cX12_next 25 = .ok (.putfield 381, 3) := by decide +kernel
theorem dX12_next_28 : decode cX12_next 28 = .ok (.goto (-28), 3) := by decide +kernel
theorem dX12_next_31 : decode cX12_next 31 = .ok (.aload_n 0, 1) := by decide +kernel
theorem dX12_next_32 : decode cX12_next 32 = .ok (.aload_n 0, 1) := by decide +kernel
theorem dX12_next_33 : decode cX12_next 33 = .ok (.getfield 381, 3) := by decide +kernel
theorem dX12_next_36 : decode cX12_next 36 = .ok (.putfield 391, 3) := by decide +kernel
theorem dX12_next_39 : decode cX12_next 39 = .ok (.aload_n 0, 1) := by decide +kernel
theorem dX12_next_40 : decode cX12_next 40 = .ok (.invokevirtual 387, 3) := by decide +kernel
theorem dX12_next_43 : decode cX12_next 43 = .ok (.istore_n 1, 1) := by decide +kernel
theorem dX12_next_44 : decode cX12_next 44 = .ok (.iload_n 1, 1) := by decide +kernel
theorem dX12_next_45 : decode cX12_next 45 = .ok (.iconst (-1), 1) := by decide +kernel
theorem dX12_next_46 : decode cX12_next 46 = .ok (.if_icmp .ne 11, 3) := by decide +kernel
theorem dX12_next_49 : decode cX12_next 49 = .ok (.aload_n 0, 1) := by decide +kernel
theorem dX12_next_50 : decode cX12_next 50 = .ok (.iconst 3, 1) := by decide +kernel
theorem dX12_next_51 : decode cX12_next 51 = .ok (.putfield 394, 3) := by decide +kernel
theorem dX12_next_54 : decode cX12_next 54 = .ok (.goto 233, 3) := by decide +kernel
theorem dX12_next_57 : decode cX12_next 57 = .ok (.iload_n 1, 1) := by decide +kernel
theorem dX12_next_58 : decode cX12_next 58 = .ok (.invokestatic 397, 3) := by decide +kernel
theorem dX12_next_61 : decode cX12_next 61 = .ok (.ifCond .eq 114, 3) := by decide +kernel
theorem dX12_next_64 : decode cX12_next 64 = .ok (.aload_n 0, 1) := by decide +kernel
theorem dX12_next_65 : decode cX12_next 65 = .ok (.lconst 0, 1) := by decide +kernel
theorem dX12_next_66 : decode cX12_next 66 = .ok (.putfield 400, 3) := by decide +kernel
theorem dX12_next_69 : decode cX12_next 69 = .ok (.aload_n 0, 1) := by decide +kernel
theorem dX12_next_70 : decode cX12_next 70 = .ok (.invokevirtual 387, 3) := by decide +kernel
theorem dX12_next_73 : decode cX12_next 73 = .ok (.invokestatic 397, 3) := by decide +kernel
theorem dX12_next_76 : decode cX12_next 76 = .ok (.ifCond .eq 54, 3) := by decide +kernel
theorem dX12_next_79 : decode cX12_next 79 = .ok (.aload_n 0, 1) := by decide +kernel
theorem dX12_next_80 : decode cX12_next 80 = .ok (.getfield 381, 3) := by decide +kernel
theorem dX12_next_83 : decode cX12_next 83 = .ok (.aload_n 0, 1) := by decide +kernel
theorem dX12_next_84 : decode cX12_next 84 = .ok (.getfield 391, 3) := by decide +kernel
theorem dX12_next_87 : decode cX12_next 87 = .ok (.isub, 1) := by decide +kernel
theorem dX12_next_88 : decode cX12_next 88 = .ok (.bipush 8, 2) := by decide +kernel
theorem dX12_next_90 : decode cX12_next 90 = .ok (.if_icmp .ge 27, 3) := by decide +kernel
theorem dX12_next_93 : decode cX12_next 93 = .ok (.aload_n 0, 1) := by decide +kernel
theorem dX12_next_94 : decode cX12_next 94 = .ok (.ldc2_w 404, 3) := by decide +kernel
theorem dX12_next_97 : decode cX12_next 97 = .ok (.aload_n 0, 1) := by decide +kernel
theorem dX12_next_98 : decode cX12_next 98 = .ok (.getfield 400, 3) := by decide +kernel
theorem dX12_next_101 : decode cX12_next 101 = .ok (.lmul, 1) := by decide +kernel
theorem dX12_next_102 : decode cX12_next 102 = .ok (.aload_n 0, 1) := by decide +kernel
theorem dX12_next_103 : decode cX12_next 103 = .ok (.invokevirtual 387, 3) := by decide +kernel
theorem dX12_next_106 : decode cX12_next 106 = .ok (.i2l, 1) := by decide +kernel
theorem dX12_next_107 : decode cX12_next 107 = .ok (.ladd, 1) := by decide +kernel
theorem dX12_next_108 : decode cX12_next 108 = .ok (.ldc2_w 406, 3) := by decide +kernel
theorem dX12_next_111 : decode cX12_next 111 = .ok (.lsub, 1) := by decide +kernel
theorem dX12_next_112 : decode cX12_next 112 = .ok (.lconst 1, 1) := by decide +kernel
theorem dX12_next_113 : decode cX12_next 113 = .ok (.ladd, 1) := by decide +kernel
theorem dX12_next_114 : decode cX12_next 114 = .ok (.putfield 400, 3) := by decide +kernel
theorem dX12_next_117 : decode cX12_next 117 = .ok (.aload_n 0, 1) := by decide +kernel
theorem dX12_next_118 : decode cX12_next 118 = .ok (.dup, 1) := by decide +kernel
theorem dX12_next_119 : decode cX12_next 119 = .ok (.getfield 381, 3) := by decide +kernel
theorem dX12_next_122 : decode cX12_next 122 = .ok (.iconst 1, 1) := by decide +kernel
theorem dX12_next_123 : decode cX12_next 123 = .ok (.iadd, 1) := by decide +kernel
theorem dX12_next_124 : decode cX12_next 124 = .ok (.putfield 381, 3) := by decide +kernel
theorem dX12_next_127 : decode cX12_next 127 = .ok (.goto (-58), 3) := by decide +kernel
theorem dX12_next_130 : decode cX12_next 130 = .ok (.aload_n 0, 1) := by decide +kernel
theorem dX12_next_131 : decode cX12_next 131 = .ok (.aload_n 0, 1) := by decide +kernel
theorem dX12_next_132 : decode cX12_next 132 = .ok (.getfield 381, 3) := by decide +kernel
theorem dX12_next_135 : decode cX12_next 135 = .ok (.aload_n 0, 1) := by decide +kernel
theorem dX12_next_136 : decode cX12_next 136 = .ok (.getfield 391, 3) := by decide +kernel
theorem dX12_next_139 : decode cX12_next 139 = .ok (.isub, 1) := by decide +kernel
theorem dX12_next_140 : decode cX12_next 140 = .ok (.bipush 8, 2) := by decide +kernel
theorem dX12_next_142 : decode cX12_next 142 = .ok (.if_icmp .le 7, 3) := by decide +kernel
theorem dX12_next_145 : decode cX12_next 145 = .ok (.iconst 4, 1) := by decide +kernel
theorem dX12_next_146 : decode cX12_next 146 = .ok (.goto 4, 3) := by decide +kernel
theorem dX12_next_149 : decode cX12_next 149 = .ok (.iconst 0, 1) := by decide +kernel
theorem dX12_next_150 : decode cX12_next 150 = .ok (.putfield 394, 3) := by decide +kernel
theorem dX12_next_153 : decode cX12_next 153 = .ok (.aload_n 0, 1) := by decide +kernel
theorem dX12_next_154 : decode cX12_next 154 = .ok (.aload_n 0, 1) := by decide +kernel
theorem dX12_next_155 : decode cX12_next 155 = .ok (.getfield 394, 3) := by decide +kernel
theorem dX12_next_158 : decode cX12_next 158 = .ok (.ifCond .ne 10, 3) := by decide +kernel
theorem dX12_next_161 : decode cX12_next 161 = .ok (.aload_n 0, 1) := by decide +kernel
theorem dX12_next_162 : decode cX12_next 162 = .ok (.invokevirtual 408, 3) := by decide +kernel
theorem dX12_next_165 : decode cX12_next 165 = .ok (.goto 4, 3) := by decide +kernel
theorem dX12_next_168 : decode cX12_next 168 = .ok (.iconst (-1), 1) := by decide +kernel
theorem dX12_next_169 : decode cX12_next 169 = .ok (.putfield 411, 3) := by decide +kernel
theorem dX12_next_172 : decode cX12_next 172 = .ok (.goto 115, 3) := by decide +kernel
theorem dX12_next_175 : decode cX12_next 175 = .ok (.iload_n 1, 1) := by decide +kernel
theorem dX12_next_176 : decode cX12_next 176 = .ok (.invokestatic 414, 3) := by decide +kernel
theorem dX12_next_179 : decode cX12_next 179 = .ok (.ifCond .eq 72, 3) := by decide +kernel
theorem dX12_next_182 : decode cX12_next 182 = .ok (.aload_n 0, 1) := by decide +kernel
theorem dX12_next_183 : decode cX12_next 183 = .ok (.iconst 1, 1) := by decide +kernel
theorem dX12_next_184 : decode cX12_next 184 = .ok (.putfield 394, 3) := by decide +kernel
theorem dX12_next_187 : decode cX12_next 187 = .ok (.aload_n 0, 1) := by decide +kernel
theorem dX12_next_188 : decode cX12_next 188 = .ok (.iconst 0, 1) := by decide +kernel
theorem dX12_next_189 : decode cX12_next 189 = .ok (.putfield 411, 3) := by decide +kernel
theorem dX12_next_192 : decode cX12_next 192 = .ok (.aload_n 0, 1) := by decide +kernel
theorem dX12_next_193 : decode cX12_next 193 = .ok (.invokevirtual 387, 3) := by decide +kernel
theorem dX12_next_196 : decode cX12_next 196 = .ok (.invokestatic 414, 3) := by decide +kernel
theorem dX12_next_199 : decode cX12_next 199 = .ok (.ifCond .eq 88, 3) := by decide +kernel
theorem dX12_next_202 : decode cX12_next 202 = .ok (.aload_n 0, 1) := by decide +kernel
theorem dX12_next_203 : decode cX12_next 203 = .ok (.aload_n 0, 1) := by decide +kernel
theorem dX12_next_204 : decode cX12_next 204 = .ok (.getfield 411, 3) := by decide +kernel
theorem dX12_next_207 : decode cX12_next 207 = .ok (.sipush 9999, 3) := by decide +kernel
theorem dX12_next_210 : decode cX12_next 210 = .ok (.if_icmp .le 10, 3) := by decide +kernel
theorem dX12_next_213 : decode cX12_next 213 = .ok (.aload_n 0, 1) := by decide +kernel
theorem dX12_next_214 : decode cX12_next 214 = .ok (.getfield 411, 3) := by decide +kernel
theorem dX12_next_217 : decode cX12_next 217 = .ok (.goto 18, 3) := by decide +kernel
theorem dX12_next_220 : decode cX12_next 220 = .ok (.bipush 10, 2) := by decide +kernel
theorem dX12_next_222 : decode cX12_next 222 = .ok (.aload_n 0, 1) := by decide +kernel
theorem dX12_next_223 : decode cX12_next 223 = .ok (.getfield 411, 3) := by decide +kernel
theorem dX12_next_226 : decode cX12_next 226 = .ok (.imul, 1) := by decide +kernel
theorem dX12_next_227 : decode cX12_next 227 = .ok (.aload_n 0, 1) := by decide +kernel
theorem dX12_next_228 : decode cX12_next 228 = .ok (.invokevirtual 387, 3) := by decide +kernel
theorem dX12_next_231 : decode cX12_next 231 = .ok (.iadd, 1) := by decide +kernel
theorem dX12_next_232 : decode cX12_next 232 = .ok (.bipush 48, 2) := by decide +kernel
theorem dX12_next_234 : decode cX12_next 234 = .ok (.isub, 1) := by decide +kernel
theorem dX12_next_235 : decode cX12_next 235 = .ok (.putfield 411, 3) := by decide +kernel
theorem dX12_next_238 : decode cX12_next 238 = .ok (.aload_n 0, 1) := by decide +kernel
theorem dX12_next_239 : decode cX12_next 239 = .ok (.dup, 1) := by decide +kernel
theorem dX12_next_240 : decode cX12_next 240 = .ok (.getfield 381, 3) := by decide +kernel
theorem dX12_next_243 : decode cX12_next 243 = .ok (.iconst 1, 1) := by decide +kernel
theorem dX12_next_244 : decode cX12_next 244 = .ok (.iadd, 1) := by decide +kernel
theorem dX12_next_245 : decode cX12_next 245 = .ok (.putfield 381, 3) := by decide +kernel
theorem dX12_next_248 : decode cX12_next 248 = .ok (.goto (-56), 3) := by decide +kernel
theorem dX12_next_251 : decode cX12_next 251 = .ok (.aload_n 0, 1) := by decide +kernel
theorem dX12_next_252 : decode cX12_next 252 = .ok (.dup, 1) := by decide +kernel
theorem dX12_next_253 : decode cX12_next 253 = .ok (.getfield 381, 3) := by decide +kernel
theorem dX12_next_256 : decode cX12_next 256 = .ok (.iconst 1, 1) := by decide +kernel
theorem dX12_next_257 : decode cX12_next 257 = .ok (.iadd, 1) := by decide +kernel
theorem dX12_next_258 : decode cX12_next 258 = .ok (.putfield 381, 3) := by decide +kernel
theorem dX12_next_261 : decode cX12_next 261 = .ok (.aload_n 0, 1) := by decide +kernel
theorem dX12_next_262 : decode cX12_next 262 = .ok (.iload_n 1, 1) := by decide +kernel
theorem dX12_next_263 : decode cX12_next 263 = .ok (.putfield 411, 3) := by decide +kernel
theorem dX12_next_266 : decode cX12_next 266 = .ok (.aload_n 0, 1) := by decide +kernel
theorem dX12_next_267 : decode cX12_next 267 = .ok (.iload_n 1, 1) := by decide +kernel
theorem dX12_next_268 : decode cX12_next 268 = .ok (.bipush 59, 2) := by decide +kernel
theorem dX12_next_270 : decode cX12_next 270 = .ok (.if_icmp .eq 9, 3) := by decide +kernel
theorem dX12_next_273 : decode cX12_next 273 = .ok (.iload_n 1, 1) := by decide +kernel
theorem dX12_next_274 : decode cX12_next 274 = .ok (.bipush 44, 2) := by decide +kernel
theorem dX12_next_276 : decode cX12_next 276 = .ok (.if_icmp .ne 7, 3) := by decide +kernel
theorem dX12_next_279 : decode cX12_next 279 = .ok (.iconst 2, 1) := by decide +kernel
theorem dX12_next_280 : decode cX12_next 280 = .ok (.goto 4, 3) := by decide +kernel
theorem dX12_next_283 : decode cX12_next 283 = .ok (.iconst 4, 1) := by decide +kernel
theorem dX12_next_284 : decode cX12_next 284 = .ok (.putfield 394, 3) := by decide +kernel
theorem dX12_next_287 : decode cX12_next 287 = .ok (.return_, 1) := by decide +kernel
theorem dX12_reserved_0 : decode cX12_reserved 0 = .ok (.iconst 0, 1) := by decide +kernel
theorem dX12_reserved_1 : decode cX12_reserved 1 = .ok (.istore_n 1, 1) := by decide +kernel
theorem dX12_reserved_2 : decode cX12_reserved 2 = .ok (.iconst 0, 1) := by decide +kernel
theorem dX12_reserved_3 : decode cX12_reserved 3 = .ok (.istore_n 2, 1) := by decide +kernel
theorem dX12_reserved_4 : decode cX12_reserved 4 = .ok (.iload_n 2, 1) := by decide +kernel
theorem dX12_reserved_5 : decode cX12_reserved 5 = .ok (.ldc_w 417, 3) := by decide +kernel
theorem dX12_reserved_8 : decode cX12_reserved 8 = .ok (.invokevirtual 419, 3) := by decide +kernel
theorem dX12_reserved_11 : decode cX12_reserved 11 = .ok (.if_icmp .ge 117, 3) := by decide +kernel
theorem dX12_reserved_14 : decode cX12_reserved 14 = .ok (.iconst 0, 1) := by decide +kernel
theorem dX12_reserved_15 : decode cX12_reserved 15 = .ok (.istore_n 3, 1) := by decide +kernel
theorem dX12_reserved_16 : decode cX12_reserved 16 = .ok (.ldc_w 417, 3) := by decide +kernel
theorem dX12_reserved_19 : decode cX12_reserved 19 = .ok (.iload_n 2, 1) := by decide +kernel
theorem dX12_reserved_20 : decode cX12_reserved 20 = .ok (.iload_n 3, 1) := by decide +kernel
theorem dX12_reserved_21 : decode cX12_reserved 21 = .ok (.iadd, 1) := by decide +kernel
theorem dX12_reserved_22 : decode cX12_reserved 22 = .ok (.invokevirtual 424, 3) := by decide +kernel
theorem dX12_reserved_25 : decode cX12_reserved 25 = .ok (.bipush 32, 2) := by decide +kernel
theorem dX12_reserved_27 : decode cX12_reserved 27 = .ok (.if_icmp .eq 45, 3) := by decide +kernel
theorem dX12_reserved_30 : decode cX12_reserved 30 = .ok (.aload_n 0, 1) := by decide +kernel
theorem dX12_reserved_31 : decode cX12_reserved 31 = .ok (.getfield 391, 3) := by decide +kernel
theorem dX12_reserved_34 : decode cX12_reserved 34 = .ok (.iload_n 3, 1) := by decide +kernel
theorem dX12_reserved_35 : decode cX12_reserved 35 = .ok (.iadd, 1) := by decide +kernel
theorem dX12_reserved_36 : decode cX12_reserved 36 = .ok (.aload_n 0, 1) := by decide +kernel
theorem dX12_reserved_37 : decode cX12_reserved 37 = .ok (.getfield 381, 3) := by decide +kernel
theorem dX12_reserved_40 : decode cX12_reserved 40 = .ok (.if_icmp .ge 32, 3) := by decide +kernel
theorem dX12_reserved_43 : decode cX12_reserved 43 = .ok (.aload_n 0, 1) := by decide +kernel
theorem dX12_reserved_44 : decode cX12_reserved 44 = .ok (.getfield 81, 3) := by decide +kernel
theorem dX12_reserved_47 : decode cX12_reserved 47 = .ok (.aload_n 0, 1) := by decide +kernel
theorem dX12_reserved_48 : decode cX12_reserved 48 = .ok (.getfield 391, 3) := by decide +kernel
theorem dX12_reserved_51 : decode cX12_reserved 51 = .ok (.iload_n 3, 1) := by decide +kernel
theorem dX12_reserved_52 : decode cX12_reserved 52 = .ok (.iadd, 1) := by decide +kernel
theorem dX12_reserved_53 : decode cX12_reserved 53 = .ok (.iaload, 1) := by decide +kernel
theorem dX12_reserved_54 : decode cX12_reserved 54 = .ok (.ldc_w 417, 3) := by decide +kernel
theorem dX12_reserved_57 : decode cX12_reserved 57 = .ok (.iload_n 2, 1) := by decide +kernel
theorem dX12_reserved_58 : decode cX12_reserved 58 = .ok (.iload_n 3, 1) := by decide +kernel
theorem dX12_reserved_59 : decode cX12_reserved 59 = .ok (.iadd, 1) := by decide +kernel
theorem dX12_reserved_60 : decode cX12_reserved 60 = .ok (.invokevirtual 424, 3) := by decide +kernel
theorem dX12_reserved_63 : decode cX12_reserved 63 = .ok (.if_icmp .ne 9, 3) := by decide +kernel
theorem dX12_reserved_66 : decode cX12_reserved 66 = .ok (.iinc 3 1, 3) := by decide +kernel
theorem dX12_reserved_69 : decode cX12_reserved 69 = .ok (.goto (-53), 3) := by decide +kernel
theorem dX12_reserved_72 : decode cX12_reserved 72 = .ok (.ldc_w 417, 3) := by decide +kernel
theorem dX12_reserved_75 : decode cX12_reserved 75 = .ok (.iload_n 2, 1) := by decide +kernel
theorem dX12_reserved_76 : decode cX12_reserved 76 = .ok (.iload_n 3, 1) := by decide +kernel
theorem dX12_reserved_77 : decode cX12_reserved 77 = .ok (.iadd, 1) := by decide +kernel
theorem dX12_reserved_78 : decode cX12_reserved 78 = .ok (.invokevirtual 424, 3) := by decide +kernel
theorem dX12_reserved_81 : decode cX12_reserved 81 = .ok (.bipush 32, 2) := by decide +kernel
theorem dX12_reserved_83 : decode cX12_reserved 83 = .ok (.if_icmp .ne 18, 3) := by decide +kernel
theorem dX12_reserved_86 : decode cX12_reserved 86 = .ok (.aload_n 0, 1) := by decide +kernel
theorem dX12_reserved_87 : decode cX12_reserved 87 = .ok (.getfield 391, 3) := by decide +kernel
theorem dX12_reserved_90 : decode cX12_reserved 90 = .ok (.iload_n 3, 1) := by decide +kernel
theorem dX12_reserved_91 : decode cX12_reserved 91 = .ok (.iadd, 1) := by decide +kernel
theorem dX12_reserved_92 : decode cX12_reserved 92 = .ok (.aload_n 0, 1) := by decide +kernel
theorem dX12_reserved_93 : decode cX12_reserved 93 = .ok (.getfield 381, 3) := by decide +kernel
theorem dX12_reserved_96 : decode cX12_reserved 96 = .ok (.if_icmp .ne 5, 3) := by decide +kernel
theorem dX12_reserved_99 : decode cX12_reserved 99 = .ok (.iload_n 1, 1) := by decide +kernel
theorem dX12_reserved_100 : decode cX12_reserved 100 = .ok (.ireturn, 1) := by decide +kernel
theorem dX12_reserved_101 : decode cX12_reserved 101 = .ok (.ldc_w 417, 3) := by decide +kernel
theorem dX12_reserved_104 : decode cX12_reserved 104 = .ok (.iload_n 2, 1) := by decide +kernel
theorem dX12_reserved_105 : decode cX12_reserved 105 = .ok (.invokevirtual 424, 3) := by decide +kernel
theorem dX12_reserved_108 : decode cX12_reserved 108 = .ok (.bipush 32, 2) := by decide +kernel
theorem dX12_reserved_110 : decode cX12_reserved 110 = .ok (.if_icmp .eq 9, 3) := by decide +kernel
theorem dX12_reserved_113 : decode cX12_reserved 113 = .ok (.iinc 2 1, 3) := by decide +kernel
theorem dX12_reserved_116 : decode cX12_reserved 116 = .ok (.goto (-15), 3) := by decide +kernel
theorem dX12_reserved_119 : decode cX12_reserved 119 = .ok (.iinc 2 1, 3) := by decide +kernel
theorem dX12_reserved_122 : decode cX12_reserved 122 = .ok (.iinc 1 1, 3) := by decide +kernel
theorem dX12_reserved_125 : decode cX12_reserved 125 = .ok (.goto (-121), 3) := by decide +kernel
theorem dX12_reserved_128 : decode cX12_reserved 128 = .ok (.iconst (-1), 1) := by decide +kernel
theorem dX12_reserved_129 : decode cX12_reserved 129 = .ok (.ireturn, 1) := by decide +kernel
theorem dX12_wrongAt_0 : decode cX12_wrongAt 0 = .ok (.aload_n 0, 1) := by decide +kernel
theorem dX12_wrongAt_1 : decode cX12_wrongAt 1 = .ok (.getfield 428, 3) := by decide +kernel
theorem dX12_wrongAt_4 : decode cX12_wrongAt 4 = .ok (.ifCond .eq 4, 3) := by decide +kernel
theorem dX12_wrongAt_7 : decode cX12_wrongAt 7 = .ok (.return_, 1) := by decide +kernel
theorem dX12_wrongAt_8 : decode cX12_wrongAt 8 = .ok (.aload_n 0, 1) := by decide +kernel
theorem dX12_wrongAt_9 : decode cX12_wrongAt 9 = .ok (.iload_n 1, 1) := by decide +kernel
theorem dX12_wrongAt_10 : decode cX12_wrongAt 10 = .ok (.putfield 428, 3) := by decide +kernel
theorem dX12_wrongAt_13 : decode cX12_wrongAt 13 = .ok (.aload_n 0, 1) := by decide +kernel
theorem dX12_wrongAt_14 : decode cX12_wrongAt 14 = .ok (.iload_n 2, 1) := by decide +kernel
theorem dX12_wrongAt_15 : decode cX12_wrongAt 15 = .ok (.putfield 431, 3) := by decide +kernel
theorem dX12_wrongAt_18 : decode cX12_wrongAt 18 = .ok (.return_, 1) := by decide +kernel
theorem dX12_wrong_0 : decode cX12_wrong 0 = .ok (.aload_n 0, 1) := by decide +kernel
theorem dX12_wrong_1 : decode cX12_wrong 1 = .ok (.iload_n 1, 1) := by decide +kernel
theorem dX12_wrong_2 : decode cX12_wrong 2 = .ok (.aload_n 0, 1) := by decide +kernel
theorem dX12_wrong_3 : decode cX12_wrong 3 = .ok (.getfield 391, 3) := by decide +kernel
theorem dX12_wrong_6 : decode cX12_wrong 6 = .ok (.invokevirtual 434, 3) := by decide +kernel
theorem dX12_wrong_9 : decode cX12_wrong 9 = .ok (.return_, 1) := by decide +kernel
theorem dX12_number_0 : decode cX12_number 0 = .ok (.aload_n 0, 1) := by decide +kernel
theorem dX12_number_1 : decode cX12_number 1 = .ok (.getfield 428, 3) := by decide +kernel
theorem dX12_number_4 : decode cX12_number 4 = .ok (.ifCond .eq 5, 3) := by decide +kernel
theorem dX12_number_7 : decode cX12_number 7 = .ok (.iconst 0, 1) := by decide +kernel
theorem dX12_number_8 : decode cX12_number 8 = .ok (.ireturn, 1) := by decide +kernel
theorem dX12_number_9 : decode cX12_number 9 = .ok (.aload_n 0, 1) := by decide +kernel
theorem dX12_number_10 : decode cX12_number 10 = .ok (.getfield 394, 3) := by decide +kernel
theorem dX12_number_13 : decode cX12_number 13 = .ok (.iconst 1, 1) := by decide +kernel
theorem dX12_number_14 : decode cX12_number 14 = .ok (.if_icmp .eq 11, 3) := by decide +kernel
theorem dX12_number_17 : decode cX12_number 17 = .ok (.aload_n 0, 1) := by decide +kernel
theorem dX12_number_18 : decode cX12_number 18 = .ok (.iconst 1, 1) := by decide +kernel
theorem dX12_number_19 : decode cX12_number 19 = .ok (.invokevirtual 437, 3) := by decide +kernel
theorem dX12_number_22 : decode cX12_number 22 = .ok (.goto 24, 3) := by decide +kernel
theorem dX12_number_25 : decode cX12_number 25 = .ok (.aload_n 0, 1) := by decide +kernel
theorem dX12_number_26 : decode cX12_number 26 = .ok (.getfield 411, 3) := by decide +kernel
theorem dX12_number_29 : decode cX12_number 29 = .ok (.iload_n 1, 1) := by decide +kernel
theorem dX12_number_30 : decode cX12_number 30 = .ok (.if_icmp .lt 11, 3) := by decide +kernel
theorem dX12_number_33 : decode cX12_number 33 = .ok (.aload_n 0, 1) := by decide +kernel
theorem dX12_number_34 : decode cX12_number 34 = .ok (.getfield 411, 3) := by decide +kernel
theorem dX12_number_37 : decode cX12_number 37 = .ok (.iload_n 2, 1) := by decide +kernel
theorem dX12_number_38 : decode cX12_number 38 = .ok (.if_icmp .le 8, 3) := by decide +kernel
theorem dX12_number_41 : decode cX12_number 41 = .ok (.aload_n 0, 1) := by decide +kernel
theorem dX12_number_42 : decode cX12_number 42 = .ok (.iconst 2, 1) := by decide +kernel
theorem dX12_number_43 : decode cX12_number 43 = .ok (.invokevirtual 437, 3) := by decide +kernel
theorem dX12_number_46 : decode cX12_number 46 = .ok (.aload_n 0, 1) := by decide +kernel
theorem dX12_number_47 : decode cX12_number 47 = .ok (.getfield 428, 3) := by decide +kernel
theorem dX12_number_50 : decode cX12_number 50 = .ok (.ifCond .eq 5, 3) := by decide +kernel
theorem dX12_number_53 : decode cX12_number 53 = .ok (.iconst 0, 1) := by decide +kernel
theorem dX12_number_54 : decode cX12_number 54 = .ok (.ireturn, 1) := by decide +kernel
theorem dX12_number_55 : decode cX12_number 55 = .ok (.aload_n 0, 1) := by decide +kernel
theorem dX12_number_56 : decode cX12_number 56 = .ok (.getfield 411, 3) := by decide +kernel
theorem dX12_number_59 : decode cX12_number 59 = .ok (.istore_n 3, 1) := by decide +kernel
theorem dX12_number_60 : decode cX12_number 60 = .ok (.aload_n 0, 1) := by decide +kernel
theorem dX12_number_61 : decode cX12_number 61 = .ok (.invokevirtual 440, 3) := by decide +kernel
theorem dX12_number_64 : decode cX12_number 64 = .ok (.iload_n 3, 1) := by decide +kernel
theorem dX12_number_65 : decode cX12_number 65 = .ok (.ireturn, 1) := by decide +kernel
theorem dX12_isReserved_0 : decode cX12_isReserved 0 = .ok (.aload_n 0, 1) := by decide +kernel
theorem dX12_isReserved_1 : decode cX12_isReserved 1 = .ok (.getfield 394, 3) := by decide +kernel
theorem dX12_isReserved_4 : decode cX12_isReserved 4 = .ok (.ifCond .ne 15, 3) := by decide +kernel
theorem dX12_isReserved_7 : decode cX12_isReserved 7 = .ok (.aload_n 0, 1) := by decide +kernel
theorem dX12_isReserved_8 : decode cX12_isReserved 8 = .ok (.getfield 411, 3) := by decide +kernel
theorem dX12_isReserved_11 : decode cX12_isReserved 11 = .ok (.iload_n 1, 1) := by decide +kernel
theorem dX12_isReserved_12 : decode cX12_isReserved 12 = .ok (.if_icmp .ne 7, 3) := by decide +kernel
theorem dX12_isReserved_15 : decode cX12_isReserved 15 = .ok (.iconst 1, 1) := by decide +kernel
theorem dX12_isReserved_16 : decode cX12_isReserved 16 = .ok (.goto 4, 3) := by decide +kernel
theorem dX12_isReserved_19 : decode cX12_isReserved 19 = .ok (.iconst 0, 1) := by decide +kernel
theorem dX12_isReserved_20 : decode cX12_isReserved 20 = .ok (.ireturn, 1) := by decide +kernel
theorem dX12_wants_0 : decode cX12_wants 0 = .ok (.aload_n 0, 1) := by decide +kernel
theorem dX12_wants_1 : decode cX12_wants 1 = .ok (.getfield 428, 3) := by decide +kernel
theorem dX12_wants_4 : decode cX12_wants 4 = .ok (.ifCond .eq 4, 3) := by decide +kernel
theorem dX12_wants_7 : decode cX12_wants 7 = .ok (.return_, 1) := by decide +kernel
theorem dX12_wants_8 : decode cX12_wants 8 = .ok (.aload_n 0, 1) := by decide +kernel
theorem dX12_wants_9 : decode cX12_wants 9 = .ok (.iload_n 1, 1) := by decide +kernel
theorem dX12_wants_10 : decode cX12_wants 10 = .ok (.invokevirtual 443, 3) := by decide +kernel
theorem dX12_wants_13 : decode cX12_wants 13 = .ok (.ifCond .ne 11, 3) := by decide +kernel
theorem dX12_wants_16 : decode cX12_wants 16 = .ok (.aload_n 0, 1) := by decide +kernel
theorem dX12_wants_17 : decode cX12_wants 17 = .ok (.iconst 1, 1) := by decide +kernel
theorem dX12_wants_18 : decode cX12_wants 18 = .ok (.invokevirtual 437, 3) := by decide +kernel
theorem dX12_wants_21 : decode cX12_wants 21 = .ok (.goto 7, 3) := by decide +kernel
theorem dX12_wants_24 : decode cX12_wants 24 = .ok (.aload_n 0, 1) := by decide +kernel
theorem dX12_wants_25 : decode cX12_wants 25 = .ok (.invokevirtual 440, 3) := by decide +kernel
theorem dX12_wants_28 : decode cX12_wants 28 = .ok (.return_, 1) := by decide +kernel
theorem dX12_name_0 : decode cX12_name 0 = .ok (.aload_n 0, 1) := by decide +kernel
theorem dX12_name_1 : decode cX12_name 1 = .ok (.getfield 428, 3) := by decide +kernel
theorem dX12_name_4 : decode cX12_name 4 = .ok (.ifCond .eq 5, 3) := by decide +kernel
theorem dX12_name_7 : decode cX12_name 7 = .ok (.lconst 0, 1) := by decide +kernel
theorem dX12_name_8 : decode cX12_name 8 = .ok (.lreturn, 1) := by decide +kernel
theorem dX12_name_9 : decode cX12_name 9 = .ok (.aload_n 0, 1) := by decide +kernel
theorem dX12_name_10 : decode cX12_name 10 = .ok (.getfield 394, 3) := by decide +kernel
theorem dX12_name_13 : decode cX12_name 13 = .ok (.ifCond .ne 11, 3) := by decide +kernel
theorem dX12_name_16 : decode cX12_name 16 = .ok (.aload_n 0, 1) := by decide +kernel
theorem dX12_name_17 : decode cX12_name 17 = .ok (.getfield 411, 3) := by decide +kernel
theorem dX12_name_20 : decode cX12_name 20 = .ok (.iconst (-1), 1) := by decide +kernel
theorem dX12_name_21 : decode cX12_name 21 = .ok (.if_icmp .eq 8, 3) := by decide +kernel
theorem dX12_name_24 : decode cX12_name 24 = .ok (.aload_n 0, 1) := by decide +kernel
theorem dX12_name_25 : decode cX12_name 25 = .ok (.iconst 1, 1) := by decide +kernel
theorem dX12_name_26 : decode cX12_name 26 = .ok (.invokevirtual 437, 3) := by decide +kernel
theorem dX12_name_29 : decode cX12_name 29 = .ok (.aload_n 0, 1) := by decide +kernel
theorem dX12_name_30 : decode cX12_name 30 = .ok (.getfield 428, 3) := by decide +kernel
theorem dX12_name_33 : decode cX12_name 33 = .ok (.ifCond .eq 5, 3) := by decide +kernel
theorem dX12_name_36 : decode cX12_name 36 = .ok (.lconst 0, 1) := by decide +kernel
theorem dX12_name_37 : decode cX12_name 37 = .ok (.lreturn, 1) := by decide +kernel
theorem dX12_name_38 : decode cX12_name 38 = .ok (.aload_n 0, 1) := by decide +kernel
theorem dX12_name_39 : decode cX12_name 39 = .ok (.getfield 400, 3) := by decide +kernel
theorem dX12_name_42 : decode cX12_name 42 = .ok (.lstore_n 1, 1) := by decide +kernel
theorem dX12_name_43 : decode cX12_name 43 = .ok (.aload_n 0, 1) := by decide +kernel
theorem dX12_name_44 : decode cX12_name 44 = .ok (.invokevirtual 440, 3) := by decide +kernel
theorem dX12_name_47 : decode cX12_name 47 = .ok (.lload_n 1, 1) := by decide +kernel
theorem dX12_name_48 : decode cX12_name 48 = .ok (.lreturn, 1) := by decide +kernel
theorem dX12_line_0 : decode cX12_line 0 = .ok (.aload_n 0, 1) := by decide +kernel
theorem dX12_line_1 : decode cX12_line 1 = .ok (.getfield 394, 3) := by decide +kernel
theorem dX12_line_4 : decode cX12_line 4 = .ok (.ifCond .ne 19, 3) := by decide +kernel
theorem dX12_line_7 : decode cX12_line 7 = .ok (.aload_n 0, 1) := by decide +kernel
theorem dX12_line_8 : decode cX12_line 8 = .ok (.getfield 411, 3) := by decide +kernel
theorem dX12_line_11 : decode cX12_line 11 = .ok (.iconst (-1), 1) := by decide +kernel
theorem dX12_line_12 : decode cX12_line 12 = .ok (.if_icmp .eq 11, 3) := by decide +kernel
theorem dX12_line_15 : decode cX12_line 15 = .ok (.aload_n 0, 1) := by decide +kernel
theorem dX12_line_16 : decode cX12_line 16 = .ok (.getfield 411, 3) := by decide +kernel
theorem dX12_line_19 : decode cX12_line 19 = .ok (.iconst 4, 1) := by decide +kernel
theorem dX12_line_20 : decode cX12_line 20 = .ok (.if_icmp .le 9, 3) := by decide +kernel
theorem dX12_line_23 : decode cX12_line 23 = .ok (.aload_n 0, 1) := by decide +kernel
theorem dX12_line_24 : decode cX12_line 24 = .ok (.iconst 1, 1) := by decide +kernel
theorem dX12_line_25 : decode cX12_line 25 = .ok (.invokevirtual 437, 3) := by decide +kernel
theorem dX12_line_28 : decode cX12_line 28 = .ok (.return_, 1) := by decide +kernel
theorem dX12_line_29 : decode cX12_line 29 = .ok (.aload_n 0, 1) := by decide +kernel
theorem dX12_line_30 : decode cX12_line 30 = .ok (.getfield 411, 3) := by decide +kernel
theorem dX12_line_33 : decode cX12_line 33 = .ok (.istore_n 1, 1) := by decide +kernel
theorem dX12_line_34 : decode cX12_line 34 = .ok (.iload_n 1, 1) := by decide +kernel
theorem dX12_line_35 : decode cX12_line 35 = .ok (.ifCond .ne 14, 3) := by decide +kernel
theorem dX12_line_38 : decode cX12_line 38 = .ok (.aload_n 0, 1) := by decide +kernel
theorem dX12_line_39 : decode cX12_line 39 = .ok (.getfield 84, 3) := by decide +kernel
theorem dX12_line_42 : decode cX12_line 42 = .ok (.iconst 1, 1) := by decide +kernel
theorem dX12_line_43 : decode cX12_line 43 = .ok (.iaload, 1) := by decide +kernel
theorem dX12_line_44 : decode cX12_line 44 = .ok (.bipush 10, 2) := by decide +kernel
theorem dX12_line_46 : decode cX12_line 46 = .ok (.if_icmp .eq 35, 3) := by decide +kernel
theorem dX12_line_49 : decode cX12_line 49 = .ok (.iload_n 1, 1) := by decide +kernel
theorem dX12_line_50 : decode cX12_line 50 = .ok (.iconst 1, 1) := by decide +kernel
theorem dX12_line_51 : decode cX12_line 51 = .ok (.if_icmp .ne 14, 3) := by decide +kernel
theorem dX12_line_54 : decode cX12_line 54 = .ok (.aload_n 0, 1) := by decide +kernel
theorem dX12_line_55 : decode cX12_line 55 = .ok (.getfield 97, 3) := by decide +kernel
theorem dX12_line_58 : decode cX12_line 58 = .ok (.iconst 1, 1) := by decide +kernel
theorem dX12_line_59 : decode cX12_line 59 = .ok (.iaload, 1) := by decide +kernel
theorem dX12_line_60 : decode cX12_line 60 = .ok (.bipush 8, 2) := by decide +kernel
theorem dX12_line_62 : decode cX12_line 62 = .ok (.if_icmp .eq 19, 3) := by decide +kernel
theorem dX12_line_65 : decode cX12_line 65 = .ok (.iload_n 1, 1) := by decide +kernel
theorem dX12_line_66 : decode cX12_line 66 = .ok (.iconst 4, 1) := by decide +kernel
theorem dX12_line_67 : decode cX12_line 67 = .ok (.if_icmp .ne 19, 3) := by decide +kernel
theorem dX12_line_70 : decode cX12_line 70 = .ok (.aload_n 0, 1) := by decide +kernel
theorem dX12_line_71 : decode cX12_line 71 = .ok (.getfield 112, 3) := by decide +kernel
theorem dX12_line_74 : decode cX12_line 74 = .ok (.iconst 1, 1) := by decide +kernel
theorem dX12_line_75 : decode cX12_line 75 = .ok (.iaload, 1) := by decide +kernel
theorem dX12_line_76 : decode cX12_line 76 = .ok (.bipush 16, 2) := by decide +kernel
theorem dX12_line_78 : decode cX12_line 78 = .ok (.if_icmp .ne 8, 3) := by decide +kernel
theorem dX12_line_81 : decode cX12_line 81 = .ok (.aload_n 0, 1) := by decide +kernel
theorem dX12_line_82 : decode cX12_line 82 = .ok (.iconst 2, 1) := by decide +kernel
theorem dX12_line_83 : decode cX12_line 83 = .ok (.invokevirtual 437, 3) := by decide +kernel
theorem dX12_line_86 : decode cX12_line 86 = .ok (.iload_n 1, 1) := by decide +kernel
theorem dX12_line_87 : decode cX12_line 87 = .ok (.iconst 2, 1) := by decide +kernel
theorem dX12_line_88 : decode cX12_line 88 = .ok (.if_icmp .ne 10, 3) := by decide +kernel
theorem dX12_line_91 : decode cX12_line 91 = .ok (.aload_n 0, 1) := by decide +kernel
theorem dX12_line_92 : decode cX12_line 92 = .ok (.getfield 446, 3) := by decide +kernel
theorem dX12_line_95 : decode cX12_line 95 = .ok (.ifCond .ne 15, 3) := by decide +kernel
theorem dX12_line_98 : decode cX12_line 98 = .ok (.iload_n 1, 1) := by decide +kernel
theorem dX12_line_99 : decode cX12_line 99 = .ok (.iconst 3, 1) := by decide +kernel
theorem dX12_line_100 : decode cX12_line 100 = .ok (.if_icmp .ne 15, 3) := by decide +kernel
theorem dX12_line_103 : decode cX12_line 103 = .ok (.aload_n 0, 1) := by decide +kernel
theorem dX12_line_104 : decode cX12_line 104 = .ok (.getfield 449, 3) := by decide +kernel
theorem dX12_line_107 : decode cX12_line 107 = .ok (.ifCond .eq 8, 3) := by decide +kernel
theorem dX12_line_110 : decode cX12_line 110 = .ok (.aload_n 0, 1) := by decide +kernel
theorem dX12_line_111 : decode cX12_line 111 = .ok (.iconst 3, 1) := by decide +kernel
theorem dX12_line_112 : decode cX12_line 112 = .ok (.invokevirtual 437, 3) := by decide +kernel
theorem dX12_line_115 : decode cX12_line 115 = .ok (.aload_n 0, 1) := by decide +kernel
theorem dX12_line_116 : decode cX12_line 116 = .ok (.getfield 428, 3) := by decide +kernel
theorem dX12_line_119 : decode cX12_line 119 = .ok (.ifCond .eq 4, 3) := by decide +kernel
theorem dX12_line_122 : decode cX12_line 122 = .ok (.return_, 1) := by decide +kernel
theorem dX12_line_123 : decode cX12_line 123 = .ok (.aload_n 0, 1) := by decide +kernel
theorem dX12_line_124 : decode cX12_line 124 = .ok (.invokevirtual 440, 3) := by decide +kernel
theorem dX12_line_127 : decode cX12_line 127 = .ok (.iload_n 1, 1) := by decide +kernel
theorem dX12_line_128 : decode cX12_line 128 = .ok (.ifCond .ne 10, 3) := by decide +kernel
theorem dX12_line_131 : decode cX12_line 131 = .ok (.aload_n 0, 1) := by decide +kernel
theorem dX12_line_132 : decode cX12_line 132 = .ok (.invokevirtual 452, 3) := by decide +kernel
theorem dX12_line_135 : decode cX12_line 135 = .ok (.goto 119, 3) := by decide +kernel
theorem dX12_line_138 : decode cX12_line 138 = .ok (.iload_n 1, 1) := by decide +kernel
theorem dX12_line_139 : decode cX12_line 139 = .ok (.iconst 1, 1) := by decide +kernel
theorem dX12_line_140 : decode cX12_line 140 = .ok (.if_icmp .ne 58, 3) := by decide +kernel
theorem dX12_line_143 : decode cX12_line 143 = .ok (.aload_n 0, 1) := by decide +kernel
theorem dX12_line_144 : decode cX12_line 144 = .ok (.getfield 100, 3) := by decide +kernel
theorem dX12_line_147 : decode cX12_line 147 = .ok (.bipush 8, 2) := by decide +kernel
theorem dX12_line_149 : decode cX12_line 149 = .ok (.aload_n 0, 1) := by decide +kernel
theorem dX12_line_150 : decode cX12_line 150 = .ok (.getfield 97, 3) := by decide +kernel
theorem dX12_line_153 : decode cX12_line 153 = .ok (.iconst 1, 1) := by decide +kernel
theorem dX12_line_154 : decode cX12_line 154 = .ok (.iaload, 1) := by decide +kernel
theorem dX12_line_155 : decode cX12_line 155 = .ok (.iadd, 1) := by decide +kernel
theorem dX12_line_156 : decode cX12_line 156 = .ok (.aload_n 0, 1) := by decide +kernel
theorem dX12_line_157 : decode cX12_line 157 = .ok (.iconst 1, 1) := by decide +kernel
theorem dX12_line_158 : decode cX12_line 158 = .ok (.bipush 9, 2) := by decide +kernel
theorem dX12_line_160 : decode cX12_line 160 = .ok (.invokevirtual 455, 3) := by decide +kernel
theorem dX12_line_163 : decode cX12_line 163 = .ok (.iastore, 1) := by decide +kernel
theorem dX12_line_164 : decode cX12_line 164 = .ok (.aload_n 0, 1) := by decide +kernel
theorem dX12_line_165 : decode cX12_line 165 = .ok (.getfield 103, 3) := by decide +kernel
theorem dX12_line_168 : decode cX12_line 168 = .ok (.bipush 8, 2) := by decide +kernel
theorem dX12_line_170 : decode cX12_line 170 = .ok (.aload_n 0, 1) := by decide +kernel
theorem dX12_line_171 : decode cX12_line 171 = .ok (.getfield 97, 3) := by decide +kernel
theorem dX12_line_174 : decode cX12_line 174 = .ok (.iconst 1, 1) := by decide +kernel
theorem dX12_line_175 : decode cX12_line 175 = .ok (.iaload, 1) := by decide +kernel
theorem dX12_line_176 : decode cX12_line 176 = .ok (.iadd, 1) := by decide +kernel
theorem dX12_line_177 : decode cX12_line 177 = .ok (.aload_n 0, 1) := by decide +kernel
theorem dX12_line_178 : decode cX12_line 178 = .ok (.iconst 1, 1) := by decide +kernel
theorem dX12_line_179 : decode cX12_line 179 = .ok (.bipush 9, 2) := by decide +kernel
theorem dX12_line_181 : decode cX12_line 181 = .ok (.invokevirtual 455, 3) := by decide +kernel
theorem dX12_line_184 : decode cX12_line 184 = .ok (.iastore, 1) := by decide +kernel
theorem dX12_line_185 : decode cX12_line 185 = .ok (.aload_n 0, 1) := by decide +kernel
theorem dX12_line_186 : decode cX12_line 186 = .ok (.getfield 97, 3) := by decide +kernel
theorem dX12_line_189 : decode cX12_line 189 = .ok (.iconst 1, 1) := by decide +kernel
theorem dX12_line_190 : decode cX12_line 190 = .ok (.dup2, 1) := by decide +kernel
theorem dX12_line_191 : decode cX12_line 191 = .ok (.iaload, 1) := by decide +kernel
theorem dX12_line_192 : decode cX12_line 192 = .ok (.iconst 1, 1) := by decide +kernel
theorem dX12_line_193 : decode cX12_line 193 = .ok (.iadd, 1) := by decide +kernel
theorem dX12_line_194 : decode cX12_line 194 = .ok (.iastore, 1) := by decide +kernel
theorem dX12_line_195 : decode cX12_line 195 = .ok (.goto 59, 3) := by decide +kernel
theorem dX12_line_198 : decode cX12_line 198 = .ok (.iload_n 1, 1) := by decide +kernel
theorem dX12_line_199 : decode cX12_line 199 = .ok (.iconst 2, 1) := by decide +kernel
theorem dX12_line_200 : decode cX12_line 200 = .ok (.if_icmp .ne 24, 3) := by decide +kernel
theorem dX12_line_203 : decode cX12_line 203 = .ok (.aload_n 0, 1) := by decide +kernel
theorem dX12_line_204 : decode cX12_line 204 = .ok (.iconst 1, 1) := by decide +kernel
theorem dX12_line_205 : decode cX12_line 205 = .ok (.putfield 446, 3) := by decide +kernel
theorem dX12_line_208 : decode cX12_line 208 = .ok (.aload_n 0, 1) := by decide +kernel
theorem dX12_line_209 : decode cX12_line 209 = .ok (.getfield 106, 3) := by decide +kernel
theorem dX12_line_212 : decode cX12_line 212 = .ok (.iconst 1, 1) := by decide +kernel
theorem dX12_line_213 : decode cX12_line 213 = .ok (.aload_n 0, 1) := by decide +kernel
theorem dX12_line_214 : decode cX12_line 214 = .ok (.iconst 1, 1) := by decide +kernel
theorem dX12_line_215 : decode cX12_line 215 = .ok (.bipush 9, 2) := by decide +kernel
theorem dX12_line_217 : decode cX12_line 217 = .ok (.invokevirtual 455, 3) := by decide +kernel
theorem dX12_line_220 : decode cX12_line 220 = .ok (.iastore, 1) := by decide +kernel
theorem dX12_line_221 : decode cX12_line 221 = .ok (.goto 33, 3) := by decide +kernel
theorem dX12_line_224 : decode cX12_line 224 = .ok (.iload_n 1, 1) := by decide +kernel
theorem dX12_line_225 : decode cX12_line 225 = .ok (.iconst 3, 1) := by decide +kernel
theorem dX12_line_226 : decode cX12_line 226 = .ok (.if_icmp .ne 24, 3) := by decide +kernel
theorem dX12_line_229 : decode cX12_line 229 = .ok (.aload_n 0, 1) := by decide +kernel
theorem dX12_line_230 : decode cX12_line 230 = .ok (.iconst 1, 1) := by decide +kernel
theorem dX12_line_231 : decode cX12_line 231 = .ok (.putfield 449, 3) := by decide +kernel
theorem dX12_line_234 : decode cX12_line 234 = .ok (.aload_n 0, 1) := by decide +kernel
theorem dX12_line_235 : decode cX12_line 235 = .ok (.getfield 109, 3) := by decide +kernel
theorem dX12_line_238 : decode cX12_line 238 = .ok (.iconst 1, 1) := by decide +kernel
theorem dX12_line_239 : decode cX12_line 239 = .ok (.aload_n 0, 1) := by decide +kernel
theorem dX12_line_240 : decode cX12_line 240 = .ok (.iconst 0, 1) := by decide +kernel
theorem dX12_line_241 : decode cX12_line 241 = .ok (.bipush 30, 2) := by decide +kernel
theorem dX12_line_243 : decode cX12_line 243 = .ok (.invokevirtual 455, 3) := by decide +kernel
theorem dX12_line_246 : decode cX12_line 246 = .ok (.iastore, 1) := by decide +kernel
theorem dX12_line_247 : decode cX12_line 247 = .ok (.goto 7, 3) := by decide +kernel
theorem dX12_line_250 : decode cX12_line 250 = .ok (.aload_n 0, 1) := by decide +kernel
theorem dX12_line_251 : decode cX12_line 251 = .ok (.invokevirtual 458, 3) := by decide +kernel
theorem dX12_line_254 : decode cX12_line 254 = .ok (.aload_n 0, 1) := by decide +kernel
theorem dX12_line_255 : decode cX12_line 255 = .ok (.getfield 428, 3) := by decide +kernel
theorem dX12_line_258 : decode cX12_line 258 = .ok (.ifCond .eq 4, 3) := by decide +kernel
theorem dX12_line_261 : decode cX12_line 261 = .ok (.return_, 1) := by decide +kernel
theorem dX12_line_262 : decode cX12_line 262 = .ok (.aload_n 0, 1) := by decide +kernel
theorem dX12_line_263 : decode cX12_line 263 = .ok (.getfield 394, 3) := by decide +kernel
theorem dX12_line_266 : decode cX12_line 266 = .ok (.iconst 2, 1) := by decide +kernel
theorem dX12_line_267 : decode cX12_line 267 = .ok (.if_icmp .ne 12, 3) := by decide +kernel
theorem dX12_line_270 : decode cX12_line 270 = .ok (.aload_n 0, 1) := by decide +kernel
theorem dX12_line_271 : decode cX12_line 271 = .ok (.getfield 411, 3) := by decide +kernel
theorem dX12_line_274 : decode cX12_line 274 = .ok (.bipush 59, 2) := by decide +kernel
theorem dX12_line_276 : decode cX12_line 276 = .ok (.if_icmp .eq 11, 3) := by decide +kernel
theorem dX12_line_279 : decode cX12_line 279 = .ok (.aload_n 0, 1) := by decide +kernel
theorem dX12_line_280 : decode cX12_line 280 = .ok (.iconst 1, 1) := by decide +kernel
theorem dX12_line_281 : decode cX12_line 281 = .ok (.invokevirtual 437, 3) := by decide +kernel
theorem dX12_line_284 : decode cX12_line 284 = .ok (.goto 7, 3) := by decide +kernel
theorem dX12_line_287 : decode cX12_line 287 = .ok (.aload_n 0, 1) := by decide +kernel
theorem dX12_line_288 : decode cX12_line 288 = .ok (.invokevirtual 440, 3) := by decide +kernel
theorem dX12_line_291 : decode cX12_line 291 = .ok (.return_, 1) := by decide +kernel
theorem dX12_wordOf_0 : decode cX12_wordOf 0 = .ok (.iconst 0, 1) := by decide +kernel
theorem dX12_wordOf_1 : decode cX12_wordOf 1 = .ok (.istore 5, 2) := by decide +kernel
theorem dX12_wordOf_3 : decode cX12_wordOf 3 = .ok (.iload 5, 2) := by decide +kernel
theorem dX12_wordOf_5 : decode cX12_wordOf 5 = .ok (.iload 4, 2) := by decide +kernel
theorem dX12_wordOf_7 : decode cX12_wordOf 7 = .ok (.if_icmp .ge 26, 3) := by decide +kernel
theorem dX12_wordOf_10 : decode cX12_wordOf 10 = .ok (.aload_n 0, 1) := by decide +kernel
theorem dX12_wordOf_11 : decode cX12_wordOf 11 = .ok (.getfield 87, 3) := by decide +kernel
theorem dX12_wordOf_14 : decode cX12_wordOf 14 = .ok (.iload_n 3, 1) := by decide +kernel
theorem dX12_wordOf_15 : decode cX12_wordOf 15 = .ok (.iload 5, 2) := by decide +kernel
theorem dX12_wordOf_17 : decode cX12_wordOf 17 = .ok (.iadd, 1) := by decide +kernel
theorem dX12_wordOf_18 : decode cX12_wordOf 18 = .ok (.laload, 1) := by decide +kernel
theorem dX12_wordOf_19 : decode cX12_wordOf 19 = .ok (.lload_n 1, 1) := by decide +kernel
theorem dX12_wordOf_20 : decode cX12_wordOf 20 = .ok (.lcmp, 1) := by decide +kernel
theorem dX12_wordOf_21 : decode cX12_wordOf 21 = .ok (.ifCond .ne 6, 3) := by decide +kernel
theorem dX12_wordOf_24 : decode cX12_wordOf 24 = .ok (.iload 5, 2) := by decide +kernel
theorem dX12_wordOf_26 : decode cX12_wordOf 26 = .ok (.ireturn, 1) := by decide +kernel
theorem dX12_wordOf_27 : decode cX12_wordOf 27 = .ok (.iinc 5 1, 3) := by decide +kernel
theorem dX12_wordOf_30 : decode cX12_wordOf 30 = .ok (.goto (-27), 3) := by decide +kernel
theorem dX12_wordOf_33 : decode cX12_wordOf 33 = .ok (.iconst (-1), 1) := by decide +kernel
theorem dX12_wordOf_34 : decode cX12_wordOf 34 = .ok (.ireturn, 1) := by decide +kernel
theorem dX12_word_0 : decode cX12_word 0 = .ok (.bipush 10, 2) := by decide +kernel
theorem dX12_word_2 : decode cX12_word 2 = .ok (.aload_n 0, 1) := by decide +kernel
theorem dX12_word_3 : decode cX12_word 3 = .ok (.getfield 84, 3) := by decide +kernel
theorem dX12_word_6 : decode cX12_word 6 = .ok (.iconst 1, 1) := by decide +kernel
theorem dX12_word_7 : decode cX12_word 7 = .ok (.iaload, 1) := by decide +kernel
theorem dX12_word_8 : decode cX12_word 8 = .ok (.iadd, 1) := by decide +kernel
theorem dX12_word_9 : decode cX12_word 9 = .ok (.istore_n 1, 1) := by decide +kernel
theorem dX12_word_10 : decode cX12_word 10 = .ok (.aload_n 0, 1) := by decide +kernel
theorem dX12_word_11 : decode cX12_word 11 = .ok (.getfield 394, 3) := by decide +kernel
theorem dX12_word_14 : decode cX12_word 14 = .ok (.ifCond .ne 36, 3) := by decide +kernel
theorem dX12_word_17 : decode cX12_word 17 = .ok (.aload_n 0, 1) := by decide +kernel
theorem dX12_word_18 : decode cX12_word 18 = .ok (.getfield 411, 3) := by decide +kernel
theorem dX12_word_21 : decode cX12_word 21 = .ok (.iconst (-1), 1) := by decide +kernel
theorem dX12_word_22 : decode cX12_word 22 = .ok (.if_icmp .ne 28, 3) := by decide +kernel
theorem dX12_word_25 : decode cX12_word 25 = .ok (.aload_n 0, 1) := by decide +kernel
theorem dX12_word_26 : decode cX12_word 26 = .ok (.aload_n 0, 1) := by decide +kernel
theorem dX12_word_27 : decode cX12_word 27 = .ok (.getfield 400, 3) := by decide +kernel
theorem dX12_word_30 : decode cX12_word 30 = .ok (.bipush 10, 2) := by decide +kernel
theorem dX12_word_32 : decode cX12_word 32 = .ok (.aload_n 0, 1) := by decide +kernel
theorem dX12_word_33 : decode cX12_word 33 = .ok (.getfield 84, 3) := by decide +kernel
theorem dX12_word_36 : decode cX12_word 36 = .ok (.iconst 1, 1) := by decide +kernel
theorem dX12_word_37 : decode cX12_word 37 = .ok (.iaload, 1) := by decide +kernel
theorem dX12_word_38 : decode cX12_word 38 = .ok (.invokevirtual 461, 3) := by decide +kernel
theorem dX12_word_41 : decode cX12_word 41 = .ok (.iconst (-1), 1) := by decide +kernel
theorem dX12_word_42 : decode cX12_word 42 = .ok (.if_icmp .eq 8, 3) := by decide +kernel
theorem dX12_word_45 : decode cX12_word 45 = .ok (.aload_n 0, 1) := by decide +kernel
theorem dX12_word_46 : decode cX12_word 46 = .ok (.iconst 3, 1) := by decide +kernel
theorem dX12_word_47 : decode cX12_word 47 = .ok (.invokevirtual 437, 3) := by decide +kernel
theorem dX12_word_50 : decode cX12_word 50 = .ok (.aload_n 0, 1) := by decide +kernel
theorem dX12_word_51 : decode cX12_word 51 = .ok (.getfield 87, 3) := by decide +kernel
theorem dX12_word_54 : decode cX12_word 54 = .ok (.iload_n 1, 1) := by decide +kernel
theorem dX12_word_55 : decode cX12_word 55 = .ok (.aload_n 0, 1) := by decide +kernel
theorem dX12_word_56 : decode cX12_word 56 = .ok (.invokevirtual 465, 3) := by decide +kernel
theorem dX12_word_59 : decode cX12_word 59 = .ok (.lastore, 1) := by decide +kernel
theorem dX12_word_60 : decode cX12_word 60 = .ok (.aload_n 0, 1) := by decide +kernel
theorem dX12_word_61 : decode cX12_word 61 = .ok (.getfield 391, 3) := by decide +kernel
theorem dX12_word_64 : decode cX12_word 64 = .ok (.istore_n 2, 1) := by decide +kernel
theorem dX12_word_65 : decode cX12_word 65 = .ok (.aload_n 0, 1) := by decide +kernel
theorem dX12_word_66 : decode cX12_word 66 = .ok (.getfield 91, 3) := by decide +kernel
theorem dX12_word_69 : decode cX12_word 69 = .ok (.iload_n 1, 1) := by decide +kernel
theorem dX12_word_70 : decode cX12_word 70 = .ok (.iconst 0, 1) := by decide +kernel
theorem dX12_word_71 : decode cX12_word 71 = .ok (.iastore, 1) := by decide +kernel
theorem dX12_word_72 : decode cX12_word 72 = .ok (.aload_n 0, 1) := by decide +kernel
theorem dX12_word_73 : decode cX12_word 73 = .ok (.getfield 428, 3) := by decide +kernel
theorem dX12_word_76 : decode cX12_word 76 = .ok (.ifCond .ne 26, 3) := by decide +kernel
theorem dX12_word_79 : decode cX12_word 79 = .ok (.aload_n 0, 1) := by decide +kernel
theorem dX12_word_80 : decode cX12_word 80 = .ok (.getfield 394, 3) := by decide +kernel
theorem dX12_word_83 : decode cX12_word 83 = .ok (.iconst 1, 1) := by decide +kernel
theorem dX12_word_84 : decode cX12_word 84 = .ok (.if_icmp .ne 18, 3) := by decide +kernel
theorem dX12_word_87 : decode cX12_word 87 = .ok (.aload_n 0, 1) := by decide +kernel
theorem dX12_word_88 : decode cX12_word 88 = .ok (.getfield 91, 3) := by decide +kernel
theorem dX12_word_91 : decode cX12_word 91 = .ok (.iload_n 1, 1) := by decide +kernel
theorem dX12_word_92 : decode cX12_word 92 = .ok (.iaload, 1) := by decide +kernel
theorem dX12_word_93 : decode cX12_word 93 = .ok (.iconst 5, 1) := by decide +kernel
theorem dX12_word_94 : decode cX12_word 94 = .ok (.if_icmp .ne 8, 3) := by decide +kernel
theorem dX12_word_97 : decode cX12_word 97 = .ok (.aload_n 0, 1) := by decide +kernel
theorem dX12_word_98 : decode cX12_word 98 = .ok (.iconst 2, 1) := by decide +kernel
theorem dX12_word_99 : decode cX12_word 99 = .ok (.invokevirtual 437, 3) := by decide +kernel
theorem dX12_word_102 : decode cX12_word 102 = .ok (.aload_n 0, 1) := by decide +kernel
theorem dX12_word_103 : decode cX12_word 103 = .ok (.iconst 1, 1) := by decide +kernel
theorem dX12_word_104 : decode cX12_word 104 = .ok (.bipush 9, 2) := by decide +kernel
theorem dX12_word_106 : decode cX12_word 106 = .ok (.invokevirtual 455, 3) := by decide +kernel
theorem dX12_word_109 : decode cX12_word 109 = .ok (.istore_n 3, 1) := by decide +kernel
theorem dX12_word_110 : decode cX12_word 110 = .ok (.aload_n 0, 1) := by decide +kernel
theorem dX12_word_111 : decode cX12_word 111 = .ok (.getfield 428, 3) := by decide +kernel
theorem dX12_word_114 : decode cX12_word 114 = .ok (.ifCond .eq 4, 3) := by decide +kernel
theorem dX12_word_117 : decode cX12_word 117 = .ok (.return_, 1) := by decide +kernel
theorem dX12_word_118 : decode cX12_word 118 = .ok (.aload_n 0, 1) := by decide +kernel
theorem dX12_word_119 : decode cX12_word 119 = .ok (.getfield 94, 3) := by decide +kernel
theorem dX12_word_122 : decode cX12_word 122 = .ok (.iconst 5, 1) := by decide +kernel
theorem dX12_word_123 : decode cX12_word 123 = .ok (.iload_n 1, 1) := by decide +kernel
theorem dX12_word_124 : decode cX12_word 124 = .ok (.imul, 1) := by decide +kernel
theorem dX12_word_125 : decode cX12_word 125 = .ok (.aload_n 0, 1) := by decide +kernel
theorem dX12_word_126 : decode cX12_word 126 = .ok (.getfield 91, 3) := by decide +kernel
theorem dX12_word_129 : decode cX12_word 129 = .ok (.iload_n 1, 1) := by decide +kernel
theorem dX12_word_130 : decode cX12_word 130 = .ok (.iaload, 1) := by decide +kernel
theorem dX12_word_131 : decode cX12_word 131 = .ok (.iadd, 1) := by decide +kernel
theorem dX12_word_132 : decode cX12_word 132 = .ok (.iload_n 3, 1) := by decide +kernel
theorem dX12_word_133 : decode cX12_word 133 = .ok (.iastore, 1) := by decide +kernel
theorem dX12_word_134 : decode cX12_word 134 = .ok (.aload_n 0, 1) := by decide +kernel
theorem dX12_word_135 : decode cX12_word 135 = .ok (.getfield 91, 3) := by decide +kernel
theorem dX12_word_138 : decode cX12_word 138 = .ok (.iload_n 1, 1) := by decide +kernel
theorem dX12_word_139 : decode cX12_word 139 = .ok (.dup2, 1) := by decide +kernel
theorem dX12_word_140 : decode cX12_word 140 = .ok (.iaload, 1) := by decide +kernel
theorem dX12_word_141 : decode cX12_word 141 = .ok (.iconst 1, 1) := by decide +kernel
theorem dX12_word_142 : decode cX12_word 142 = .ok (.iadd, 1) := by decide +kernel
theorem dX12_word_143 : decode cX12_word 143 = .ok (.iastore, 1) := by decide +kernel
theorem dX12_word_144 : decode cX12_word 144 = .ok (.aload_n 0, 1) := by decide +kernel
theorem dX12_word_145 : decode cX12_word 145 = .ok (.getfield 394, 3) := by decide +kernel
theorem dX12_word_148 : decode cX12_word 148 = .ok (.iconst 1, 1) := by decide +kernel
theorem dX12_word_149 : decode cX12_word 149 = .ok (.if_icmp .eq (-77), 3) := by decide +kernel
theorem dX12_word_152 : decode cX12_word 152 = .ok (.iconst 0, 1) := by decide +kernel
theorem dX12_word_153 : decode cX12_word 153 = .ok (.istore_n 3, 1) := by decide +kernel
theorem dX12_word_154 : decode cX12_word 154 = .ok (.iload_n 3, 1) := by decide +kernel
theorem dX12_word_155 : decode cX12_word 155 = .ok (.aload_n 0, 1) := by decide +kernel
theorem dX12_word_156 : decode cX12_word 156 = .ok (.getfield 84, 3) := by decide +kernel
theorem dX12_word_159 : decode cX12_word 159 = .ok (.iconst 1, 1) := by decide +kernel
theorem dX12_word_160 : decode cX12_word 160 = .ok (.iaload, 1) := by decide +kernel
theorem dX12_word_161 : decode cX12_word 161 = .ok (.if_icmp .ge 27, 3) := by decide +kernel
theorem dX12_word_164 : decode cX12_word 164 = .ok (.aload_n 0, 1) := by decide +kernel
theorem dX12_word_165 : decode cX12_word 165 = .ok (.bipush 10, 2) := by decide +kernel
theorem dX12_word_167 : decode cX12_word 167 = .ok (.iload_n 3, 1) := by decide +kernel
theorem dX12_word_168 : decode cX12_word 168 = .ok (.iadd, 1) := by decide +kernel
theorem dX12_word_169 : decode cX12_word 169 = .ok (.iload_n 1, 1) := by decide +kernel
theorem dX12_word_170 : decode cX12_word 170 = .ok (.invokevirtual 468, 3) := by decide +kernel
theorem dX12_word_173 : decode cX12_word 173 = .ok (.ifCond .eq 9, 3) := by decide +kernel
theorem dX12_word_176 : decode cX12_word 176 = .ok (.aload_n 0, 1) := by decide +kernel
theorem dX12_word_177 : decode cX12_word 177 = .ok (.iconst 3, 1) := by decide +kernel
theorem dX12_word_178 : decode cX12_word 178 = .ok (.iload_n 2, 1) := by decide +kernel
theorem dX12_word_179 : decode cX12_word 179 = .ok (.invokevirtual 434, 3) := by decide +kernel
theorem dX12_word_182 : decode cX12_word 182 = .ok (.iinc 3 1, 3) := by decide +kernel
theorem dX12_word_185 : decode cX12_word 185 = .ok (.goto (-31), 3) := by decide +kernel
theorem dX12_word_188 : decode cX12_word 188 = .ok (.aload_n 0, 1) := by decide +kernel
theorem dX12_word_189 : decode cX12_word 189 = .ok (.getfield 84, 3) := by decide +kernel
theorem dX12_word_192 : decode cX12_word 192 = .ok (.iconst 1, 1) := by decide +kernel
theorem dX12_word_193 : decode cX12_word 193 = .ok (.dup2, 1) := by decide +kernel
theorem dX12_word_194 : decode cX12_word 194 = .ok (.iaload, 1) := by decide +kernel
theorem dX12_word_195 : decode cX12_word 195 = .ok (.iconst 1, 1) := by decide +kernel
theorem dX12_word_196 : decode cX12_word 196 = .ok (.iadd, 1) := by decide +kernel
theorem dX12_word_197 : decode cX12_word 197 = .ok (.iastore, 1) := by decide +kernel
theorem dX12_word_198 : decode cX12_word 198 = .ok (.return_, 1) := by decide +kernel
theorem dX12_areSame_0 : decode cX12_areSame 0 = .ok (.aload_n 0, 1) := by decide +kernel
theorem dX12_areSame_1 : decode cX12_areSame 1 = .ok (.getfield 91, 3) := by decide +kernel
theorem dX12_areSame_4 : decode cX12_areSame 4 = .ok (.iload_n 1, 1) := by decide +kernel
theorem dX12_areSame_5 : decode cX12_areSame 5 = .ok (.iaload, 1) := by decide +kernel
theorem dX12_areSame_6 : decode cX12_areSame 6 = .ok (.aload_n 0, 1) := by decide +kernel
theorem dX12_areSame_7 : decode cX12_areSame 7 = .ok (.getfield 91, 3) := by decide +kernel
theorem dX12_areSame_10 : decode cX12_areSame 10 = .ok (.iload_n 2, 1) := by decide +kernel
theorem dX12_areSame_11 : decode cX12_areSame 11 = .ok (.iaload, 1) := by decide +kernel
theorem dX12_areSame_12 : decode cX12_areSame 12 = .ok (.if_icmp .eq 5, 3) := by decide +kernel
theorem dX12_areSame_15 : decode cX12_areSame 15 = .ok (.iconst 0, 1) := by decide +kernel
theorem dX12_areSame_16 : decode cX12_areSame 16 = .ok (.ireturn, 1) := by decide +kernel
theorem dX12_areSame_17 : decode cX12_areSame 17 = .ok (.iconst 0, 1) := by decide +kernel
theorem dX12_areSame_18 : decode cX12_areSame 18 = .ok (.istore_n 3, 1) := by decide +kernel
theorem dX12_areSame_19 : decode cX12_areSame 19 = .ok (.iload_n 3, 1) := by decide +kernel
theorem dX12_areSame_20 : decode cX12_areSame 20 = .ok (.aload_n 0, 1) := by decide +kernel
theorem dX12_areSame_21 : decode cX12_areSame 21 = .ok (.getfield 91, 3) := by decide +kernel
theorem dX12_areSame_24 : decode cX12_areSame 24 = .ok (.iload_n 1, 1) := by decide +kernel
theorem dX12_areSame_25 : decode cX12_areSame 25 = .ok (.iaload, 1) := by decide +kernel
theorem dX12_areSame_26 : decode cX12_areSame 26 = .ok (.if_icmp .ge 34, 3) := by decide +kernel
theorem dX12_areSame_29 : decode cX12_areSame 29 = .ok (.aload_n 0, 1) := by decide +kernel
theorem dX12_areSame_30 : decode cX12_areSame 30 = .ok (.getfield 94, 3) := by decide +kernel
theorem dX12_areSame_33 : decode cX12_areSame 33 = .ok (.iconst 5, 1) := by decide +kernel
theorem dX12_areSame_34 : decode cX12_areSame 34 = .ok (.iload_n 1, 1) := by decide +kernel
theorem dX12_areSame_35 : decode cX12_areSame 35 = .ok (.imul, 1) := by decide +kernel
theorem dX12_areSame_36 : decode cX12_areSame 36 = .ok (.iload_n 3, 1) := by decide +kernel
theorem dX12_areSame_37 : decode cX12_areSame 37 = .ok (.iadd, 1) := by decide +kernel
theorem dX12_areSame_38 : decode cX12_areSame 38 = .ok (.iaload, 1) := by decide +kernel
theorem dX12_areSame_39 : decode cX12_areSame 39 = .ok (.aload_n 0, 1) := by decide +kernel
theorem dX12_areSame_40 : decode cX12_areSame 40 = .ok (.getfield 94, 3) := by decide +kernel
theorem dX12_areSame_43 : decode cX12_areSame 43 = .ok (.iconst 5, 1) := by decide +kernel
theorem dX12_areSame_44 : decode cX12_areSame 44 = .ok (.iload_n 2, 1) := by decide +kernel
theorem dX12_areSame_45 : decode cX12_areSame 45 = .ok (.imul, 1) := by decide +kernel
theorem dX12_areSame_46 : decode cX12_areSame 46 = .ok (.iload_n 3, 1) := by decide +kernel
theorem dX12_areSame_47 : decode cX12_areSame 47 = .ok (.iadd, 1) := by decide +kernel
theorem dX12_areSame_48 : decode cX12_areSame 48 = .ok (.iaload, 1) := by decide +kernel
theorem dX12_areSame_49 : decode cX12_areSame 49 = .ok (.if_icmp .eq 5, 3) := by decide +kernel
theorem dX12_areSame_52 : decode cX12_areSame 52 = .ok (.iconst 0, 1) := by decide +kernel
theorem dX12_areSame_53 : decode cX12_areSame 53 = .ok (.ireturn, 1) := by decide +kernel
theorem dX12_areSame_54 : decode cX12_areSame 54 = .ok (.iinc 3 1, 3) := by decide +kernel
theorem dX12_areSame_57 : decode cX12_areSame 57 = .ok (.goto (-38), 3) := by decide +kernel
theorem dX12_areSame_60 : decode cX12_areSame 60 = .ok (.iconst 1, 1) := by decide +kernel
theorem dX12_areSame_61 : decode cX12_areSame 61 = .ok (.ireturn, 1) := by decide +kernel
theorem dX12_order_0 : decode cX12_order 0 = .ok (.bipush 16, 2) := by decide +kernel
theorem dX12_order_2 : decode cX12_order 2 = .ok (.aload_n 0, 1) := by decide +kernel
theorem dX12_order_3 : decode cX12_order 3 = .ok (.getfield 112, 3) := by decide +kernel
theorem dX12_order_6 : decode cX12_order 6 = .ok (.iconst 1, 1) := by decide +kernel
theorem dX12_order_7 : decode cX12_order 7 = .ok (.iaload, 1) := by decide +kernel
theorem dX12_order_8 : decode cX12_order 8 = .ok (.iadd, 1) := by decide +kernel
theorem dX12_order_9 : decode cX12_order 9 = .ok (.istore_n 1, 1) := by decide +kernel
theorem dX12_order_10 : decode cX12_order 10 = .ok (.aload_n 0, 1) := by decide +kernel
theorem dX12_order_11 : decode cX12_order 11 = .ok (.bipush 12, 2) := by decide +kernel
theorem dX12_order_13 : decode cX12_order 13 = .ok (.invokevirtual 443, 3) := by decide +kernel
theorem dX12_order_16 : decode cX12_order 16 = .ok (.ifCond .eq 17, 3) := by decide +kernel
theorem dX12_order_19 : decode cX12_order 19 = .ok (.aload_n 0, 1) := by decide +kernel
theorem dX12_order_20 : decode cX12_order 20 = .ok (.getfield 115, 3) := by decide +kernel
theorem dX12_order_23 : decode cX12_order 23 = .ok (.iload_n 1, 1) := by decide +kernel
theorem dX12_order_24 : decode cX12_order 24 = .ok (.iconst (-1), 1) := by decide +kernel
theorem dX12_order_25 : decode cX12_order 25 = .ok (.iastore, 1) := by decide +kernel
theorem dX12_order_26 : decode cX12_order 26 = .ok (.aload_n 0, 1) := by decide +kernel
theorem dX12_order_27 : decode cX12_order 27 = .ok (.invokevirtual 440, 3) := by decide +kernel
theorem dX12_order_30 : decode cX12_order 30 = .ok (.goto 16, 3) := by decide +kernel
theorem dX12_order_33 : decode cX12_order 33 = .ok (.aload_n 0, 1) := by decide +kernel
theorem dX12_order_34 : decode cX12_order 34 = .ok (.getfield 115, 3) := by decide +kernel
theorem dX12_order_37 : decode cX12_order 37 = .ok (.iload_n 1, 1) := by decide +kernel
theorem dX12_order_38 : decode cX12_order 38 = .ok (.aload_n 0, 1) := by decide +kernel
theorem dX12_order_39 : decode cX12_order 39 = .ok (.iconst 0, 1) := by decide +kernel
theorem dX12_order_40 : decode cX12_order 40 = .ok (.bipush 11, 2) := by decide +kernel
theorem dX12_order_42 : decode cX12_order 42 = .ok (.invokevirtual 455, 3) := by decide +kernel
theorem dX12_order_45 : decode cX12_order 45 = .ok (.iastore, 1) := by decide +kernel
theorem dX12_order_46 : decode cX12_order 46 = .ok (.aload_n 0, 1) := by decide +kernel
theorem dX12_order_47 : decode cX12_order 47 = .ok (.getfield 121, 3) := by decide +kernel
theorem dX12_order_50 : decode cX12_order 50 = .ok (.iload_n 1, 1) := by decide +kernel
theorem dX12_order_51 : decode cX12_order 51 = .ok (.aload_n 0, 1) := by decide +kernel
theorem dX12_order_52 : decode cX12_order 52 = .ok (.getfield 391, 3) := by decide +kernel
theorem dX12_order_55 : decode cX12_order 55 = .ok (.iastore, 1) := by decide +kernel
theorem dX12_order_56 : decode cX12_order 56 = .ok (.aload_n 0, 1) := by decide +kernel
theorem dX12_order_57 : decode cX12_order 57 = .ok (.getfield 118, 3) := by decide +kernel
theorem dX12_order_60 : decode cX12_order 60 = .ok (.iload_n 1, 1) := by decide +kernel
theorem dX12_order_61 : decode cX12_order 61 = .ok (.aload_n 0, 1) := by decide +kernel
theorem dX12_order_62 : decode cX12_order 62 = .ok (.invokevirtual 465, 3) := by decide +kernel
theorem dX12_order_65 : decode cX12_order 65 = .ok (.lastore, 1) := by decide +kernel
theorem dX12_order_66 : decode cX12_order 66 = .ok (.aload_n 0, 1) := by decide +kernel
theorem dX12_order_67 : decode cX12_order 67 = .ok (.getfield 428, 3) := by decide +kernel
theorem dX12_order_70 : decode cX12_order 70 = .ok (.ifCond .eq 4, 3) := by decide +kernel
theorem dX12_order_73 : decode cX12_order 73 = .ok (.return_, 1) := by decide +kernel
theorem dX12_order_74 : decode cX12_order 74 = .ok (.aload_n 0, 1) := by decide +kernel
theorem dX12_order_75 : decode cX12_order 75 = .ok (.getfield 127, 3) := by decide +kernel
theorem dX12_order_78 : decode cX12_order 78 = .ok (.iload_n 1, 1) := by decide +kernel
theorem dX12_order_79 : decode cX12_order 79 = .ok (.aload_n 0, 1) := by decide +kernel
theorem dX12_order_80 : decode cX12_order 80 = .ok (.iconst 5, 1) := by decide +kernel
theorem dX12_order_81 : decode cX12_order 81 = .ok (.invokevirtual 443, 3) := by decide +kernel
theorem dX12_order_84 : decode cX12_order 84 = .ok (.bastore, 1) := by decide +kernel
theorem dX12_order_85 : decode cX12_order 85 = .ok (.aload_n 0, 1) := by decide +kernel
theorem dX12_order_86 : decode cX12_order 86 = .ok (.getfield 127, 3) := by decide +kernel
theorem dX12_order_89 : decode cX12_order 89 = .ok (.iload_n 1, 1) := by decide +kernel
theorem dX12_order_90 : decode cX12_order 90 = .ok (.baload, 1) := by decide +kernel
theorem dX12_order_91 : decode cX12_order 91 = .ok (.ifCond .eq 7, 3) := by decide +kernel
theorem dX12_order_94 : decode cX12_order 94 = .ok (.aload_n 0, 1) := by decide +kernel
theorem dX12_order_95 : decode cX12_order 95 = .ok (.invokevirtual 440, 3) := by decide +kernel
theorem dX12_order_98 : decode cX12_order 98 = .ok (.aload_n 0, 1) := by decide +kernel
theorem dX12_order_99 : decode cX12_order 99 = .ok (.bipush 6, 2) := by decide +kernel
theorem dX12_order_101 : decode cX12_order 101 = .ok (.invokevirtual 471, 3) := by decide +kernel
theorem dX12_order_104 : decode cX12_order 104 = .ok (.aload_n 0, 1) := by decide +kernel
theorem dX12_order_105 : decode cX12_order 105 = .ok (.getfield 130, 3) := by decide +kernel
theorem dX12_order_108 : decode cX12_order 108 = .ok (.iload_n 1, 1) := by decide +kernel
theorem dX12_order_109 : decode cX12_order 109 = .ok (.iconst 0, 1) := by decide +kernel
theorem dX12_order_110 : decode cX12_order 110 = .ok (.iastore, 1) := by decide +kernel
theorem dX12_order_111 : decode cX12_order 111 = .ok (.iconst 1, 1) := by decide +kernel
theorem dX12_order_112 : decode cX12_order 112 = .ok (.istore_n 2, 1) := by decide +kernel
theorem dX12_order_113 : decode cX12_order 113 = .ok (.aload_n 0, 1) := by decide +kernel
theorem dX12_order_114 : decode cX12_order 114 = .ok (.getfield 428, 3) := by decide +kernel
theorem dX12_order_117 : decode cX12_order 117 = .ok (.ifCond .ne 53, 3) := by decide +kernel
theorem dX12_order_120 : decode cX12_order 120 = .ok (.iload_n 2, 1) := by decide +kernel
theorem dX12_order_121 : decode cX12_order 121 = .ok (.ifCond .eq 49, 3) := by decide +kernel
theorem dX12_order_124 : decode cX12_order 124 = .ok (.aload_n 0, 1) := by decide +kernel
theorem dX12_order_125 : decode cX12_order 125 = .ok (.iload_n 1, 1) := by decide +kernel
theorem dX12_order_126 : decode cX12_order 126 = .ok (.invokevirtual 474, 3) := by decide +kernel
theorem dX12_order_129 : decode cX12_order 129 = .ok (.aload_n 0, 1) := by decide +kernel
theorem dX12_order_130 : decode cX12_order 130 = .ok (.getfield 428, 3) := by decide +kernel
theorem dX12_order_133 : decode cX12_order 133 = .ok (.ifCond .ne 24, 3) := by decide +kernel
theorem dX12_order_136 : decode cX12_order 136 = .ok (.aload_n 0, 1) := by decide +kernel
theorem dX12_order_137 : decode cX12_order 137 = .ok (.getfield 394, 3) := by decide +kernel
theorem dX12_order_140 : decode cX12_order 140 = .ok (.iconst 2, 1) := by decide +kernel
theorem dX12_order_141 : decode cX12_order 141 = .ok (.if_icmp .ne 16, 3) := by decide +kernel
theorem dX12_order_144 : decode cX12_order 144 = .ok (.aload_n 0, 1) := by decide +kernel
theorem dX12_order_145 : decode cX12_order 145 = .ok (.getfield 411, 3) := by decide +kernel
theorem dX12_order_148 : decode cX12_order 148 = .ok (.bipush 44, 2) := by decide +kernel
theorem dX12_order_150 : decode cX12_order 150 = .ok (.if_icmp .ne 7, 3) := by decide +kernel
theorem dX12_order_153 : decode cX12_order 153 = .ok (.iconst 1, 1) := by decide +kernel
theorem dX12_order_154 : decode cX12_order 154 = .ok (.goto 4, 3) := by decide +kernel
theorem dX12_order_157 : decode cX12_order 157 = .ok (.iconst 0, 1) := by decide +kernel
theorem dX12_order_158 : decode cX12_order 158 = .ok (.istore_n 2, 1) := by decide +kernel
theorem dX12_order_159 : decode cX12_order 159 = .ok (.iload_n 2, 1) := by decide +kernel
theorem dX12_order_160 : decode cX12_order 160 = .ok (.ifCond .eq (-47), 3) := by decide +kernel
theorem dX12_order_163 : decode cX12_order 163 = .ok (.aload_n 0, 1) := by decide +kernel
theorem dX12_order_164 : decode cX12_order 164 = .ok (.invokevirtual 440, 3) := by decide +kernel
theorem dX12_order_167 : decode cX12_order 167 = .ok (.goto (-54), 3) := by decide +kernel
theorem dX12_order_170 : decode cX12_order 170 = .ok (.aload_n 0, 1) := by decide +kernel
theorem dX12_order_171 : decode cX12_order 171 = .ok (.getfield 112, 3) := by decide +kernel
theorem dX12_order_174 : decode cX12_order 174 = .ok (.iconst 1, 1) := by decide +kernel
theorem dX12_order_175 : decode cX12_order 175 = .ok (.dup2, 1) := by decide +kernel
theorem dX12_order_176 : decode cX12_order 176 = .ok (.iaload, 1) := by decide +kernel
theorem dX12_order_177 : decode cX12_order 177 = .ok (.iconst 1, 1) := by decide +kernel
theorem dX12_order_178 : decode cX12_order 178 = .ok (.iadd, 1) := by decide +kernel
theorem dX12_order_179 : decode cX12_order 179 = .ok (.iastore, 1) := by decide +kernel
theorem dX12_order_180 : decode cX12_order 180 = .ok (.return_, 1) := by decide +kernel
theorem dX12_act_0 : decode cX12_act 0 = .ok (.aload_n 0, 1) := by decide +kernel
theorem dX12_act_1 : decode cX12_act 1 = .ok (.getfield 394, 3) := by decide +kernel
theorem dX12_act_4 : decode cX12_act 4 = .ok (.ifCond .ne 39, 3) := by decide +kernel
theorem dX12_act_7 : decode cX12_act 7 = .ok (.aload_n 0, 1) := by decide +kernel
theorem dX12_act_8 : decode cX12_act 8 = .ok (.getfield 411, 3) := by decide +kernel
theorem dX12_act_11 : decode cX12_act 11 = .ok (.bipush 7, 2) := by decide +kernel
theorem dX12_act_13 : decode cX12_act 13 = .ok (.if_icmp .eq 36, 3) := by decide +kernel
theorem dX12_act_16 : decode cX12_act 16 = .ok (.aload_n 0, 1) := by decide +kernel
theorem dX12_act_17 : decode cX12_act 17 = .ok (.getfield 411, 3) := by decide +kernel
theorem dX12_act_20 : decode cX12_act 20 = .ok (.bipush 8, 2) := by decide +kernel
theorem dX12_act_22 : decode cX12_act 22 = .ok (.if_icmp .eq 27, 3) := by decide +kernel
theorem dX12_act_25 : decode cX12_act 25 = .ok (.aload_n 0, 1) := by decide +kernel
theorem dX12_act_26 : decode cX12_act 26 = .ok (.getfield 411, 3) := by decide +kernel
theorem dX12_act_29 : decode cX12_act 29 = .ok (.bipush 10, 2) := by decide +kernel
theorem dX12_act_31 : decode cX12_act 31 = .ok (.if_icmp .eq 18, 3) := by decide +kernel
theorem dX12_act_34 : decode cX12_act 34 = .ok (.aload_n 0, 1) := by decide +kernel
theorem dX12_act_35 : decode cX12_act 35 = .ok (.getfield 411, 3) := by decide +kernel
theorem dX12_act_38 : decode cX12_act 38 = .ok (.bipush 11, 2) := by decide +kernel
theorem dX12_act_40 : decode cX12_act 40 = .ok (.if_icmp .eq 9, 3) := by decide +kernel
theorem dX12_act_43 : decode cX12_act 43 = .ok (.aload_n 0, 1) := by decide +kernel
theorem dX12_act_44 : decode cX12_act 44 = .ok (.iconst 1, 1) := by decide +kernel
theorem dX12_act_45 : decode cX12_act 45 = .ok (.invokevirtual 437, 3) := by decide +kernel
theorem dX12_act_48 : decode cX12_act 48 = .ok (.return_, 1) := by decide +kernel
theorem dX12_act_49 : decode cX12_act 49 = .ok (.aload_n 0, 1) := by decide +kernel
theorem dX12_act_50 : decode cX12_act 50 = .ok (.getfield 130, 3) := by decide +kernel
theorem dX12_act_53 : decode cX12_act 53 = .ok (.iload_n 1, 1) := by decide +kernel
theorem dX12_act_54 : decode cX12_act 54 = .ok (.iaload, 1) := by decide +kernel
theorem dX12_act_55 : decode cX12_act 55 = .ok (.iconst 4, 1) := by decide +kernel
theorem dX12_act_56 : decode cX12_act 56 = .ok (.if_icmp .ne 9, 3) := by decide +kernel
theorem dX12_act_59 : decode cX12_act 59 = .ok (.aload_n 0, 1) := by decide +kernel
theorem dX12_act_60 : decode cX12_act 60 = .ok (.iconst 2, 1) := by decide +kernel
theorem dX12_act_61 : decode cX12_act 61 = .ok (.invokevirtual 437, 3) := by decide +kernel
theorem dX12_act_64 : decode cX12_act 64 = .ok (.return_, 1) := by decide +kernel
theorem dX12_act_65 : decode cX12_act 65 = .ok (.iconst 4, 1) := by decide +kernel
theorem dX12_act_66 : decode cX12_act 66 = .ok (.iload_n 1, 1) := by decide +kernel
theorem dX12_act_67 : decode cX12_act 67 = .ok (.imul, 1) := by decide +kernel
theorem dX12_act_68 : decode cX12_act 68 = .ok (.aload_n 0, 1) := by decide +kernel
theorem dX12_act_69 : decode cX12_act 69 = .ok (.getfield 130, 3) := by decide +kernel
theorem dX12_act_72 : decode cX12_act 72 = .ok (.iload_n 1, 1) := by decide +kernel
theorem dX12_act_73 : decode cX12_act 73 = .ok (.iaload, 1) := by decide +kernel
theorem dX12_act_74 : decode cX12_act 74 = .ok (.iadd, 1) := by decide +kernel
theorem dX12_act_75 : decode cX12_act 75 = .ok (.istore_n 2, 1) := by decide +kernel
theorem dX12_act_76 : decode cX12_act 76 = .ok (.aload_n 0, 1) := by decide +kernel
theorem dX12_act_77 : decode cX12_act 77 = .ok (.getfield 411, 3) := by decide +kernel
theorem dX12_act_80 : decode cX12_act 80 = .ok (.istore_n 3, 1) := by decide +kernel
theorem dX12_act_81 : decode cX12_act 81 = .ok (.aload_n 0, 1) := by decide +kernel
theorem dX12_act_82 : decode cX12_act 82 = .ok (.getfield 130, 3) := by decide +kernel
theorem dX12_act_85 : decode cX12_act 85 = .ok (.iload_n 1, 1) := by decide +kernel
theorem dX12_act_86 : decode cX12_act 86 = .ok (.dup2, 1) := by decide +kernel
theorem dX12_act_87 : decode cX12_act 87 = .ok (.iaload, 1) := by decide +kernel
theorem dX12_act_88 : decode cX12_act 88 = .ok (.iconst 1, 1) := by decide +kernel
theorem dX12_act_89 : decode cX12_act 89 = .ok (.iadd, 1) := by decide +kernel
theorem dX12_act_90 : decode cX12_act 90 = .ok (.iastore, 1) := by decide +kernel
theorem dX12_act_91 : decode cX12_act 91 = .ok (.aload_n 0, 1) := by decide +kernel
theorem dX12_act_92 : decode cX12_act 92 = .ok (.getfield 133, 3) := by decide +kernel
theorem dX12_act_95 : decode cX12_act 95 = .ok (.iload_n 2, 1) := by decide +kernel
theorem dX12_act_96 : decode cX12_act 96 = .ok (.iload_n 3, 1) := by decide +kernel
theorem dX12_act_97 : decode cX12_act 97 = .ok (.bipush 7, 2) := by decide +kernel
theorem dX12_act_99 : decode cX12_act 99 = .ok (.if_icmp .ne 7, 3) := by decide +kernel
theorem dX12_act_102 : decode cX12_act 102 = .ok (.iconst 0, 1) := by decide +kernel
theorem dX12_act_103 : decode cX12_act 103 = .ok (.goto 24, 3) := by decide +kernel
theorem dX12_act_106 : decode cX12_act 106 = .ok (.iload_n 3, 1) := by decide +kernel
theorem dX12_act_107 : decode cX12_act 107 = .ok (.bipush 8, 2) := by decide +kernel
theorem dX12_act_109 : decode cX12_act 109 = .ok (.if_icmp .ne 7, 3) := by decide +kernel
theorem dX12_act_112 : decode cX12_act 112 = .ok (.iconst 1, 1) := by decide +kernel
theorem dX12_act_113 : decode cX12_act 113 = .ok (.goto 14, 3) := by decide +kernel
theorem dX12_act_116 : decode cX12_act 116 = .ok (.iload_n 3, 1) := by decide +kernel
theorem dX12_act_117 : decode cX12_act 117 = .ok (.bipush 10, 2) := by decide +kernel
theorem dX12_act_119 : decode cX12_act 119 = .ok (.if_icmp .ne 7, 3) := by decide +kernel
theorem dX12_act_122 : decode cX12_act 122 = .ok (.iconst 2, 1) := by decide +kernel
theorem dX12_act_123 : decode cX12_act 123 = .ok (.goto 4, 3) := by decide +kernel
theorem dX12_act_126 : decode cX12_act 126 = .ok (.iconst 3, 1) := by decide +kernel
theorem dX12_act_127 : decode cX12_act 127 = .ok (.iastore, 1) := by decide +kernel
theorem dX12_act_128 : decode cX12_act 128 = .ok (.aload_n 0, 1) := by decide +kernel
theorem dX12_act_129 : decode cX12_act 129 = .ok (.getfield 145, 3) := by decide +kernel
theorem dX12_act_132 : decode cX12_act 132 = .ok (.iload_n 2, 1) := by decide +kernel
theorem dX12_act_133 : decode cX12_act 133 = .ok (.iconst (-1), 1) := by decide +kernel
theorem dX12_act_134 : decode cX12_act 134 = .ok (.iastore, 1) := by decide +kernel
theorem dX12_act_135 : decode cX12_act 135 = .ok (.aload_n 0, 1) := by decide +kernel
theorem dX12_act_136 : decode cX12_act 136 = .ok (.invokevirtual 440, 3) := by decide +kernel
theorem dX12_act_139 : decode cX12_act 139 = .ok (.iload_n 3, 1) := by decide +kernel
theorem dX12_act_140 : decode cX12_act 140 = .ok (.bipush 10, 2) := by decide +kernel
theorem dX12_act_142 : decode cX12_act 142 = .ok (.if_icmp .ne 16, 3) := by decide +kernel
theorem dX12_act_145 : decode cX12_act 145 = .ok (.aload_n 0, 1) := by decide +kernel
theorem dX12_act_146 : decode cX12_act 146 = .ok (.getfield 148, 3) := by decide +kernel
theorem dX12_act_149 : decode cX12_act 149 = .ok (.iload_n 2, 1) := by decide +kernel
theorem dX12_act_150 : decode cX12_act 150 = .ok (.aload_n 0, 1) := by decide +kernel
theorem dX12_act_151 : decode cX12_act 151 = .ok (.iconst 1, 1) := by decide +kernel
theorem dX12_act_152 : decode cX12_act 152 = .ok (.bipush 99, 2) := by decide +kernel
theorem dX12_act_154 : decode cX12_act 154 = .ok (.invokevirtual 455, 3) := by decide +kernel
theorem dX12_act_157 : decode cX12_act 157 = .ok (.iastore, 1) := by decide +kernel
theorem dX12_act_158 : decode cX12_act 158 = .ok (.iload_n 3, 1) := by decide +kernel
theorem dX12_act_159 : decode cX12_act 159 = .ok (.bipush 8, 2) := by decide +kernel
theorem dX12_act_161 : decode cX12_act 161 = .ok (.if_icmp .eq 4, 3) := by decide +kernel
theorem dX12_act_164 : decode cX12_act 164 = .ok (.return_, 1) := by decide +kernel
theorem dX12_act_165 : decode cX12_act 165 = .ok (.aload_n 0, 1) := by decide +kernel
theorem dX12_act_166 : decode cX12_act 166 = .ok (.getfield 139, 3) := by decide +kernel
theorem dX12_act_169 : decode cX12_act 169 = .ok (.iload_n 2, 1) := by decide +kernel
theorem dX12_act_170 : decode cX12_act 170 = .ok (.aload_n 0, 1) := by decide +kernel
theorem dX12_act_171 : decode cX12_act 171 = .ok (.getfield 391, 3) := by decide +kernel
theorem dX12_act_174 : decode cX12_act 174 = .ok (.iastore, 1) := by decide +kernel
theorem dX12_act_175 : decode cX12_act 175 = .ok (.aload_n 0, 1) := by decide +kernel
theorem dX12_act_176 : decode cX12_act 176 = .ok (.getfield 136, 3) := by decide +kernel
theorem dX12_act_179 : decode cX12_act 179 = .ok (.iload_n 2, 1) := by decide +kernel
theorem dX12_act_180 : decode cX12_act 180 = .ok (.aload_n 0, 1) := by decide +kernel
theorem dX12_act_181 : decode cX12_act 181 = .ok (.invokevirtual 465, 3) := by decide +kernel
theorem dX12_act_184 : decode cX12_act 184 = .ok (.lastore, 1) := by decide +kernel
theorem dX12_act_185 : decode cX12_act 185 = .ok (.aload_n 0, 1) := by decide +kernel
theorem dX12_act_186 : decode cX12_act 186 = .ok (.getfield 428, 3) := by decide +kernel
theorem dX12_act_189 : decode cX12_act 189 = .ok (.ifCond .ne 12, 3) := by decide +kernel
theorem dX12_act_192 : decode cX12_act 192 = .ok (.aload_n 0, 1) := by decide +kernel
theorem dX12_act_193 : decode cX12_act 193 = .ok (.bipush 9, 2) := by decide +kernel
theorem dX12_act_195 : decode cX12_act 195 = .ok (.invokevirtual 443, 3) := by decide +kernel
theorem dX12_act_198 : decode cX12_act 198 = .ok (.ifCond .ne 4, 3) := by decide +kernel
theorem dX12_act_201 : decode cX12_act 201 = .ok (.return_, 1) := by decide +kernel
theorem dX12_act_202 : decode cX12_act 202 = .ok (.aload_n 0, 1) := by decide +kernel
theorem dX12_act_203 : decode cX12_act 203 = .ok (.invokevirtual 440, 3) := by decide +kernel
theorem dX12_act_206 : decode cX12_act 206 = .ok (.aload_n 0, 1) := by decide +kernel
theorem dX12_act_207 : decode cX12_act 207 = .ok (.getfield 145, 3) := by decide +kernel
theorem dX12_act_210 : decode cX12_act 210 = .ok (.iload_n 2, 1) := by decide +kernel
theorem dX12_act_211 : decode cX12_act 211 = .ok (.aload_n 0, 1) := by decide +kernel
theorem dX12_act_212 : decode cX12_act 212 = .ok (.iconst 0, 1) := by decide +kernel
theorem dX12_act_213 : decode cX12_act 213 = .ok (.bipush 11, 2) := by decide +kernel
theorem dX12_act_215 : decode cX12_act 215 = .ok (.invokevirtual 455, 3) := by decide +kernel
theorem dX12_act_218 : decode cX12_act 218 = .ok (.iastore, 1) := by decide +kernel
theorem dX12_act_219 : decode cX12_act 219 = .ok (.return_, 1) := by decide +kernel
theorem dX12_resolves_0 : decode cX12_resolves 0 = .ok (.iconst (-1), 1) := by decide +kernel
theorem dX12_resolves_1 : decode cX12_resolves 1 = .ok (.istore_n 1, 1) := by decide +kernel
theorem dX12_resolves_2 : decode cX12_resolves 2 = .ok (.bipush 16, 2) := by decide +kernel
theorem dX12_resolves_4 : decode cX12_resolves 4 = .ok (.istore_n 2, 1) := by decide +kernel
theorem dX12_resolves_5 : decode cX12_resolves 5 = .ok (.iload_n 2, 1) := by decide +kernel
theorem dX12_resolves_6 : decode cX12_resolves 6 = .ok (.bipush 16, 2) := by decide +kernel
theorem dX12_resolves_8 : decode cX12_resolves 8 = .ok (.aload_n 0, 1) := by decide +kernel
theorem dX12_resolves_9 : decode cX12_resolves 9 = .ok (.getfield 112, 3) := by decide +kernel
theorem dX12_resolves_12 : decode cX12_resolves 12 = .ok (.iconst 1, 1) := by decide +kernel
theorem dX12_resolves_13 : decode cX12_resolves 13 = .ok (.iaload, 1) := by decide +kernel
theorem dX12_resolves_14 : decode cX12_resolves 14 = .ok (.iadd, 1) := by decide +kernel
theorem dX12_resolves_15 : decode cX12_resolves 15 = .ok (.if_icmp .ge 138, 3) := by decide +kernel
theorem dX12_resolves_18 : decode cX12_resolves 18 = .ok (.aload_n 0, 1) := by decide +kernel
theorem dX12_resolves_19 : decode cX12_resolves 19 = .ok (.getfield 124, 3) := by decide +kernel
theorem dX12_resolves_22 : decode cX12_resolves 22 = .ok (.iload_n 2, 1) := by decide +kernel
theorem dX12_resolves_23 : decode cX12_resolves 23 = .ok (.aload_n 0, 1) := by decide +kernel
theorem dX12_resolves_24 : decode cX12_resolves 24 = .ok (.aload_n 0, 1) := by decide +kernel
theorem dX12_resolves_25 : decode cX12_resolves 25 = .ok (.getfield 118, 3) := by decide +kernel
theorem dX12_resolves_28 : decode cX12_resolves 28 = .ok (.iload_n 2, 1) := by decide +kernel
theorem dX12_resolves_29 : decode cX12_resolves 29 = .ok (.laload, 1) := by decide +kernel
theorem dX12_resolves_30 : decode cX12_resolves 30 = .ok (.bipush 10, 2) := by decide +kernel
theorem dX12_resolves_32 : decode cX12_resolves 32 = .ok (.aload_n 0, 1) := by decide +kernel
theorem dX12_resolves_33 : decode cX12_resolves 33 = .ok (.getfield 84, 3) := by decide +kernel
theorem dX12_resolves_36 : decode cX12_resolves 36 = .ok (.iconst 1, 1) := by decide +kernel
theorem dX12_resolves_37 : decode cX12_resolves 37 = .ok (.iaload, 1) := by decide +kernel
theorem dX12_resolves_38 : decode cX12_resolves 38 = .ok (.invokevirtual 461, 3) := by decide +kernel
theorem dX12_resolves_41 : decode cX12_resolves 41 = .ok (.iastore, 1) := by decide +kernel
theorem dX12_resolves_42 : decode cX12_resolves 42 = .ok (.aload_n 0, 1) := by decide +kernel
theorem dX12_resolves_43 : decode cX12_resolves 43 = .ok (.getfield 124, 3) := by decide +kernel
theorem dX12_resolves_46 : decode cX12_resolves 46 = .ok (.iload_n 2, 1) := by decide +kernel
theorem dX12_resolves_47 : decode cX12_resolves 47 = .ok (.iaload, 1) := by decide +kernel
theorem dX12_resolves_48 : decode cX12_resolves 48 = .ok (.iconst (-1), 1) := by decide +kernel
theorem dX12_resolves_49 : decode cX12_resolves 49 = .ok (.if_icmp .ne 15, 3) := by decide +kernel
theorem dX12_resolves_52 : decode cX12_resolves 52 = .ok (.iload_n 1, 1) := by decide +kernel
theorem dX12_resolves_53 : decode cX12_resolves 53 = .ok (.iconst (-1), 1) := by decide +kernel
theorem dX12_resolves_54 : decode cX12_resolves 54 = .ok (.if_icmp .ne 10, 3) := by decide +kernel
theorem dX12_resolves_57 : decode cX12_resolves 57 = .ok (.aload_n 0, 1) := by decide +kernel
theorem dX12_resolves_58 : decode cX12_resolves 58 = .ok (.getfield 121, 3) := by decide +kernel
theorem dX12_resolves_61 : decode cX12_resolves 61 = .ok (.iload_n 2, 1) := by decide +kernel
theorem dX12_resolves_62 : decode cX12_resolves 62 = .ok (.iaload, 1) := by decide +kernel
theorem dX12_resolves_63 : decode cX12_resolves 63 = .ok (.istore_n 1, 1) := by decide +kernel
theorem dX12_resolves_64 : decode cX12_resolves 64 = .ok (.iconst 4, 1) := by decide +kernel
theorem dX12_resolves_65 : decode cX12_resolves 65 = .ok (.iload_n 2, 1) := by decide +kernel
theorem dX12_resolves_66 : decode cX12_resolves 66 = .ok (.imul, 1) := by decide +kernel
theorem dX12_resolves_67 : decode cX12_resolves 67 = .ok (.istore_n 3, 1) := by decide +kernel
theorem dX12_resolves_68 : decode cX12_resolves 68 = .ok (.iload_n 3, 1) := by decide +kernel
theorem dX12_resolves_69 : decode cX12_resolves 69 = .ok (.iconst 4, 1) := by decide +kernel
theorem dX12_resolves_70 : decode cX12_resolves 70 = .ok (.iload_n 2, 1) := by decide +kernel
theorem dX12_resolves_71 : decode cX12_resolves 71 = .ok (.imul, 1) := by decide +kernel
theorem dX12_resolves_72 : decode cX12_resolves 72 = .ok (.aload_n 0, 1) := by decide +kernel
theorem dX12_resolves_73 : decode cX12_resolves 73 = .ok (.getfield 130, 3) := by decide +kernel
theorem dX12_resolves_76 : decode cX12_resolves 76 = .ok (.iload_n 2, 1) := by decide +kernel
theorem dX12_resolves_77 : decode cX12_resolves 77 = .ok (.iaload, 1) := by decide +kernel
theorem dX12_resolves_78 : decode cX12_resolves 78 = .ok (.iadd, 1) := by decide +kernel
theorem dX12_resolves_79 : decode cX12_resolves 79 = .ok (.if_icmp .ge 68, 3) := by decide +kernel
theorem dX12_resolves_82 : decode cX12_resolves 82 = .ok (.aload_n 0, 1) := by decide +kernel
theorem dX12_resolves_83 : decode cX12_resolves 83 = .ok (.getfield 133, 3) := by decide +kernel
theorem dX12_resolves_86 : decode cX12_resolves 86 = .ok (.iload_n 3, 1) := by decide +kernel
theorem dX12_resolves_87 : decode cX12_resolves 87 = .ok (.iaload, 1) := by decide +kernel
theorem dX12_resolves_88 : decode cX12_resolves 88 = .ok (.iconst 1, 1) := by decide +kernel
theorem dX12_resolves_89 : decode cX12_resolves 89 = .ok (.if_icmp .eq 6, 3) := by decide +kernel
theorem dX12_resolves_92 : decode cX12_resolves 92 = .ok (.goto 49, 3) := by decide +kernel
theorem dX12_resolves_95 : decode cX12_resolves 95 = .ok (.aload_n 0, 1) := by decide +kernel
theorem dX12_resolves_96 : decode cX12_resolves 96 = .ok (.getfield 142, 3) := by decide +kernel
theorem dX12_resolves_99 : decode cX12_resolves 99 = .ok (.iload_n 3, 1) := by decide +kernel
theorem dX12_resolves_100 : decode cX12_resolves 100 = .ok (.aload_n 0, 1) := by decide +kernel
theorem dX12_resolves_101 : decode cX12_resolves 101 = .ok (.aload_n 0, 1) := by decide +kernel
theorem dX12_resolves_102 : decode cX12_resolves 102 = .ok (.getfield 136, 3) := by decide +kernel
theorem dX12_resolves_105 : decode cX12_resolves 105 = .ok (.iload_n 3, 1) := by decide +kernel
theorem dX12_resolves_106 : decode cX12_resolves 106 = .ok (.laload, 1) := by decide +kernel
theorem dX12_resolves_107 : decode cX12_resolves 107 = .ok (.bipush 10, 2) := by decide +kernel
theorem dX12_resolves_109 : decode cX12_resolves 109 = .ok (.aload_n 0, 1) := by decide +kernel
theorem dX12_resolves_110 : decode cX12_resolves 110 = .ok (.getfield 84, 3) := by decide +kernel
theorem dX12_resolves_113 : decode cX12_resolves 113 = .ok (.iconst 1, 1) := by decide +kernel
theorem dX12_resolves_114 : decode cX12_resolves 114 = .ok (.iaload, 1) := by decide +kernel
theorem dX12_resolves_115 : decode cX12_resolves 115 = .ok (.invokevirtual 461, 3) := by decide +kernel
theorem dX12_resolves_118 : decode cX12_resolves 118 = .ok (.iastore, 1) := by decide +kernel
theorem dX12_resolves_119 : decode cX12_resolves 119 = .ok (.aload_n 0, 1) := by decide +kernel
theorem dX12_resolves_120 : decode cX12_resolves 120 = .ok (.getfield 142, 3) := by decide +kernel
theorem dX12_resolves_123 : decode cX12_resolves 123 = .ok (.iload_n 3, 1) := by decide +kernel
theorem dX12_resolves_124 : decode cX12_resolves 124 = .ok (.iaload, 1) := by decide +kernel
theorem dX12_resolves_125 : decode cX12_resolves 125 = .ok (.iconst (-1), 1) := by decide +kernel
theorem dX12_resolves_126 : decode cX12_resolves 126 = .ok (.if_icmp .ne 15, 3) := by decide +kernel
theorem dX12_resolves_129 : decode cX12_resolves 129 = .ok (.iload_n 1, 1) := by decide +kernel
theorem dX12_resolves_130 : decode cX12_resolves 130 = .ok (.iconst (-1), 1) := by decide +kernel
theorem dX12_resolves_131 : decode cX12_resolves 131 = .ok (.if_icmp .ne 10, 3) := by decide +kernel
theorem dX12_resolves_134 : decode cX12_resolves 134 = .ok (.aload_n 0, 1) := by decide +kernel
theorem dX12_resolves_135 : decode cX12_resolves 135 = .ok (.getfield 139, 3) := by decide +kernel
theorem dX12_resolves_138 : decode cX12_resolves 138 = .ok (.iload_n 3, 1) := by decide +kernel
theorem dX12_resolves_139 : decode cX12_resolves 139 = .ok (.iaload, 1) := by decide +kernel
theorem dX12_resolves_140 : decode cX12_resolves 140 = .ok (.istore_n 1, 1) := by decide +kernel
theorem dX12_resolves_141 : decode cX12_resolves 141 = .ok (.iinc 3 1, 3) := by decide +kernel
theorem dX12_resolves_144 : decode cX12_resolves 144 = .ok (.goto (-76), 3) := by decide +kernel
theorem dX12_resolves_147 : decode cX12_resolves 147 = .ok (.iinc 2 1, 3) := by decide +kernel
theorem dX12_resolves_150 : decode cX12_resolves 150 = .ok (.goto (-145), 3) := by decide +kernel
theorem dX12_resolves_153 : decode cX12_resolves 153 = .ok (.iload_n 1, 1) := by decide +kernel
theorem dX12_resolves_154 : decode cX12_resolves 154 = .ok (.iconst (-1), 1) := by decide +kernel
theorem dX12_resolves_155 : decode cX12_resolves 155 = .ok (.if_icmp .eq 9, 3) := by decide +kernel
theorem dX12_resolves_158 : decode cX12_resolves 158 = .ok (.aload_n 0, 1) := by decide +kernel
theorem dX12_resolves_159 : decode cX12_resolves 159 = .ok (.iconst 4, 1) := by decide +kernel
theorem dX12_resolves_160 : decode cX12_resolves 160 = .ok (.iload_n 1, 1) := by decide +kernel
theorem dX12_resolves_161 : decode cX12_resolves 161 = .ok (.invokevirtual 434, 3) := by decide +kernel
theorem dX12_resolves_164 : decode cX12_resolves 164 = .ok (.return_, 1) := by decide +kernel
theorem dX12_rules_0 : decode cX12_rules 0 = .ok (.aload_n 0, 1) := by decide +kernel
theorem dX12_rules_1 : decode cX12_rules 1 = .ok (.iconst 0, 1) := by decide +kernel
theorem dX12_rules_2 : decode cX12_rules 2 = .ok (.putfield 224, 3) := by decide +kernel
theorem dX12_rules_5 : decode cX12_rules 5 = .ok (.iload_n 1, 1) := by decide +kernel
theorem dX12_rules_6 : decode cX12_rules 6 = .ok (.ifCond .lt 11, 3) := by decide +kernel
theorem dX12_rules_9 : decode cX12_rules 9 = .ok (.iload_n 1, 1) := by decide +kernel
theorem dX12_rules_10 : decode cX12_rules 10 = .ok (.aload_n 0, 1) := by decide +kernel
theorem dX12_rules_11 : decode cX12_rules 11 = .ok (.getfield 378, 3) := by decide +kernel
theorem dX12_rules_14 : decode cX12_rules 14 = .ok (.if_icmp .le 6, 3) := by decide +kernel
theorem dX12_rules_17 : decode cX12_rules 17 = .ok (.bipush (-2), 2) := by decide +kernel
theorem dX12_rules_19 : decode cX12_rules 19 = .ok (.ireturn, 1) := by decide +kernel
theorem dX12_rules_20 : decode cX12_rules 20 = .ok (.aload_n 0, 1) := by decide +kernel
theorem dX12_rules_21 : decode cX12_rules 21 = .ok (.iload_n 1, 1) := by decide +kernel
theorem dX12_rules_22 : decode cX12_rules 22 = .ok (.putfield 384, 3) := by decide +kernel
theorem dX12_rules_25 : decode cX12_rules 25 = .ok (.aload_n 0, 1) := by decide +kernel
theorem dX12_rules_26 : decode cX12_rules 26 = .ok (.iconst 0, 1) := by decide +kernel
theorem dX12_rules_27 : decode cX12_rules 27 = .ok (.putfield 378, 3) := by decide +kernel
theorem dX12_rules_30 : decode cX12_rules 30 = .ok (.aload_n 0, 1) := by decide +kernel
theorem dX12_rules_31 : decode cX12_rules 31 = .ok (.iconst 0, 1) := by decide +kernel
theorem dX12_rules_32 : decode cX12_rules 32 = .ok (.putfield 381, 3) := by decide +kernel
theorem dX12_rules_35 : decode cX12_rules 35 = .ok (.aload_n 0, 1) := by decide +kernel
theorem dX12_rules_36 : decode cX12_rules 36 = .ok (.iconst 0, 1) := by decide +kernel
theorem dX12_rules_37 : decode cX12_rules 37 = .ok (.putfield 428, 3) := by decide +kernel
theorem dX12_rules_40 : decode cX12_rules 40 = .ok (.aload_n 0, 1) := by decide +kernel
theorem dX12_rules_41 : decode cX12_rules 41 = .ok (.iconst (-1), 1) := by decide +kernel
theorem dX12_rules_42 : decode cX12_rules 42 = .ok (.putfield 431, 3) := by decide +kernel
theorem dX12_rules_45 : decode cX12_rules 45 = .ok (.aload_n 0, 1) := by decide +kernel
theorem dX12_rules_46 : decode cX12_rules 46 = .ok (.iconst 0, 1) := by decide +kernel
theorem dX12_rules_47 : decode cX12_rules 47 = .ok (.putfield 446, 3) := by decide +kernel
theorem dX12_rules_50 : decode cX12_rules 50 = .ok (.aload_n 0, 1) := by decide +kernel
theorem dX12_rules_51 : decode cX12_rules 51 = .ok (.iconst 0, 1) := by decide +kernel
theorem dX12_rules_52 : decode cX12_rules 52 = .ok (.putfield 449, 3) := by decide +kernel
theorem dX12_rules_55 : decode cX12_rules 55 = .ok (.aload_n 0, 1) := by decide +kernel
theorem dX12_rules_56 : decode cX12_rules 56 = .ok (.iconst 1, 1) := by decide +kernel
theorem dX12_rules_57 : decode cX12_rules 57 = .ok (.invokevirtual 220, 3) := by decide +kernel
theorem dX12_rules_60 : decode cX12_rules 60 = .ok (.aload_n 0, 1) := by decide +kernel
theorem dX12_rules_61 : decode cX12_rules 61 = .ok (.invokevirtual 440, 3) := by decide +kernel
theorem dX12_rules_64 : decode cX12_rules 64 = .ok (.aload_n 0, 1) := by decide +kernel
theorem dX12_rules_65 : decode cX12_rules 65 = .ok (.getfield 428, 3) := by decide +kernel
theorem dX12_rules_68 : decode cX12_rules 68 = .ok (.ifCond .ne 18, 3) := by decide +kernel
theorem dX12_rules_71 : decode cX12_rules 71 = .ok (.aload_n 0, 1) := by decide +kernel
theorem dX12_rules_72 : decode cX12_rules 72 = .ok (.getfield 394, 3) := by decide +kernel
theorem dX12_rules_75 : decode cX12_rules 75 = .ok (.iconst 3, 1) := by decide +kernel
theorem dX12_rules_76 : decode cX12_rules 76 = .ok (.if_icmp .eq 10, 3) := by decide +kernel
theorem dX12_rules_79 : decode cX12_rules 79 = .ok (.aload_n 0, 1) := by decide +kernel
theorem dX12_rules_80 : decode cX12_rules 80 = .ok (.invokevirtual 477, 3) := by decide +kernel
theorem dX12_rules_83 : decode cX12_rules 83 = .ok (.goto (-19), 3) := by decide +kernel
theorem dX12_rules_86 : decode cX12_rules 86 = .ok (.aload_n 0, 1) := by decide +kernel
theorem dX12_rules_87 : decode cX12_rules 87 = .ok (.getfield 428, 3) := by decide +kernel
theorem dX12_rules_90 : decode cX12_rules 90 = .ok (.ifCond .ne 7, 3) := by decide +kernel
theorem dX12_rules_93 : decode cX12_rules 93 = .ok (.aload_n 0, 1) := by decide +kernel
theorem dX12_rules_94 : decode cX12_rules 94 = .ok (.invokevirtual 480, 3) := by decide +kernel
theorem dX12_rules_97 : decode cX12_rules 97 = .ok (.aload_n 0, 1) := by decide +kernel
theorem dX12_rules_98 : decode cX12_rules 98 = .ok (.aload_n 0, 1) := by decide +kernel
theorem dX12_rules_99 : decode cX12_rules 99 = .ok (.getfield 428, 3) := by decide +kernel
theorem dX12_rules_102 : decode cX12_rules 102 = .ok (.putfield 483, 3) := by decide +kernel
theorem dX12_rules_105 : decode cX12_rules 105 = .ok (.aload_n 0, 1) := by decide +kernel
theorem dX12_rules_106 : decode cX12_rules 106 = .ok (.aload_n 0, 1) := by decide +kernel
theorem dX12_rules_107 : decode cX12_rules 107 = .ok (.getfield 431, 3) := by decide +kernel
theorem dX12_rules_110 : decode cX12_rules 110 = .ok (.putfield 154, 3) := by decide +kernel
theorem dX12_rules_113 : decode cX12_rules 113 = .ok (.aload_n 0, 1) := by decide +kernel
theorem dX12_rules_114 : decode cX12_rules 114 = .ok (.getfield 428, 3) := by decide +kernel
theorem dX12_rules_117 : decode cX12_rules 117 = .ok (.ifCond .eq 5, 3) := by decide +kernel
theorem dX12_rules_120 : decode cX12_rules 120 = .ok (.iconst (-1), 1) := by decide +kernel
theorem dX12_rules_121 : decode cX12_rules 121 = .ok (.ireturn, 1) := by decide +kernel
theorem dX12_rules_122 : decode cX12_rules 122 = .ok (.aload_n 0, 1) := by decide +kernel
theorem dX12_rules_123 : decode cX12_rules 123 = .ok (.invokevirtual 486, 3) := by decide +kernel
theorem dX12_rules_126 : decode cX12_rules 126 = .ok (.aload_n 0, 1) := by decide +kernel
theorem dX12_rules_127 : decode cX12_rules 127 = .ok (.iconst 0, 1) := by decide +kernel
theorem dX12_rules_128 : decode cX12_rules 128 = .ok (.putfield 233, 3) := by decide +kernel
theorem dX12_rules_131 : decode cX12_rules 131 = .ok (.aload_n 0, 1) := by decide +kernel
theorem dX12_rules_132 : decode cX12_rules 132 = .ok (.getfield 84, 3) := by decide +kernel
theorem dX12_rules_135 : decode cX12_rules 135 = .ok (.iconst 0, 1) := by decide +kernel
theorem dX12_rules_136 : decode cX12_rules 136 = .ok (.iaload, 1) := by decide +kernel
theorem dX12_rules_137 : decode cX12_rules 137 = .ok (.ireturn, 1) := by decide +kernel
theorem dX12_takes_0 : decode cX12_takes 0 = .ok (.aload_n 0, 1) := by decide +kernel
theorem dX12_takes_1 : decode cX12_takes 1 = .ok (.getfield 84, 3) := by decide +kernel
theorem dX12_takes_4 : decode cX12_takes 4 = .ok (.iconst 0, 1) := by decide +kernel
theorem dX12_takes_5 : decode cX12_takes 5 = .ok (.aload_n 0, 1) := by decide +kernel
theorem dX12_takes_6 : decode cX12_takes 6 = .ok (.getfield 84, 3) := by decide +kernel
theorem dX12_takes_9 : decode cX12_takes 9 = .ok (.iconst 1, 1) := by decide +kernel
theorem dX12_takes_10 : decode cX12_takes 10 = .ok (.iaload, 1) := by decide +kernel
theorem dX12_takes_11 : decode cX12_takes 11 = .ok (.iastore, 1) := by decide +kernel
theorem dX12_takes_12 : decode cX12_takes 12 = .ok (.aload_n 0, 1) := by decide +kernel
theorem dX12_takes_13 : decode cX12_takes 13 = .ok (.getfield 106, 3) := by decide +kernel
theorem dX12_takes_16 : decode cX12_takes 16 = .ok (.iconst 0, 1) := by decide +kernel
theorem dX12_takes_17 : decode cX12_takes 17 = .ok (.aload_n 0, 1) := by decide +kernel
theorem dX12_takes_18 : decode cX12_takes 18 = .ok (.getfield 106, 3) := by decide +kernel
theorem dX12_takes_21 : decode cX12_takes 21 = .ok (.iconst 1, 1) := by decide +kernel
theorem dX12_takes_22 : decode cX12_takes 22 = .ok (.iaload, 1) := by decide +kernel
theorem dX12_takes_23 : decode cX12_takes 23 = .ok (.iastore, 1) := by decide +kernel
theorem dX12_takes_24 : decode cX12_takes 24 = .ok (.aload_n 0, 1) := by decide +kernel
theorem dX12_takes_25 : decode cX12_takes 25 = .ok (.getfield 109, 3) := by decide +kernel
theorem dX12_takes_28 : decode cX12_takes 28 = .ok (.iconst 0, 1) := by decide +kernel
theorem dX12_takes_29 : decode cX12_takes 29 = .ok (.aload_n 0, 1) := by decide +kernel
theorem dX12_takes_30 : decode cX12_takes 30 = .ok (.getfield 109, 3) := by decide +kernel
theorem dX12_takes_33 : decode cX12_takes 33 = .ok (.iconst 1, 1) := by decide +kernel
theorem dX12_takes_34 : decode cX12_takes 34 = .ok (.iaload, 1) := by decide +kernel
theorem dX12_takes_35 : decode cX12_takes 35 = .ok (.iastore, 1) := by decide +kernel
theorem dX12_takes_36 : decode cX12_takes 36 = .ok (.aload_n 0, 1) := by decide +kernel
theorem dX12_takes_37 : decode cX12_takes 37 = .ok (.getfield 112, 3) := by decide +kernel
theorem dX12_takes_40 : decode cX12_takes 40 = .ok (.iconst 0, 1) := by decide +kernel
theorem dX12_takes_41 : decode cX12_takes 41 = .ok (.aload_n 0, 1) := by decide +kernel
theorem dX12_takes_42 : decode cX12_takes 42 = .ok (.getfield 112, 3) := by decide +kernel
theorem dX12_takes_45 : decode cX12_takes 45 = .ok (.iconst 1, 1) := by decide +kernel
theorem dX12_takes_46 : decode cX12_takes 46 = .ok (.iaload, 1) := by decide +kernel
theorem dX12_takes_47 : decode cX12_takes 47 = .ok (.iastore, 1) := by decide +kernel
theorem dX12_takes_48 : decode cX12_takes 48 = .ok (.iconst 0, 1) := by decide +kernel
theorem dX12_takes_49 : decode cX12_takes 49 = .ok (.istore_n 1, 1) := by decide +kernel
theorem dX12_takes_50 : decode cX12_takes 50 = .ok (.iload_n 1, 1) := by decide +kernel
theorem dX12_takes_51 : decode cX12_takes 51 = .ok (.bipush 10, 2) := by decide +kernel
theorem dX12_takes_53 : decode cX12_takes 53 = .ok (.if_icmp .ge 60, 3) := by decide +kernel
theorem dX12_takes_56 : decode cX12_takes 56 = .ok (.aload_n 0, 1) := by decide +kernel
theorem dX12_takes_57 : decode cX12_takes 57 = .ok (.getfield 91, 3) := by decide +kernel
theorem dX12_takes_60 : decode cX12_takes 60 = .ok (.iload_n 1, 1) := by decide +kernel
theorem dX12_takes_61 : decode cX12_takes 61 = .ok (.aload_n 0, 1) := by decide +kernel
theorem dX12_takes_62 : decode cX12_takes 62 = .ok (.getfield 91, 3) := by decide +kernel
theorem dX12_takes_65 : decode cX12_takes 65 = .ok (.bipush 10, 2) := by decide +kernel
theorem dX12_takes_67 : decode cX12_takes 67 = .ok (.iload_n 1, 1) := by decide +kernel
theorem dX12_takes_68 : decode cX12_takes 68 = .ok (.iadd, 1) := by decide +kernel
theorem dX12_takes_69 : decode cX12_takes 69 = .ok (.iaload, 1) := by decide +kernel
theorem dX12_takes_70 : decode cX12_takes 70 = .ok (.iastore, 1) := by decide +kernel
theorem dX12_takes_71 : decode cX12_takes 71 = .ok (.iconst 0, 1) := by decide +kernel
theorem dX12_takes_72 : decode cX12_takes 72 = .ok (.istore_n 2, 1) := by decide +kernel
theorem dX12_takes_73 : decode cX12_takes 73 = .ok (.iload_n 2, 1) := by decide +kernel
theorem dX12_takes_74 : decode cX12_takes 74 = .ok (.iconst 5, 1) := by decide +kernel
theorem dX12_takes_75 : decode cX12_takes 75 = .ok (.if_icmp .ge 32, 3) := by decide +kernel
theorem dX12_takes_78 : decode cX12_takes 78 = .ok (.aload_n 0, 1) := by decide +kernel
theorem dX12_takes_79 : decode cX12_takes 79 = .ok (.getfield 94, 3) := by decide +kernel
theorem dX12_takes_82 : decode cX12_takes 82 = .ok (.iconst 5, 1) := by decide +kernel
theorem dX12_takes_83 : decode cX12_takes 83 = .ok (.iload_n 1, 1) := by decide +kernel
theorem dX12_takes_84 : decode cX12_takes 84 = .ok (.imul, 1) := by decide +kernel
theorem dX12_takes_85 : decode cX12_takes 85 = .ok (.iload_n 2, 1) := by decide +kernel
theorem dX12_takes_86 : decode cX12_takes 86 = .ok (.iadd, 1) := by decide +kernel
theorem dX12_takes_87 : decode cX12_takes 87 = .ok (.aload_n 0, 1) := by decide +kernel
theorem dX12_takes_88 : decode cX12_takes 88 = .ok (.getfield 94, 3) := by decide +kernel
theorem dX12_takes_91 : decode cX12_takes 91 = .ok (.iconst 5, 1) := by decide +kernel
theorem dX12_takes_92 : decode cX12_takes 92 = .ok (.bipush 10, 2) := by decide +kernel
theorem dX12_takes_94 : decode cX12_takes 94 = .ok (.iload_n 1, 1) := by decide +kernel
theorem dX12_takes_95 : decode cX12_takes 95 = .ok (.iadd, 1) := by decide +kernel
theorem dX12_takes_96 : decode cX12_takes 96 = .ok (.imul, 1) := by decide +kernel
theorem dX12_takes_97 : decode cX12_takes 97 = .ok (.iload_n 2, 1) := by decide +kernel
theorem dX12_takes_98 : decode cX12_takes 98 = .ok (.iadd, 1) := by decide +kernel
theorem dX12_takes_99 : decode cX12_takes 99 = .ok (.iaload, 1) := by decide +kernel
theorem dX12_takes_100 : decode cX12_takes 100 = .ok (.iastore, 1) := by decide +kernel
theorem dX12_takes_101 : decode cX12_takes 101 = .ok (.iinc 2 1, 3) := by decide +kernel
theorem dX12_takes_104 : decode cX12_takes 104 = .ok (.goto (-31), 3) := by decide +kernel
theorem dX12_takes_107 : decode cX12_takes 107 = .ok (.iinc 1 1, 3) := by decide +kernel
theorem dX12_takes_110 : decode cX12_takes 110 = .ok (.goto (-60), 3) := by decide +kernel
theorem dX12_takes_113 : decode cX12_takes 113 = .ok (.iconst 0, 1) := by decide +kernel
theorem dX12_takes_114 : decode cX12_takes 114 = .ok (.istore_n 1, 1) := by decide +kernel
theorem dX12_takes_115 : decode cX12_takes 115 = .ok (.iload_n 1, 1) := by decide +kernel
theorem dX12_takes_116 : decode cX12_takes 116 = .ok (.bipush 16, 2) := by decide +kernel
theorem dX12_takes_118 : decode cX12_takes 118 = .ok (.if_icmp .ge 148, 3) := by decide +kernel
theorem dX12_takes_121 : decode cX12_takes 121 = .ok (.aload_n 0, 1) := by decide +kernel
theorem dX12_takes_122 : decode cX12_takes 122 = .ok (.getfield 115, 3) := by decide +kernel
theorem dX12_takes_125 : decode cX12_takes 125 = .ok (.iload_n 1, 1) := by decide +kernel
theorem dX12_takes_126 : decode cX12_takes 126 = .ok (.aload_n 0, 1) := by decide +kernel
theorem dX12_takes_127 : decode cX12_takes 127 = .ok (.getfield 115, 3) := by decide +kernel
theorem dX12_takes_130 : decode cX12_takes 130 = .ok (.bipush 16, 2) := by decide +kernel
theorem dX12_takes_132 : decode cX12_takes 132 = .ok (.iload_n 1, 1) := by decide +kernel
theorem dX12_takes_133 : decode cX12_takes 133 = .ok (.iadd, 1) := by decide +kernel
theorem dX12_takes_134 : decode cX12_takes 134 = .ok (.iaload, 1) := by decide +kernel
theorem dX12_takes_135 : decode cX12_takes 135 = .ok (.iastore, 1) := by decide +kernel
theorem dX12_takes_136 : decode cX12_takes 136 = .ok (.aload_n 0, 1) := by decide +kernel
theorem dX12_takes_137 : decode cX12_takes 137 = .ok (.getfield 124, 3) := by decide +kernel
theorem dX12_takes_140 : decode cX12_takes 140 = .ok (.iload_n 1, 1) := by decide +kernel
theorem dX12_takes_141 : decode cX12_takes 141 = .ok (.aload_n 0, 1) := by decide +kernel
theorem dX12_takes_142 : decode cX12_takes 142 = .ok (.getfield 124, 3) := by decide +kernel
theorem dX12_takes_145 : decode cX12_takes 145 = .ok (.bipush 16, 2) := by decide +kernel
theorem dX12_takes_147 : decode cX12_takes 147 = .ok (.iload_n 1, 1) := by decide +kernel
theorem dX12_takes_148 : decode cX12_takes 148 = .ok (.iadd, 1) := by decide +kernel
theorem dX12_takes_149 : decode cX12_takes 149 = .ok (.iaload, 1) := by decide +kernel
theorem dX12_takes_150 : decode cX12_takes 150 = .ok (.iastore, 1) := by decide +kernel
theorem dX12_takes_151 : decode cX12_takes 151 = .ok (.aload_n 0, 1) := by decide +kernel
theorem dX12_takes_152 : decode cX12_takes 152 = .ok (.getfield 127, 3) := by decide +kernel
theorem dX12_takes_155 : decode cX12_takes 155 = .ok (.iload_n 1, 1) := by decide +kernel
theorem dX12_takes_156 : decode cX12_takes 156 = .ok (.aload_n 0, 1) := by decide +kernel
theorem dX12_takes_157 : decode cX12_takes 157 = .ok (.getfield 127, 3) := by decide +kernel
theorem dX12_takes_160 : decode cX12_takes 160 = .ok (.bipush 16, 2) := by decide +kernel
theorem dX12_takes_162 : decode cX12_takes 162 = .ok (.iload_n 1, 1) := by decide +kernel
theorem dX12_takes_163 : decode cX12_takes 163 = .ok (.iadd, 1) := by decide +kernel
theorem dX12_takes_164 : decode cX12_takes 164 = .ok (.baload, 1) := by decide +kernel
theorem dX12_takes_165 : decode cX12_takes 165 = .ok (.bastore, 1) := by decide +kernel
theorem dX12_takes_166 : decode cX12_takes 166 = .ok (.aload_n 0, 1) := by decide +kernel
theorem dX12_takes_167 : decode cX12_takes 167 = .ok (.getfield 130, 3) := by decide +kernel
theorem dX12_takes_170 : decode cX12_takes 170 = .ok (.iload_n 1, 1) := by decide +kernel
theorem dX12_takes_171 : decode cX12_takes 171 = .ok (.aload_n 0, 1) := by decide +kernel
theorem dX12_takes_172 : decode cX12_takes 172 = .ok (.getfield 130, 3) := by decide +kernel
theorem dX12_takes_175 : decode cX12_takes 175 = .ok (.bipush 16, 2) := by decide +kernel
theorem dX12_takes_177 : decode cX12_takes 177 = .ok (.iload_n 1, 1) := by decide +kernel
theorem dX12_takes_178 : decode cX12_takes 178 = .ok (.iadd, 1) := by decide +kernel
theorem dX12_takes_179 : decode cX12_takes 179 = .ok (.iaload, 1) := by decide +kernel
theorem dX12_takes_180 : decode cX12_takes 180 = .ok (.iastore, 1) := by decide +kernel
theorem dX12_takes_181 : decode cX12_takes 181 = .ok (.iconst 0, 1) := by decide +kernel
theorem dX12_takes_182 : decode cX12_takes 182 = .ok (.istore_n 2, 1) := by decide +kernel
theorem dX12_takes_183 : decode cX12_takes 183 = .ok (.iload_n 2, 1) := by decide +kernel
theorem dX12_takes_184 : decode cX12_takes 184 = .ok (.iconst 4, 1) := by decide +kernel
theorem dX12_takes_185 : decode cX12_takes 185 = .ok (.if_icmp .ge 75, 3) := by decide +kernel
theorem dX12_takes_188 : decode cX12_takes 188 = .ok (.iconst 4, 1) := by decide +kernel
theorem dX12_takes_189 : decode cX12_takes 189 = .ok (.iload_n 1, 1) := by decide +kernel
theorem dX12_takes_190 : decode cX12_takes 190 = .ok (.imul, 1) := by decide +kernel
theorem dX12_takes_191 : decode cX12_takes 191 = .ok (.iload_n 2, 1) := by decide +kernel
theorem dX12_takes_192 : decode cX12_takes 192 = .ok (.iadd, 1) := by decide +kernel
theorem dX12_takes_193 : decode cX12_takes 193 = .ok (.istore_n 3, 1) := by decide +kernel
theorem dX12_takes_194 : decode cX12_takes 194 = .ok (.aload_n 0, 1) := by decide +kernel
theorem dX12_takes_195 : decode cX12_takes 195 = .ok (.getfield 133, 3) := by decide +kernel
theorem dX12_takes_198 : decode cX12_takes 198 = .ok (.iload_n 3, 1) := by decide +kernel
theorem dX12_takes_199 : decode cX12_takes 199 = .ok (.aload_n 0, 1) := by decide +kernel
theorem dX12_takes_200 : decode cX12_takes 200 = .ok (.getfield 133, 3) := by decide +kernel
theorem dX12_takes_203 : decode cX12_takes 203 = .ok (.bipush 64, 2) := by decide +kernel
theorem dX12_takes_205 : decode cX12_takes 205 = .ok (.iload_n 3, 1) := by decide +kernel
theorem dX12_takes_206 : decode cX12_takes 206 = .ok (.iadd, 1) := by decide +kernel
theorem dX12_takes_207 : decode cX12_takes 207 = .ok (.iaload, 1) := by decide +kernel
theorem dX12_takes_208 : decode cX12_takes 208 = .ok (.iastore, 1) := by decide +kernel
theorem dX12_takes_209 : decode cX12_takes 209 = .ok (.aload_n 0, 1) := by decide +kernel
theorem dX12_takes_210 : decode cX12_takes 210 = .ok (.getfield 142, 3) := by decide +kernel
theorem dX12_takes_213 : decode cX12_takes 213 = .ok (.iload_n 3, 1) := by decide +kernel
theorem dX12_takes_214 : decode cX12_takes 214 = .ok (.aload_n 0, 1) := by decide +kernel
theorem dX12_takes_215 : decode cX12_takes 215 = .ok (.getfield 142, 3) := by decide +kernel
theorem dX12_takes_218 : decode cX12_takes 218 = .ok (.bipush 64, 2) := by decide +kernel
theorem dX12_takes_220 : decode cX12_takes 220 = .ok (.iload_n 3, 1) := by decide +kernel
theorem dX12_takes_221 : decode cX12_takes 221 = .ok (.iadd, 1) := by decide +kernel
theorem dX12_takes_222 : decode cX12_takes 222 = .ok (.iaload, 1) := by decide +kernel
theorem dX12_takes_223 : decode cX12_takes 223 = .ok (.iastore, 1) := by decide +kernel
theorem dX12_takes_224 : decode cX12_takes 224 = .ok (.aload_n 0, 1) := by decide +kernel
theorem dX12_takes_225 : decode cX12_takes 225 = .ok (.getfield 145, 3) := by decide +kernel
theorem dX12_takes_228 : decode cX12_takes 228 = .ok (.iload_n 3, 1) := by decide +kernel
theorem dX12_takes_229 : decode cX12_takes 229 = .ok (.aload_n 0, 1) := by decide +kernel
theorem dX12_takes_230 : decode cX12_takes 230 = .ok (.getfield 145, 3) := by decide +kernel
theorem dX12_takes_233 : decode cX12_takes 233 = .ok (.bipush 64, 2) := by decide +kernel
theorem dX12_takes_235 : decode cX12_takes 235 = .ok (.iload_n 3, 1) := by decide +kernel
theorem dX12_takes_236 : decode cX12_takes 236 = .ok (.iadd, 1) := by decide +kernel
theorem dX12_takes_237 : decode cX12_takes 237 = .ok (.iaload, 1) := by decide +kernel
theorem dX12_takes_238 : decode cX12_takes 238 = .ok (.iastore, 1) := by decide +kernel
theorem dX12_takes_239 : decode cX12_takes 239 = .ok (.aload_n 0, 1) := by decide +kernel
theorem dX12_takes_240 : decode cX12_takes 240 = .ok (.getfield 148, 3) := by decide +kernel
theorem dX12_takes_243 : decode cX12_takes 243 = .ok (.iload_n 3, 1) := by decide +kernel
theorem dX12_takes_244 : decode cX12_takes 244 = .ok (.aload_n 0, 1) := by decide +kernel
theorem dX12_takes_245 : decode cX12_takes 245 = .ok (.getfield 148, 3) := by decide +kernel
theorem dX12_takes_248 : decode cX12_takes 248 = .ok (.bipush 64, 2) := by decide +kernel
theorem dX12_takes_250 : decode cX12_takes 250 = .ok (.iload_n 3, 1) := by decide +kernel
theorem dX12_takes_251 : decode cX12_takes 251 = .ok (.iadd, 1) := by decide +kernel
theorem dX12_takes_252 : decode cX12_takes 252 = .ok (.iaload, 1) := by decide +kernel
theorem dX12_takes_253 : decode cX12_takes 253 = .ok (.iastore, 1) := by decide +kernel
theorem dX12_takes_254 : decode cX12_takes 254 = .ok (.iinc 2 1, 3) := by decide +kernel
theorem dX12_takes_257 : decode cX12_takes 257 = .ok (.goto (-74), 3) := by decide +kernel
theorem dX12_takes_260 : decode cX12_takes 260 = .ok (.iinc 1 1, 3) := by decide +kernel
theorem dX12_takes_263 : decode cX12_takes 263 = .ok (.goto (-148), 3) := by decide +kernel
theorem dX12_takes_266 : decode cX12_takes 266 = .ok (.iconst 0, 1) := by decide +kernel
theorem dX12_takes_267 : decode cX12_takes 267 = .ok (.istore_n 1, 1) := by decide +kernel
theorem dX12_takes_268 : decode cX12_takes 268 = .ok (.iload_n 1, 1) := by decide +kernel
theorem dX12_takes_269 : decode cX12_takes 269 = .ok (.bipush 10, 2) := by decide +kernel
theorem dX12_takes_271 : decode cX12_takes 271 = .ok (.if_icmp .ge 16, 3) := by decide +kernel
theorem dX12_takes_274 : decode cX12_takes 274 = .ok (.aload_n 0, 1) := by decide +kernel
theorem dX12_takes_275 : decode cX12_takes 275 = .ok (.getfield 151, 3) := by decide +kernel
theorem dX12_takes_278 : decode cX12_takes 278 = .ok (.iload_n 1, 1) := by decide +kernel
theorem dX12_takes_279 : decode cX12_takes 279 = .ok (.iload_n 1, 1) := by decide +kernel
theorem dX12_takes_280 : decode cX12_takes 280 = .ok (.iastore, 1) := by decide +kernel
theorem dX12_takes_281 : decode cX12_takes 281 = .ok (.iinc 1 1, 3) := by decide +kernel
theorem dX12_takes_284 : decode cX12_takes 284 = .ok (.goto (-16), 3) := by decide +kernel
theorem dX12_takes_287 : decode cX12_takes 287 = .ok (.iconst 0, 1) := by decide +kernel
theorem dX12_takes_288 : decode cX12_takes 288 = .ok (.istore_n 1, 1) := by decide +kernel
theorem dX12_takes_289 : decode cX12_takes 289 = .ok (.iload_n 1, 1) := by decide +kernel
theorem dX12_takes_290 : decode cX12_takes 290 = .ok (.bipush 9, 2) := by decide +kernel
theorem dX12_takes_292 : decode cX12_takes 292 = .ok (.if_icmp .ge 81, 3) := by decide +kernel
theorem dX12_takes_295 : decode cX12_takes 295 = .ok (.bipush 8, 2) := by decide +kernel
theorem dX12_takes_297 : decode cX12_takes 297 = .ok (.istore_n 2, 1) := by decide +kernel
theorem dX12_takes_298 : decode cX12_takes 298 = .ok (.iload_n 2, 1) := by decide +kernel
theorem dX12_takes_299 : decode cX12_takes 299 = .ok (.bipush 8, 2) := by decide +kernel
theorem dX12_takes_301 : decode cX12_takes 301 = .ok (.aload_n 0, 1) := by decide +kernel
theorem dX12_takes_302 : decode cX12_takes 302 = .ok (.getfield 97, 3) := by decide +kernel
theorem dX12_takes_305 : decode cX12_takes 305 = .ok (.iconst 1, 1) := by decide +kernel
theorem dX12_takes_306 : decode cX12_takes 306 = .ok (.iaload, 1) := by decide +kernel
theorem dX12_takes_307 : decode cX12_takes 307 = .ok (.iadd, 1) := by decide +kernel
theorem dX12_takes_308 : decode cX12_takes 308 = .ok (.if_icmp .ge 59, 3) := by decide +kernel
theorem dX12_takes_311 : decode cX12_takes 311 = .ok (.aload_n 0, 1) := by decide +kernel
theorem dX12_takes_312 : decode cX12_takes 312 = .ok (.getfield 151, 3) := by decide +kernel
theorem dX12_takes_315 : decode cX12_takes 315 = .ok (.aload_n 0, 1) := by decide +kernel
theorem dX12_takes_316 : decode cX12_takes 316 = .ok (.getfield 100, 3) := by decide +kernel
theorem dX12_takes_319 : decode cX12_takes 319 = .ok (.iload_n 2, 1) := by decide +kernel
theorem dX12_takes_320 : decode cX12_takes 320 = .ok (.iaload, 1) := by decide +kernel
theorem dX12_takes_321 : decode cX12_takes 321 = .ok (.iaload, 1) := by decide +kernel
theorem dX12_takes_322 : decode cX12_takes 322 = .ok (.aload_n 0, 1) := by decide +kernel
theorem dX12_takes_323 : decode cX12_takes 323 = .ok (.getfield 151, 3) := by decide +kernel
theorem dX12_takes_326 : decode cX12_takes 326 = .ok (.aload_n 0, 1) := by decide +kernel
theorem dX12_takes_327 : decode cX12_takes 327 = .ok (.getfield 103, 3) := by decide +kernel
theorem dX12_takes_330 : decode cX12_takes 330 = .ok (.iload_n 2, 1) := by decide +kernel
theorem dX12_takes_331 : decode cX12_takes 331 = .ok (.iaload, 1) := by decide +kernel
theorem dX12_takes_332 : decode cX12_takes 332 = .ok (.iaload, 1) := by decide +kernel
theorem dX12_takes_333 : decode cX12_takes 333 = .ok (.invokestatic 308, 3) := by decide +kernel
theorem dX12_takes_336 : decode cX12_takes 336 = .ok (.istore_n 3, 1) := by decide +kernel
theorem dX12_takes_337 : decode cX12_takes 337 = .ok (.aload_n 0, 1) := by decide +kernel
theorem dX12_takes_338 : decode cX12_takes 338 = .ok (.getfield 151, 3) := by decide +kernel
theorem dX12_takes_341 : decode cX12_takes 341 = .ok (.aload_n 0, 1) := by decide +kernel
theorem dX12_takes_342 : decode cX12_takes 342 = .ok (.getfield 100, 3) := by decide +kernel
theorem dX12_takes_345 : decode cX12_takes 345 = .ok (.iload_n 2, 1) := by decide +kernel
theorem dX12_takes_346 : decode cX12_takes 346 = .ok (.iaload, 1) := by decide +kernel
theorem dX12_takes_347 : decode cX12_takes 347 = .ok (.iload_n 3, 1) := by decide +kernel
theorem dX12_takes_348 : decode cX12_takes 348 = .ok (.iastore, 1) := by decide +kernel
theorem dX12_takes_349 : decode cX12_takes 349 = .ok (.aload_n 0, 1) := by decide +kernel
theorem dX12_takes_350 : decode cX12_takes 350 = .ok (.getfield 151, 3) := by decide +kernel
theorem dX12_takes_353 : decode cX12_takes 353 = .ok (.aload_n 0, 1) := by decide +kernel
theorem dX12_takes_354 : decode cX12_takes 354 = .ok (.getfield 103, 3) := by decide +kernel
theorem dX12_takes_357 : decode cX12_takes 357 = .ok (.iload_n 2, 1) := by decide +kernel
theorem dX12_takes_358 : decode cX12_takes 358 = .ok (.iaload, 1) := by decide +kernel
theorem dX12_takes_359 : decode cX12_takes 359 = .ok (.iload_n 3, 1) := by decide +kernel
theorem dX12_takes_360 : decode cX12_takes 360 = .ok (.iastore, 1) := by decide +kernel
theorem dX12_takes_361 : decode cX12_takes 361 = .ok (.iinc 2 1, 3) := by decide +kernel
theorem dX12_takes_364 : decode cX12_takes 364 = .ok (.goto (-66), 3) := by decide +kernel
theorem dX12_takes_367 : decode cX12_takes 367 = .ok (.iinc 1 1, 3) := by decide +kernel
theorem dX12_takes_370 : decode cX12_takes 370 = .ok (.goto (-81), 3) := by decide +kernel
theorem dX12_takes_373 : decode cX12_takes 373 = .ok (.return_, 1) := by decide +kernel
theorem dX12_fault_0 : decode cX12_fault 0 = .ok (.aload_n 0, 1) := by decide +kernel
theorem dX12_fault_1 : decode cX12_fault 1 = .ok (.iconst 0, 1) := by decide +kernel
theorem dX12_fault_2 : decode cX12_fault 2 = .ok (.putfield 224, 3) := by decide +kernel
theorem dX12_fault_5 : decode cX12_fault 5 = .ok (.iload_n 1, 1) := by decide +kernel
theorem dX12_fault_6 : decode cX12_fault 6 = .ok (.ifCond .ne 10, 3) := by decide +kernel
theorem dX12_fault_9 : decode cX12_fault 9 = .ok (.aload_n 0, 1) := by decide +kernel
theorem dX12_fault_10 : decode cX12_fault 10 = .ok (.getfield 483, 3) := by decide +kernel
theorem dX12_fault_13 : decode cX12_fault 13 = .ok (.goto 16, 3) := by decide +kernel
theorem dX12_fault_16 : decode cX12_fault 16 = .ok (.iload_n 1, 1) := by decide +kernel
theorem dX12_fault_17 : decode cX12_fault 17 = .ok (.iconst 1, 1) := by decide +kernel
theorem dX12_fault_18 : decode cX12_fault 18 = .ok (.if_icmp .ne 10, 3) := by decide +kernel
theorem dX12_fault_21 : decode cX12_fault 21 = .ok (.aload_n 0, 1) := by decide +kernel
theorem dX12_fault_22 : decode cX12_fault 22 = .ok (.getfield 154, 3) := by decide +kernel
theorem dX12_fault_25 : decode cX12_fault 25 = .ok (.goto 4, 3) := by decide +kernel
theorem dX12_fault_28 : decode cX12_fault 28 = .ok (.iconst (-1), 1) := by decide +kernel
theorem dX12_fault_29 : decode cX12_fault 29 = .ok (.ireturn, 1) := by decide +kernel
theorem dX12_isDim_0 : decode cX12_isDim 0 = .ok (.aload_n 0, 1) := by decide +kernel
theorem dX12_isDim_1 : decode cX12_isDim 1 = .ok (.getfield 91, 3) := by decide +kernel
theorem dX12_isDim_4 : decode cX12_isDim 4 = .ok (.iload_n 1, 1) := by decide +kernel
theorem dX12_isDim_5 : decode cX12_isDim 5 = .ok (.iaload, 1) := by decide +kernel
theorem dX12_isDim_6 : decode cX12_isDim 6 = .ok (.aload_n 0, 1) := by decide +kernel
theorem dX12_isDim_7 : decode cX12_isDim 7 = .ok (.getfield 91, 3) := by decide +kernel
theorem dX12_isDim_10 : decode cX12_isDim 10 = .ok (.iload_n 2, 1) := by decide +kernel
theorem dX12_isDim_11 : decode cX12_isDim 11 = .ok (.iaload, 1) := by decide +kernel
theorem dX12_isDim_12 : decode cX12_isDim 12 = .ok (.if_icmp .eq 5, 3) := by decide +kernel
theorem dX12_isDim_15 : decode cX12_isDim 15 = .ok (.iconst 0, 1) := by decide +kernel
theorem dX12_isDim_16 : decode cX12_isDim 16 = .ok (.ireturn, 1) := by decide +kernel
theorem dX12_isDim_17 : decode cX12_isDim 17 = .ok (.iconst 0, 1) := by decide +kernel
theorem dX12_isDim_18 : decode cX12_isDim 18 = .ok (.istore_n 3, 1) := by decide +kernel
theorem dX12_isDim_19 : decode cX12_isDim 19 = .ok (.iload_n 3, 1) := by decide +kernel
theorem dX12_isDim_20 : decode cX12_isDim 20 = .ok (.aload_n 0, 1) := by decide +kernel
theorem dX12_isDim_21 : decode cX12_isDim 21 = .ok (.getfield 91, 3) := by decide +kernel
theorem dX12_isDim_24 : decode cX12_isDim 24 = .ok (.iload_n 1, 1) := by decide +kernel
theorem dX12_isDim_25 : decode cX12_isDim 25 = .ok (.iaload, 1) := by decide +kernel
theorem dX12_isDim_26 : decode cX12_isDim 26 = .ok (.if_icmp .ge 39, 3) := by decide +kernel
theorem dX12_isDim_29 : decode cX12_isDim 29 = .ok (.aload_n 0, 1) := by decide +kernel
theorem dX12_isDim_30 : decode cX12_isDim 30 = .ok (.getfield 94, 3) := by decide +kernel
theorem dX12_isDim_33 : decode cX12_isDim 33 = .ok (.iconst 5, 1) := by decide +kernel
theorem dX12_isDim_34 : decode cX12_isDim 34 = .ok (.iload_n 1, 1) := by decide +kernel
theorem dX12_isDim_35 : decode cX12_isDim 35 = .ok (.imul, 1) := by decide +kernel
theorem dX12_isDim_36 : decode cX12_isDim 36 = .ok (.iload_n 3, 1) := by decide +kernel
theorem dX12_isDim_37 : decode cX12_isDim 37 = .ok (.iadd, 1) := by decide +kernel
theorem dX12_isDim_38 : decode cX12_isDim 38 = .ok (.iaload, 1) := by decide +kernel
theorem dX12_isDim_39 : decode cX12_isDim 39 = .ok (.aload_n 0, 1) := by decide +kernel
theorem dX12_isDim_40 : decode cX12_isDim 40 = .ok (.getfield 151, 3) := by decide +kernel
theorem dX12_isDim_43 : decode cX12_isDim 43 = .ok (.aload_n 0, 1) := by decide +kernel
theorem dX12_isDim_44 : decode cX12_isDim 44 = .ok (.getfield 94, 3) := by decide +kernel
theorem dX12_isDim_47 : decode cX12_isDim 47 = .ok (.iconst 5, 1) := by decide +kernel
theorem dX12_isDim_48 : decode cX12_isDim 48 = .ok (.iload_n 2, 1) := by decide +kernel
theorem dX12_isDim_49 : decode cX12_isDim 49 = .ok (.imul, 1) := by decide +kernel
theorem dX12_isDim_50 : decode cX12_isDim 50 = .ok (.iload_n 3, 1) := by decide +kernel
theorem dX12_isDim_51 : decode cX12_isDim 51 = .ok (.iadd, 1) := by decide +kernel
theorem dX12_isDim_52 : decode cX12_isDim 52 = .ok (.iaload, 1) := by decide +kernel
theorem dX12_isDim_53 : decode cX12_isDim 53 = .ok (.iaload, 1) := by decide +kernel
theorem dX12_isDim_54 : decode cX12_isDim 54 = .ok (.if_icmp .eq 5, 3) := by decide +kernel
theorem dX12_isDim_57 : decode cX12_isDim 57 = .ok (.iconst 0, 1) := by decide +kernel
theorem dX12_isDim_58 : decode cX12_isDim 58 = .ok (.ireturn, 1) := by decide +kernel
theorem dX12_isDim_59 : decode cX12_isDim 59 = .ok (.iinc 3 1, 3) := by decide +kernel
theorem dX12_isDim_62 : decode cX12_isDim 62 = .ok (.goto (-43), 3) := by decide +kernel
theorem dX12_isDim_65 : decode cX12_isDim 65 = .ok (.iconst 1, 1) := by decide +kernel
theorem dX12_isDim_66 : decode cX12_isDim 66 = .ok (.ireturn, 1) := by decide +kernel
theorem dX12_readAs_0 : decode cX12_readAs 0 = .ok (.iconst 0, 1) := by decide +kernel
theorem dX12_readAs_1 : decode cX12_readAs 1 = .ok (.istore_n 2, 1) := by decide +kernel
theorem dX12_readAs_2 : decode cX12_readAs 2 = .ok (.iload_n 2, 1) := by decide +kernel
theorem dX12_readAs_3 : decode cX12_readAs 3 = .ok (.aload_n 0, 1) := by decide +kernel
theorem dX12_readAs_4 : decode cX12_readAs 4 = .ok (.getfield 84, 3) := by decide +kernel
theorem dX12_readAs_7 : decode cX12_readAs 7 = .ok (.iconst 0, 1) := by decide +kernel
theorem dX12_readAs_8 : decode cX12_readAs 8 = .ok (.iaload, 1) := by decide +kernel
theorem dX12_readAs_9 : decode cX12_readAs 9 = .ok (.if_icmp .ge 20, 3) := by decide +kernel
theorem dX12_readAs_12 : decode cX12_readAs 12 = .ok (.aload_n 0, 1) := by decide +kernel
theorem dX12_readAs_13 : decode cX12_readAs 13 = .ok (.iload_n 2, 1) := by decide +kernel
theorem dX12_readAs_14 : decode cX12_readAs 14 = .ok (.iload_n 1, 1) := by decide +kernel
theorem dX12_readAs_15 : decode cX12_readAs 15 = .ok (.invokevirtual 489, 3) := by decide +kernel
theorem dX12_readAs_18 : decode cX12_readAs 18 = .ok (.ifCond .eq 5, 3) := by decide +kernel
theorem dX12_readAs_21 : decode cX12_readAs 21 = .ok (.iload_n 2, 1) := by decide +kernel
theorem dX12_readAs_22 : decode cX12_readAs 22 = .ok (.ireturn, 1) := by decide +kernel
theorem dX12_readAs_23 : decode cX12_readAs 23 = .ok (.iinc 2 1, 3) := by decide +kernel
theorem dX12_readAs_26 : decode cX12_readAs 26 = .ok (.goto (-24), 3) := by decide +kernel
theorem dX12_readAs_29 : decode cX12_readAs 29 = .ok (.iconst (-1), 1) := by decide +kernel
theorem dX12_readAs_30 : decode cX12_readAs 30 = .ok (.ireturn, 1) := by decide +kernel
theorem dX12_puts_0 : decode cX12_puts 0 = .ok (.aload_n 0, 1) := by decide +kernel
theorem dX12_puts_1 : decode cX12_puts 1 = .ok (.getfield 492, 3) := by decide +kernel
theorem dX12_puts_4 : decode cX12_puts 4 = .ok (.ifCond .eq 4, 3) := by decide +kernel
theorem dX12_puts_7 : decode cX12_puts 7 = .ok (.return_, 1) := by decide +kernel
theorem dX12_puts_8 : decode cX12_puts 8 = .ok (.aload_n 0, 1) := by decide +kernel
theorem dX12_puts_9 : decode cX12_puts 9 = .ok (.getfield 495, 3) := by decide +kernel
theorem dX12_puts_12 : decode cX12_puts 12 = .ok (.sipush 200, 3) := by decide +kernel
theorem dX12_puts_15 : decode cX12_puts 15 = .ok (.if_icmp .ne 9, 3) := by decide +kernel
theorem dX12_puts_18 : decode cX12_puts 18 = .ok (.aload_n 0, 1) := by decide +kernel
theorem dX12_puts_19 : decode cX12_puts 19 = .ok (.iconst 1, 1) := by decide +kernel
theorem dX12_puts_20 : decode cX12_puts 20 = .ok (.putfield 492, 3) := by decide +kernel
theorem dX12_puts_23 : decode cX12_puts 23 = .ok (.return_, 1) := by decide +kernel
theorem dX12_puts_24 : decode cX12_puts 24 = .ok (.aload_n 0, 1) := by decide +kernel
theorem dX12_puts_25 : decode cX12_puts 25 = .ok (.getfield 157, 3) := by decide +kernel
theorem dX12_puts_28 : decode cX12_puts 28 = .ok (.aload_n 0, 1) := by decide +kernel
theorem dX12_puts_29 : decode cX12_puts 29 = .ok (.getfield 495, 3) := by decide +kernel
theorem dX12_puts_32 : decode cX12_puts 32 = .ok (.iload 4, 2) := by decide +kernel
theorem dX12_puts_34 : decode cX12_puts 34 = .ok (.iastore, 1) := by decide +kernel
theorem dX12_puts_35 : decode cX12_puts 35 = .ok (.aload_n 0, 1) := by decide +kernel
theorem dX12_puts_36 : decode cX12_puts 36 = .ok (.getfield 160, 3) := by decide +kernel
theorem dX12_puts_39 : decode cX12_puts 39 = .ok (.aload_n 0, 1) := by decide +kernel
theorem dX12_puts_40 : decode cX12_puts 40 = .ok (.getfield 495, 3) := by decide +kernel
theorem dX12_puts_43 : decode cX12_puts 43 = .ok (.iload_n 2, 1) := by decide +kernel
theorem dX12_puts_44 : decode cX12_puts 44 = .ok (.iastore, 1) := by decide +kernel
theorem dX12_puts_45 : decode cX12_puts 45 = .ok (.aload_n 0, 1) := by decide +kernel
theorem dX12_puts_46 : decode cX12_puts 46 = .ok (.getfield 163, 3) := by decide +kernel
theorem dX12_puts_49 : decode cX12_puts 49 = .ok (.aload_n 0, 1) := by decide +kernel
theorem dX12_puts_50 : decode cX12_puts 50 = .ok (.getfield 495, 3) := by decide +kernel
theorem dX12_puts_53 : decode cX12_puts 53 = .ok (.iload_n 1, 1) := by decide +kernel
theorem dX12_puts_54 : decode cX12_puts 54 = .ok (.iastore, 1) := by decide +kernel
theorem dX12_puts_55 : decode cX12_puts 55 = .ok (.aload_n 0, 1) := by decide +kernel
theorem dX12_puts_56 : decode cX12_puts 56 = .ok (.getfield 166, 3) := by decide +kernel
theorem dX12_puts_59 : decode cX12_puts 59 = .ok (.aload_n 0, 1) := by decide +kernel
theorem dX12_puts_60 : decode cX12_puts 60 = .ok (.getfield 495, 3) := by decide +kernel
theorem dX12_puts_63 : decode cX12_puts 63 = .ok (.iload_n 3, 1) := by decide +kernel
theorem dX12_puts_64 : decode cX12_puts 64 = .ok (.iastore, 1) := by decide +kernel
theorem dX12_puts_65 : decode cX12_puts 65 = .ok (.aload_n 0, 1) := by decide +kernel
theorem dX12_puts_66 : decode cX12_puts 66 = .ok (.getfield 169, 3) := by decide +kernel
theorem dX12_puts_69 : decode cX12_puts 69 = .ok (.aload_n 0, 1) := by decide +kernel
theorem dX12_puts_70 : decode cX12_puts 70 = .ok (.getfield 495, 3) := by decide +kernel
theorem dX12_puts_73 : decode cX12_puts 73 = .ok (.iconst 0, 1) := by decide +kernel
theorem dX12_puts_74 : decode cX12_puts 74 = .ok (.bastore, 1) := by decide +kernel
theorem dX12_puts_75 : decode cX12_puts 75 = .ok (.aload_n 0, 1) := by decide +kernel
theorem dX12_puts_76 : decode cX12_puts 76 = .ok (.dup, 1) := by decide +kernel
theorem dX12_puts_77 : decode cX12_puts 77 = .ok (.getfield 495, 3) := by decide +kernel
theorem dX12_puts_80 : decode cX12_puts 80 = .ok (.iconst 1, 1) := by decide +kernel
theorem dX12_puts_81 : decode cX12_puts 81 = .ok (.iadd, 1) := by decide +kernel
theorem dX12_puts_82 : decode cX12_puts 82 = .ok (.putfield 495, 3) := by decide +kernel
theorem dX12_puts_85 : decode cX12_puts 85 = .ok (.return_, 1) := by decide +kernel
theorem dX12_sends_0 : decode cX12_sends 0 = .ok (.iconst 0, 1) := by decide +kernel
theorem dX12_sends_1 : decode cX12_sends 1 = .ok (.istore 6, 2) := by decide +kernel
theorem dX12_sends_3 : decode cX12_sends 3 = .ok (.iload 6, 2) := by decide +kernel
theorem dX12_sends_5 : decode cX12_sends 5 = .ok (.aload_n 0, 1) := by decide +kernel
theorem dX12_sends_6 : decode cX12_sends 6 = .ok (.getfield 227, 3) := by decide +kernel
theorem dX12_sends_9 : decode cX12_sends 9 = .ok (.if_icmp .ge 81, 3) := by decide +kernel
theorem dX12_sends_12 : decode cX12_sends 12 = .ok (.aload_n 0, 1) := by decide +kernel
theorem dX12_sends_13 : decode cX12_sends 13 = .ok (.getfield 75, 3) := by decide +kernel
theorem dX12_sends_16 : decode cX12_sends 16 = .ok (.iload_n 1, 1) := by decide +kernel
theorem dX12_sends_17 : decode cX12_sends 17 = .ok (.iaload, 1) := by decide +kernel
theorem dX12_sends_18 : decode cX12_sends 18 = .ok (.iload 6, 2) := by decide +kernel
theorem dX12_sends_20 : decode cX12_sends 20 = .ok (.ishr, 1) := by decide +kernel
theorem dX12_sends_21 : decode cX12_sends 21 = .ok (.iconst 1, 1) := by decide +kernel
theorem dX12_sends_22 : decode cX12_sends 22 = .ok (.iand, 1) := by decide +kernel
theorem dX12_sends_23 : decode cX12_sends 23 = .ok (.iconst 1, 1) := by decide +kernel
theorem dX12_sends_24 : decode cX12_sends 24 = .ok (.if_icmp .ne 43, 3) := by decide +kernel
theorem dX12_sends_27 : decode cX12_sends 27 = .ok (.aload_n 0, 1) := by decide +kernel
theorem dX12_sends_28 : decode cX12_sends 28 = .ok (.getfield 335, 3) := by decide +kernel
theorem dX12_sends_31 : decode cX12_sends 31 = .ok (.iload 6, 2) := by decide +kernel
theorem dX12_sends_33 : decode cX12_sends 33 = .ok (.ishr, 1) := by decide +kernel
theorem dX12_sends_34 : decode cX12_sends 34 = .ok (.iconst 1, 1) := by decide +kernel
theorem dX12_sends_35 : decode cX12_sends 35 = .ok (.iand, 1) := by decide +kernel
theorem dX12_sends_36 : decode cX12_sends 36 = .ok (.iconst 1, 1) := by decide +kernel
theorem dX12_sends_37 : decode cX12_sends 37 = .ok (.if_icmp .ne 30, 3) := by decide +kernel
theorem dX12_sends_40 : decode cX12_sends 40 = .ok (.iload 4, 2) := by decide +kernel
theorem dX12_sends_42 : decode cX12_sends 42 = .ok (.iconst (-1), 1) := by decide +kernel
theorem dX12_sends_43 : decode cX12_sends 43 = .ok (.if_icmp .ne 13, 3) := by decide +kernel
theorem dX12_sends_46 : decode cX12_sends 46 = .ok (.iload 6, 2) := by decide +kernel
theorem dX12_sends_48 : decode cX12_sends 48 = .ok (.iload 5, 2) := by decide +kernel
theorem dX12_sends_50 : decode cX12_sends 50 = .ok (.if_icmp .eq 17, 3) := by decide +kernel
theorem dX12_sends_53 : decode cX12_sends 53 = .ok (.goto 10, 3) := by decide +kernel
theorem dX12_sends_56 : decode cX12_sends 56 = .ok (.iload 6, 2) := by decide +kernel
theorem dX12_sends_58 : decode cX12_sends 58 = .ok (.iload 4, 2) := by decide +kernel
theorem dX12_sends_60 : decode cX12_sends 60 = .ok (.if_icmp .ne 7, 3) := by decide +kernel
theorem dX12_sends_63 : decode cX12_sends 63 = .ok (.iconst 1, 1) := by decide +kernel
theorem dX12_sends_64 : decode cX12_sends 64 = .ok (.goto 4, 3) := by decide +kernel
theorem dX12_sends_67 : decode cX12_sends 67 = .ok (.iconst 0, 1) := by decide +kernel
theorem dX12_sends_68 : decode cX12_sends 68 = .ok (.istore 7, 2) := by decide +kernel
theorem dX12_sends_70 : decode cX12_sends 70 = .ok (.iload 7, 2) := by decide +kernel
theorem dX12_sends_72 : decode cX12_sends 72 = .ok (.ifCond .eq 12, 3) := by decide +kernel
theorem dX12_sends_75 : decode cX12_sends 75 = .ok (.aload_n 0, 1) := by decide +kernel
theorem dX12_sends_76 : decode cX12_sends 76 = .ok (.iload_n 1, 1) := by decide +kernel
theorem dX12_sends_77 : decode cX12_sends 77 = .ok (.iload 6, 2) := by decide +kernel
theorem dX12_sends_79 : decode cX12_sends 79 = .ok (.iload_n 2, 1) := by decide +kernel
theorem dX12_sends_80 : decode cX12_sends 80 = .ok (.iload_n 3, 1) := by decide +kernel
theorem dX12_sends_81 : decode cX12_sends 81 = .ok (.invokevirtual 498, 3) := by decide +kernel
theorem dX12_sends_84 : decode cX12_sends 84 = .ok (.iinc 6 1, 3) := by decide +kernel
theorem dX12_sends_87 : decode cX12_sends 87 = .ok (.goto (-84), 3) := by decide +kernel
theorem dX12_sends_90 : decode cX12_sends 90 = .ok (.return_, 1) := by decide +kernel
theorem dX12_hears_0 : decode cX12_hears 0 = .ok (.bipush 10, 2) := by decide +kernel
theorem dX12_hears_2 : decode cX12_hears 2 = .ok (.iload_n 1, 1) := by decide +kernel
theorem dX12_hears_3 : decode cX12_hears 3 = .ok (.imul, 1) := by decide +kernel
theorem dX12_hears_4 : decode cX12_hears 4 = .ok (.iload_n 2, 1) := by decide +kernel
theorem dX12_hears_5 : decode cX12_hears 5 = .ok (.iadd, 1) := by decide +kernel
theorem dX12_hears_6 : decode cX12_hears 6 = .ok (.istore 6, 2) := by decide +kernel
theorem dX12_hears_8 : decode cX12_hears 8 = .ok (.aload_n 0, 1) := by decide +kernel
theorem dX12_hears_9 : decode cX12_hears 9 = .ok (.getfield 172, 3) := by decide +kernel
theorem dX12_hears_12 : decode cX12_hears 12 = .ok (.iload 6, 2) := by decide +kernel
theorem dX12_hears_14 : decode cX12_hears 14 = .ok (.iaload, 1) := by decide +kernel
theorem dX12_hears_15 : decode cX12_hears 15 = .ok (.iconst (-1), 1) := by decide +kernel
theorem dX12_hears_16 : decode cX12_hears 16 = .ok (.if_icmp .ne 29, 3) := by decide +kernel
theorem dX12_hears_19 : decode cX12_hears 19 = .ok (.aload_n 0, 1) := by decide +kernel
theorem dX12_hears_20 : decode cX12_hears 20 = .ok (.getfield 172, 3) := by decide +kernel
theorem dX12_hears_23 : decode cX12_hears 23 = .ok (.iload 6, 2) := by decide +kernel
theorem dX12_hears_25 : decode cX12_hears 25 = .ok (.iload_n 3, 1) := by decide +kernel
theorem dX12_hears_26 : decode cX12_hears 26 = .ok (.iastore, 1) := by decide +kernel
theorem dX12_hears_27 : decode cX12_hears 27 = .ok (.aload_n 0, 1) := by decide +kernel
theorem dX12_hears_28 : decode cX12_hears 28 = .ok (.getfield 175, 3) := by decide +kernel
theorem dX12_hears_31 : decode cX12_hears 31 = .ok (.iload 6, 2) := by decide +kernel
theorem dX12_hears_33 : decode cX12_hears 33 = .ok (.iload 4, 2) := by decide +kernel
theorem dX12_hears_35 : decode cX12_hears 35 = .ok (.iastore, 1) := by decide +kernel
theorem dX12_hears_36 : decode cX12_hears 36 = .ok (.aload_n 0, 1) := by decide +kernel
theorem dX12_hears_37 : decode cX12_hears 37 = .ok (.getfield 178, 3) := by decide +kernel
theorem dX12_hears_40 : decode cX12_hears 40 = .ok (.iload 6, 2) := by decide +kernel
theorem dX12_hears_42 : decode cX12_hears 42 = .ok (.iload 5, 2) := by decide +kernel
theorem dX12_hears_44 : decode cX12_hears 44 = .ok (.iastore, 1) := by decide +kernel
theorem dX12_hears_45 : decode cX12_hears 45 = .ok (.iload 4, 2) := by decide +kernel
theorem dX12_hears_47 : decode cX12_hears 47 = .ok (.iconst (-1), 1) := by decide +kernel
theorem dX12_hears_48 : decode cX12_hears 48 = .ok (.if_icmp .eq 17, 3) := by decide +kernel
theorem dX12_hears_51 : decode cX12_hears 51 = .ok (.aload_n 0, 1) := by decide +kernel
theorem dX12_hears_52 : decode cX12_hears 52 = .ok (.getfield 181, 3) := by decide +kernel
theorem dX12_hears_55 : decode cX12_hears 55 = .ok (.iload 6, 2) := by decide +kernel
theorem dX12_hears_57 : decode cX12_hears 57 = .ok (.dup2, 1) := by decide +kernel
theorem dX12_hears_58 : decode cX12_hears 58 = .ok (.iaload, 1) := by decide +kernel
theorem dX12_hears_59 : decode cX12_hears 59 = .ok (.iconst 1, 1) := by decide +kernel
theorem dX12_hears_60 : decode cX12_hears 60 = .ok (.iload 4, 2) := by decide +kernel
theorem dX12_hears_62 : decode cX12_hears 62 = .ok (.ishl, 1) := by decide +kernel
theorem dX12_hears_63 : decode cX12_hears 63 = .ok (.ior, 1) := by decide +kernel
theorem dX12_hears_64 : decode cX12_hears 64 = .ok (.iastore, 1) := by decide +kernel
theorem dX12_hears_65 : decode cX12_hears 65 = .ok (.iconst 0, 1) := by decide +kernel
theorem dX12_hears_66 : decode cX12_hears 66 = .ok (.istore 7, 2) := by decide +kernel
theorem dX12_hears_68 : decode cX12_hears 68 = .ok (.iload 7, 2) := by decide +kernel
theorem dX12_hears_70 : decode cX12_hears 70 = .ok (.aload_n 0, 1) := by decide +kernel
theorem dX12_hears_71 : decode cX12_hears 71 = .ok (.getfield 112, 3) := by decide +kernel
theorem dX12_hears_74 : decode cX12_hears 74 = .ok (.iconst 0, 1) := by decide +kernel
theorem dX12_hears_75 : decode cX12_hears 75 = .ok (.iaload, 1) := by decide +kernel
theorem dX12_hears_76 : decode cX12_hears 76 = .ok (.if_icmp .ge 20, 3) := by decide +kernel
theorem dX12_hears_79 : decode cX12_hears 79 = .ok (.aload_n 0, 1) := by decide +kernel
theorem dX12_hears_80 : decode cX12_hears 80 = .ok (.iload 7, 2) := by decide +kernel
theorem dX12_hears_82 : decode cX12_hears 82 = .ok (.iload_n 1, 1) := by decide +kernel
theorem dX12_hears_83 : decode cX12_hears 83 = .ok (.iload_n 2, 1) := by decide +kernel
theorem dX12_hears_84 : decode cX12_hears 84 = .ok (.invokevirtual 501, 3) := by decide +kernel
theorem dX12_hears_87 : decode cX12_hears 87 = .ok (.ifCond .ne 9, 3) := by decide +kernel
theorem dX12_hears_90 : decode cX12_hears 90 = .ok (.iinc 7 1, 3) := by decide +kernel
theorem dX12_hears_93 : decode cX12_hears 93 = .ok (.goto (-25), 3) := by decide +kernel
theorem dX12_hears_96 : decode cX12_hears 96 = .ok (.iload 7, 2) := by decide +kernel
theorem dX12_hears_98 : decode cX12_hears 98 = .ok (.aload_n 0, 1) := by decide +kernel
theorem dX12_hears_99 : decode cX12_hears 99 = .ok (.getfield 112, 3) := by decide +kernel
theorem dX12_hears_102 : decode cX12_hears 102 = .ok (.iconst 0, 1) := by decide +kernel
theorem dX12_hears_103 : decode cX12_hears 103 = .ok (.iaload, 1) := by decide +kernel
theorem dX12_hears_104 : decode cX12_hears 104 = .ok (.if_icmp .ge 14, 3) := by decide +kernel
theorem dX12_hears_107 : decode cX12_hears 107 = .ok (.aload_n 0, 1) := by decide +kernel
theorem dX12_hears_108 : decode cX12_hears 108 = .ok (.iload 7, 2) := by decide +kernel
theorem dX12_hears_110 : decode cX12_hears 110 = .ok (.iload_n 1, 1) := by decide +kernel
theorem dX12_hears_111 : decode cX12_hears 111 = .ok (.iload_n 2, 1) := by decide +kernel
theorem dX12_hears_112 : decode cX12_hears 112 = .ok (.iload_n 3, 1) := by decide +kernel
theorem dX12_hears_113 : decode cX12_hears 113 = .ok (.iload 4, 2) := by decide +kernel
theorem dX12_hears_115 : decode cX12_hears 115 = .ok (.invokevirtual 504, 3) := by decide +kernel
theorem dX12_hears_118 : decode cX12_hears 118 = .ok (.return_, 1) := by decide +kernel
theorem dX12_isDue_0 : decode cX12_isDue 0 = .ok (.aload_n 0, 1) := by decide +kernel
theorem dX12_isDue_1 : decode cX12_isDue 1 = .ok (.getfield 115, 3) := by decide +kernel
theorem dX12_isDue_4 : decode cX12_isDue 4 = .ok (.iload_n 1, 1) := by decide +kernel
theorem dX12_isDue_5 : decode cX12_isDue 5 = .ok (.iaload, 1) := by decide +kernel
theorem dX12_isDue_6 : decode cX12_isDue 6 = .ok (.iconst (-1), 1) := by decide +kernel
theorem dX12_isDue_7 : decode cX12_isDue 7 = .ok (.if_icmp .eq 13, 3) := by decide +kernel
theorem dX12_isDue_10 : decode cX12_isDue 10 = .ok (.aload_n 0, 1) := by decide +kernel
theorem dX12_isDue_11 : decode cX12_isDue 11 = .ok (.getfield 115, 3) := by decide +kernel
theorem dX12_isDue_14 : decode cX12_isDue 14 = .ok (.iload_n 1, 1) := by decide +kernel
theorem dX12_isDue_15 : decode cX12_isDue 15 = .ok (.iaload, 1) := by decide +kernel
theorem dX12_isDue_16 : decode cX12_isDue 16 = .ok (.iload_n 2, 1) := by decide +kernel
theorem dX12_isDue_17 : decode cX12_isDue 17 = .ok (.if_icmp .ne 27, 3) := by decide +kernel
theorem dX12_isDue_20 : decode cX12_isDue 20 = .ok (.aload_n 0, 1) := by decide +kernel
theorem dX12_isDue_21 : decode cX12_isDue 21 = .ok (.getfield 124, 3) := by decide +kernel
theorem dX12_isDue_24 : decode cX12_isDue 24 = .ok (.iload_n 1, 1) := by decide +kernel
theorem dX12_isDue_25 : decode cX12_isDue 25 = .ok (.iaload, 1) := by decide +kernel
theorem dX12_isDue_26 : decode cX12_isDue 26 = .ok (.iload_n 3, 1) := by decide +kernel
theorem dX12_isDue_27 : decode cX12_isDue 27 = .ok (.if_icmp .ne 17, 3) := by decide +kernel
theorem dX12_isDue_30 : decode cX12_isDue 30 = .ok (.aload_n 0, 1) := by decide +kernel
theorem dX12_isDue_31 : decode cX12_isDue 31 = .ok (.getfield 190, 3) := by decide +kernel
theorem dX12_isDue_34 : decode cX12_isDue 34 = .ok (.iload_n 2, 1) := by decide +kernel
theorem dX12_isDue_35 : decode cX12_isDue 35 = .ok (.iaload, 1) := by decide +kernel
theorem dX12_isDue_36 : decode cX12_isDue 36 = .ok (.iload_n 1, 1) := by decide +kernel
theorem dX12_isDue_37 : decode cX12_isDue 37 = .ok (.ishr, 1) := by decide +kernel
theorem dX12_isDue_38 : decode cX12_isDue 38 = .ok (.iconst 1, 1) := by decide +kernel
theorem dX12_isDue_39 : decode cX12_isDue 39 = .ok (.iand, 1) := by decide +kernel
theorem dX12_isDue_40 : decode cX12_isDue 40 = .ok (.iconst 1, 1) := by decide +kernel
theorem dX12_isDue_41 : decode cX12_isDue 41 = .ok (.if_icmp .ne 5, 3) := by decide +kernel
theorem dX12_isDue_44 : decode cX12_isDue 44 = .ok (.iconst 0, 1) := by decide +kernel
theorem dX12_isDue_45 : decode cX12_isDue 45 = .ok (.ireturn, 1) := by decide +kernel
theorem dX12_isDue_46 : decode cX12_isDue 46 = .ok (.aload_n 0, 1) := by decide +kernel
theorem dX12_isDue_47 : decode cX12_isDue 47 = .ok (.getfield 127, 3) := by decide +kernel
theorem dX12_isDue_50 : decode cX12_isDue 50 = .ok (.iload_n 1, 1) := by decide +kernel
theorem dX12_isDue_51 : decode cX12_isDue 51 = .ok (.baload, 1) := by decide +kernel
theorem dX12_isDue_52 : decode cX12_isDue 52 = .ok (.ifCond .eq 21, 3) := by decide +kernel
theorem dX12_isDue_55 : decode cX12_isDue 55 = .ok (.aload_n 0, 1) := by decide +kernel
theorem dX12_isDue_56 : decode cX12_isDue 56 = .ok (.getfield 181, 3) := by decide +kernel
theorem dX12_isDue_59 : decode cX12_isDue 59 = .ok (.bipush 10, 2) := by decide +kernel
theorem dX12_isDue_61 : decode cX12_isDue 61 = .ok (.iload_n 2, 1) := by decide +kernel
theorem dX12_isDue_62 : decode cX12_isDue 62 = .ok (.imul, 1) := by decide +kernel
theorem dX12_isDue_63 : decode cX12_isDue 63 = .ok (.iload_n 3, 1) := by decide +kernel
theorem dX12_isDue_64 : decode cX12_isDue 64 = .ok (.iadd, 1) := by decide +kernel
theorem dX12_isDue_65 : decode cX12_isDue 65 = .ok (.iaload, 1) := by decide +kernel
theorem dX12_isDue_66 : decode cX12_isDue 66 = .ok (.invokestatic 360, 3) := by decide +kernel
theorem dX12_isDue_69 : decode cX12_isDue 69 = .ok (.iconst 1, 1) := by decide +kernel
theorem dX12_isDue_70 : decode cX12_isDue 70 = .ok (.if_icmp .le 7, 3) := by decide +kernel
theorem dX12_isDue_73 : decode cX12_isDue 73 = .ok (.iconst 1, 1) := by decide +kernel
theorem dX12_isDue_74 : decode cX12_isDue 74 = .ok (.goto 4, 3) := by decide +kernel
theorem dX12_isDue_77 : decode cX12_isDue 77 = .ok (.iconst 0, 1) := by decide +kernel
theorem dX12_isDue_78 : decode cX12_isDue 78 = .ok (.ireturn, 1) := by decide +kernel
theorem dX12_does_0 : decode cX12_does 0 = .ok (.aload_n 0, 1) := by decide +kernel
theorem dX12_does_1 : decode cX12_does 1 = .ok (.getfield 190, 3) := by decide +kernel
theorem dX12_does_4 : decode cX12_does 4 = .ok (.iload_n 2, 1) := by decide +kernel
theorem dX12_does_5 : decode cX12_does 5 = .ok (.dup2, 1) := by decide +kernel
theorem dX12_does_6 : decode cX12_does 6 = .ok (.iaload, 1) := by decide +kernel
theorem dX12_does_7 : decode cX12_does 7 = .ok (.iconst 1, 1) := by decide +kernel
theorem dX12_does_8 : decode cX12_does 8 = .ok (.iload_n 1, 1) := by decide +kernel
theorem dX12_does_9 : decode cX12_does 9 = .ok (.ishl, 1) := by decide +kernel
theorem dX12_does_10 : decode cX12_does 10 = .ok (.ior, 1) := by decide +kernel
theorem dX12_does_11 : decode cX12_does 11 = .ok (.iastore, 1) := by decide +kernel
theorem dX12_does_12 : decode cX12_does 12 = .ok (.aload_n 0, 1) := by decide +kernel
theorem dX12_does_13 : decode cX12_does 13 = .ok (.dup, 1) := by decide +kernel
theorem dX12_does_14 : decode cX12_does 14 = .ok (.getfield 508, 3) := by decide +kernel
theorem dX12_does_17 : decode cX12_does 17 = .ok (.iconst 1, 1) := by decide +kernel
theorem dX12_does_18 : decode cX12_does 18 = .ok (.iadd, 1) := by decide +kernel
theorem dX12_does_19 : decode cX12_does 19 = .ok (.putfield 508, 3) := by decide +kernel
theorem dX12_does_22 : decode cX12_does 22 = .ok (.iload 4, 2) := by decide +kernel
theorem dX12_does_24 : decode cX12_does 24 = .ok (.aload_n 0, 1) := by decide +kernel
theorem dX12_does_25 : decode cX12_does 25 = .ok (.getfield 184, 3) := by decide +kernel
theorem dX12_does_28 : decode cX12_does 28 = .ok (.iload_n 2, 1) := by decide +kernel
theorem dX12_does_29 : decode cX12_does 29 = .ok (.iaload, 1) := by decide +kernel
theorem dX12_does_30 : decode cX12_does 30 = .ok (.invokestatic 260, 3) := by decide +kernel
theorem dX12_does_33 : decode cX12_does 33 = .ok (.istore 6, 2) := by decide +kernel
theorem dX12_does_35 : decode cX12_does 35 = .ok (.iconst 4, 1) := by decide +kernel
theorem dX12_does_36 : decode cX12_does 36 = .ok (.iload_n 1, 1) := by decide +kernel
theorem dX12_does_37 : decode cX12_does 37 = .ok (.imul, 1) := by decide +kernel
theorem dX12_does_38 : decode cX12_does 38 = .ok (.istore 7, 2) := by decide +kernel
theorem dX12_does_40 : decode cX12_does 40 = .ok (.iload 7, 2) := by decide +kernel
theorem dX12_does_42 : decode cX12_does 42 = .ok (.iconst 4, 1) := by decide +kernel
theorem dX12_does_43 : decode cX12_does 43 = .ok (.iload_n 1, 1) := by decide +kernel
theorem dX12_does_44 : decode cX12_does 44 = .ok (.imul, 1) := by decide +kernel
theorem dX12_does_45 : decode cX12_does 45 = .ok (.aload_n 0, 1) := by decide +kernel
theorem dX12_does_46 : decode cX12_does 46 = .ok (.getfield 130, 3) := by decide +kernel
theorem dX12_does_49 : decode cX12_does 49 = .ok (.iload_n 1, 1) := by decide +kernel
theorem dX12_does_50 : decode cX12_does 50 = .ok (.iaload, 1) := by decide +kernel
theorem dX12_does_51 : decode cX12_does 51 = .ok (.iadd, 1) := by decide +kernel
theorem dX12_does_52 : decode cX12_does 52 = .ok (.if_icmp .ge 155, 3) := by decide +kernel
theorem dX12_does_55 : decode cX12_does 55 = .ok (.aload_n 0, 1) := by decide +kernel
theorem dX12_does_56 : decode cX12_does 56 = .ok (.getfield 492, 3) := by decide +kernel
theorem dX12_does_59 : decode cX12_does 59 = .ok (.ifCond .ne 148, 3) := by decide +kernel
theorem dX12_does_62 : decode cX12_does 62 = .ok (.aload_n 0, 1) := by decide +kernel
theorem dX12_does_63 : decode cX12_does 63 = .ok (.getfield 133, 3) := by decide +kernel
theorem dX12_does_66 : decode cX12_does 66 = .ok (.iload 7, 2) := by decide +kernel
theorem dX12_does_68 : decode cX12_does 68 = .ok (.iaload, 1) := by decide +kernel
theorem dX12_does_69 : decode cX12_does 69 = .ok (.iconst 2, 1) := by decide +kernel
theorem dX12_does_70 : decode cX12_does 70 = .ok (.if_icmp .ne 18, 3) := by decide +kernel
theorem dX12_does_73 : decode cX12_does 73 = .ok (.iload 6, 2) := by decide +kernel
theorem dX12_does_75 : decode cX12_does 75 = .ok (.aload_n 0, 1) := by decide +kernel
theorem dX12_does_76 : decode cX12_does 76 = .ok (.getfield 148, 3) := by decide +kernel
theorem dX12_does_79 : decode cX12_does 79 = .ok (.iload 7, 2) := by decide +kernel
theorem dX12_does_81 : decode cX12_does 81 = .ok (.iaload, 1) := by decide +kernel
theorem dX12_does_82 : decode cX12_does 82 = .ok (.iadd, 1) := by decide +kernel
theorem dX12_does_83 : decode cX12_does 83 = .ok (.istore 6, 2) := by decide +kernel
theorem dX12_does_85 : decode cX12_does 85 = .ok (.goto 116, 3) := by decide +kernel
theorem dX12_does_88 : decode cX12_does 88 = .ok (.aload_n 0, 1) := by decide +kernel
theorem dX12_does_89 : decode cX12_does 89 = .ok (.getfield 133, 3) := by decide +kernel
theorem dX12_does_92 : decode cX12_does 92 = .ok (.iload 7, 2) := by decide +kernel
theorem dX12_does_94 : decode cX12_does 94 = .ok (.iaload, 1) := by decide +kernel
theorem dX12_does_95 : decode cX12_does 95 = .ok (.iconst 3, 1) := by decide +kernel
theorem dX12_does_96 : decode cX12_does 96 = .ok (.if_icmp .ne 24, 3) := by decide +kernel
theorem dX12_does_99 : decode cX12_does 99 = .ok (.aload_n 0, 1) := by decide +kernel
theorem dX12_does_100 : decode cX12_does 100 = .ok (.getfield 187, 3) := by decide +kernel
theorem dX12_does_103 : decode cX12_does 103 = .ok (.iload_n 2, 1) := by decide +kernel
theorem dX12_does_104 : decode cX12_does 104 = .ok (.iaload, 1) := by decide +kernel
theorem dX12_does_105 : decode cX12_does 105 = .ok (.iconst (-1), 1) := by decide +kernel
theorem dX12_does_106 : decode cX12_does 106 = .ok (.if_icmp .ne 95, 3) := by decide +kernel
theorem dX12_does_109 : decode cX12_does 109 = .ok (.aload_n 0, 1) := by decide +kernel
theorem dX12_does_110 : decode cX12_does 110 = .ok (.getfield 187, 3) := by decide +kernel
theorem dX12_does_113 : decode cX12_does 113 = .ok (.iload_n 2, 1) := by decide +kernel
theorem dX12_does_114 : decode cX12_does 114 = .ok (.iload 6, 2) := by decide +kernel
theorem dX12_does_116 : decode cX12_does 116 = .ok (.iastore, 1) := by decide +kernel
theorem dX12_does_117 : decode cX12_does 117 = .ok (.goto 84, 3) := by decide +kernel
theorem dX12_does_120 : decode cX12_does 120 = .ok (.aload_n 0, 1) := by decide +kernel
theorem dX12_does_121 : decode cX12_does 121 = .ok (.getfield 133, 3) := by decide +kernel
theorem dX12_does_124 : decode cX12_does 124 = .ok (.iload 7, 2) := by decide +kernel
theorem dX12_does_126 : decode cX12_does 126 = .ok (.iaload, 1) := by decide +kernel
theorem dX12_does_127 : decode cX12_does 127 = .ok (.ifCond .ne 7, 3) := by decide +kernel
theorem dX12_does_130 : decode cX12_does 130 = .ok (.iload_n 3, 1) := by decide +kernel
theorem dX12_does_131 : decode cX12_does 131 = .ok (.goto 10, 3) := by decide +kernel
theorem dX12_does_134 : decode cX12_does 134 = .ok (.aload_n 0, 1) := by decide +kernel
theorem dX12_does_135 : decode cX12_does 135 = .ok (.getfield 142, 3) := by decide +kernel
theorem dX12_does_138 : decode cX12_does 138 = .ok (.iload 7, 2) := by decide +kernel
theorem dX12_does_140 : decode cX12_does 140 = .ok (.iaload, 1) := by decide +kernel
theorem dX12_does_141 : decode cX12_does 141 = .ok (.istore 8, 2) := by decide +kernel
theorem dX12_does_143 : decode cX12_does 143 = .ok (.iload 6, 2) := by decide +kernel
theorem dX12_does_145 : decode cX12_does 145 = .ok (.aload_n 0, 1) := by decide +kernel
theorem dX12_does_146 : decode cX12_does 146 = .ok (.getfield 109, 3) := by decide +kernel
theorem dX12_does_149 : decode cX12_does 149 = .ok (.iconst 0, 1) := by decide +kernel
theorem dX12_does_150 : decode cX12_does 150 = .ok (.iaload, 1) := by decide +kernel
theorem dX12_does_151 : decode cX12_does 151 = .ok (.aload_n 0, 1) := by decide +kernel
theorem dX12_does_152 : decode cX12_does 152 = .ok (.getfield 106, 3) := by decide +kernel
theorem dX12_does_155 : decode cX12_does 155 = .ok (.iconst 0, 1) := by decide +kernel
theorem dX12_does_156 : decode cX12_does 156 = .ok (.iaload, 1) := by decide +kernel
theorem dX12_does_157 : decode cX12_does 157 = .ok (.aload_n 0, 1) := by decide +kernel
theorem dX12_does_158 : decode cX12_does 158 = .ok (.getfield 91, 3) := by decide +kernel
theorem dX12_does_161 : decode cX12_does 161 = .ok (.iload 8, 2) := by decide +kernel
theorem dX12_does_163 : decode cX12_does 163 = .ok (.iaload, 1) := by decide +kernel
theorem dX12_does_164 : decode cX12_does 164 = .ok (.imul, 1) := by decide +kernel
theorem dX12_does_165 : decode cX12_does 165 = .ok (.iadd, 1) := by decide +kernel
theorem dX12_does_166 : decode cX12_does 166 = .ok (.iadd, 1) := by decide +kernel
theorem dX12_does_167 : decode cX12_does 167 = .ok (.istore 6, 2) := by decide +kernel
theorem dX12_does_169 : decode cX12_does 169 = .ok (.aload_n 0, 1) := by decide +kernel
theorem dX12_does_170 : decode cX12_does 170 = .ok (.iload_n 2, 1) := by decide +kernel
theorem dX12_does_171 : decode cX12_does 171 = .ok (.iload 8, 2) := by decide +kernel
theorem dX12_does_173 : decode cX12_does 173 = .ok (.iload 6, 2) := by decide +kernel
theorem dX12_does_175 : decode cX12_does 175 = .ok (.aload_n 0, 1) := by decide +kernel
theorem dX12_does_176 : decode cX12_does 176 = .ok (.getfield 133, 3) := by decide +kernel
theorem dX12_does_179 : decode cX12_does 179 = .ok (.iload 7, 2) := by decide +kernel
theorem dX12_does_181 : decode cX12_does 181 = .ok (.iaload, 1) := by decide +kernel
theorem dX12_does_182 : decode cX12_does 182 = .ok (.ifCond .ne 7, 3) := by decide +kernel
theorem dX12_does_185 : decode cX12_does 185 = .ok (.iconst (-1), 1) := by decide +kernel
theorem dX12_does_186 : decode cX12_does 186 = .ok (.goto 10, 3) := by decide +kernel
theorem dX12_does_189 : decode cX12_does 189 = .ok (.aload_n 0, 1) := by decide +kernel
theorem dX12_does_190 : decode cX12_does 190 = .ok (.getfield 145, 3) := by decide +kernel
theorem dX12_does_193 : decode cX12_does 193 = .ok (.iload 7, 2) := by decide +kernel
theorem dX12_does_195 : decode cX12_does 195 = .ok (.iaload, 1) := by decide +kernel
theorem dX12_does_196 : decode cX12_does 196 = .ok (.iload 5, 2) := by decide +kernel
theorem dX12_does_198 : decode cX12_does 198 = .ok (.invokevirtual 511, 3) := by decide +kernel
theorem dX12_does_201 : decode cX12_does 201 = .ok (.iinc 7 1, 3) := by decide +kernel
theorem dX12_does_204 : decode cX12_does 204 = .ok (.goto (-164), 3) := by decide +kernel
theorem dX12_does_207 : decode cX12_does 207 = .ok (.aload_n 0, 1) := by decide +kernel
theorem dX12_does_208 : decode cX12_does 208 = .ok (.getfield 184, 3) := by decide +kernel
theorem dX12_does_211 : decode cX12_does 211 = .ok (.iload_n 2, 1) := by decide +kernel
theorem dX12_does_212 : decode cX12_does 212 = .ok (.iload 6, 2) := by decide +kernel
theorem dX12_does_214 : decode cX12_does 214 = .ok (.iastore, 1) := by decide +kernel
theorem dX12_does_215 : decode cX12_does 215 = .ok (.return_, 1) := by decide +kernel
theorem dX12_nextSeen_0 : decode cX12_nextSeen 0 = .ok (.iconst (-1), 1) := by decide +kernel
theorem dX12_nextSeen_1 : decode cX12_nextSeen 1 = .ok (.istore_n 1, 1) := by decide +kernel
theorem dX12_nextSeen_2 : decode cX12_nextSeen 2 = .ok (.iconst 0, 1) := by decide +kernel
theorem dX12_nextSeen_3 : decode cX12_nextSeen 3 = .ok (.istore_n 2, 1) := by decide +kernel
theorem dX12_nextSeen_4 : decode cX12_nextSeen 4 = .ok (.iload_n 2, 1) := by decide +kernel
theorem dX12_nextSeen_5 : decode cX12_nextSeen 5 = .ok (.aload_n 0, 1) := by decide +kernel
theorem dX12_nextSeen_6 : decode cX12_nextSeen 6 = .ok (.getfield 495, 3) := by decide +kernel
theorem dX12_nextSeen_9 : decode cX12_nextSeen 9 = .ok (.if_icmp .ge 40, 3) := by decide +kernel
theorem dX12_nextSeen_12 : decode cX12_nextSeen 12 = .ok (.aload_n 0, 1) := by decide +kernel
theorem dX12_nextSeen_13 : decode cX12_nextSeen 13 = .ok (.getfield 169, 3) := by decide +kernel
theorem dX12_nextSeen_16 : decode cX12_nextSeen 16 = .ok (.iload_n 2, 1) := by decide +kernel
theorem dX12_nextSeen_17 : decode cX12_nextSeen 17 = .ok (.baload, 1) := by decide +kernel
theorem dX12_nextSeen_18 : decode cX12_nextSeen 18 = .ok (.ifCond .ne 25, 3) := by decide +kernel
theorem dX12_nextSeen_21 : decode cX12_nextSeen 21 = .ok (.iload_n 1, 1) := by decide +kernel
theorem dX12_nextSeen_22 : decode cX12_nextSeen 22 = .ok (.iconst (-1), 1) := by decide +kernel
theorem dX12_nextSeen_23 : decode cX12_nextSeen 23 = .ok (.if_icmp .eq 18, 3) := by decide +kernel
theorem dX12_nextSeen_26 : decode cX12_nextSeen 26 = .ok (.aload_n 0, 1) := by decide +kernel
theorem dX12_nextSeen_27 : decode cX12_nextSeen 27 = .ok (.getfield 157, 3) := by decide +kernel
theorem dX12_nextSeen_30 : decode cX12_nextSeen 30 = .ok (.iload_n 2, 1) := by decide +kernel
theorem dX12_nextSeen_31 : decode cX12_nextSeen 31 = .ok (.iaload, 1) := by decide +kernel
theorem dX12_nextSeen_32 : decode cX12_nextSeen 32 = .ok (.aload_n 0, 1) := by decide +kernel
theorem dX12_nextSeen_33 : decode cX12_nextSeen 33 = .ok (.getfield 157, 3) := by decide +kernel
theorem dX12_nextSeen_36 : decode cX12_nextSeen 36 = .ok (.iload_n 1, 1) := by decide +kernel
theorem dX12_nextSeen_37 : decode cX12_nextSeen 37 = .ok (.iaload, 1) := by decide +kernel
theorem dX12_nextSeen_38 : decode cX12_nextSeen 38 = .ok (.if_icmp .ge 5, 3) := by decide +kernel
theorem dX12_nextSeen_41 : decode cX12_nextSeen 41 = .ok (.iload_n 2, 1) := by decide +kernel
theorem dX12_nextSeen_42 : decode cX12_nextSeen 42 = .ok (.istore_n 1, 1) := by decide +kernel
theorem dX12_nextSeen_43 : decode cX12_nextSeen 43 = .ok (.iinc 2 1, 3) := by decide +kernel
theorem dX12_nextSeen_46 : decode cX12_nextSeen 46 = .ok (.goto (-42), 3) := by decide +kernel
theorem dX12_nextSeen_49 : decode cX12_nextSeen 49 = .ok (.iload_n 1, 1) := by decide +kernel
theorem dX12_nextSeen_50 : decode cX12_nextSeen 50 = .ok (.ireturn, 1) := by decide +kernel
theorem dX12_looks_0 : decode cX12_looks 0 = .ok (.aload_n 0, 1) := by decide +kernel
theorem dX12_looks_1 : decode cX12_looks 1 = .ok (.getfield 169, 3) := by decide +kernel
theorem dX12_looks_4 : decode cX12_looks 4 = .ok (.iload_n 1, 1) := by decide +kernel
theorem dX12_looks_5 : decode cX12_looks 5 = .ok (.iconst 1, 1) := by decide +kernel
theorem dX12_looks_6 : decode cX12_looks 6 = .ok (.bastore, 1) := by decide +kernel
theorem dX12_looks_7 : decode cX12_looks 7 = .ok (.aload_n 0, 1) := by decide +kernel
theorem dX12_looks_8 : decode cX12_looks 8 = .ok (.aload_n 0, 1) := by decide +kernel
theorem dX12_looks_9 : decode cX12_looks 9 = .ok (.getfield 157, 3) := by decide +kernel
theorem dX12_looks_12 : decode cX12_looks 12 = .ok (.iload_n 1, 1) := by decide +kernel
theorem dX12_looks_13 : decode cX12_looks 13 = .ok (.iaload, 1) := by decide +kernel
theorem dX12_looks_14 : decode cX12_looks 14 = .ok (.putfield 514, 3) := by decide +kernel
theorem dX12_looks_17 : decode cX12_looks 17 = .ok (.aload_n 0, 1) := by decide +kernel
theorem dX12_looks_18 : decode cX12_looks 18 = .ok (.getfield 160, 3) := by decide +kernel
theorem dX12_looks_21 : decode cX12_looks 21 = .ok (.iload_n 1, 1) := by decide +kernel
theorem dX12_looks_22 : decode cX12_looks 22 = .ok (.iaload, 1) := by decide +kernel
theorem dX12_looks_23 : decode cX12_looks 23 = .ok (.istore_n 2, 1) := by decide +kernel
theorem dX12_looks_24 : decode cX12_looks 24 = .ok (.aload_n 0, 1) := by decide +kernel
theorem dX12_looks_25 : decode cX12_looks 25 = .ok (.getfield 187, 3) := by decide +kernel
theorem dX12_looks_28 : decode cX12_looks 28 = .ok (.iload_n 2, 1) := by decide +kernel
theorem dX12_looks_29 : decode cX12_looks 29 = .ok (.iaload, 1) := by decide +kernel
theorem dX12_looks_30 : decode cX12_looks 30 = .ok (.iconst (-1), 1) := by decide +kernel
theorem dX12_looks_31 : decode cX12_looks 31 = .ok (.if_icmp .eq 19, 3) := by decide +kernel
theorem dX12_looks_34 : decode cX12_looks 34 = .ok (.aload_n 0, 1) := by decide +kernel
theorem dX12_looks_35 : decode cX12_looks 35 = .ok (.getfield 157, 3) := by decide +kernel
theorem dX12_looks_38 : decode cX12_looks 38 = .ok (.iload_n 1, 1) := by decide +kernel
theorem dX12_looks_39 : decode cX12_looks 39 = .ok (.iaload, 1) := by decide +kernel
theorem dX12_looks_40 : decode cX12_looks 40 = .ok (.aload_n 0, 1) := by decide +kernel
theorem dX12_looks_41 : decode cX12_looks 41 = .ok (.getfield 187, 3) := by decide +kernel
theorem dX12_looks_44 : decode cX12_looks 44 = .ok (.iload_n 2, 1) := by decide +kernel
theorem dX12_looks_45 : decode cX12_looks 45 = .ok (.iaload, 1) := by decide +kernel
theorem dX12_looks_46 : decode cX12_looks 46 = .ok (.if_icmp .lt 4, 3) := by decide +kernel
theorem dX12_looks_49 : decode cX12_looks 49 = .ok (.return_, 1) := by decide +kernel
theorem dX12_looks_50 : decode cX12_looks 50 = .ok (.aload_n 0, 1) := by decide +kernel
theorem dX12_looks_51 : decode cX12_looks 51 = .ok (.getfield 193, 3) := by decide +kernel
theorem dX12_looks_54 : decode cX12_looks 54 = .ok (.iload_n 2, 1) := by decide +kernel
theorem dX12_looks_55 : decode cX12_looks 55 = .ok (.iaload, 1) := by decide +kernel
theorem dX12_looks_56 : decode cX12_looks 56 = .ok (.aload_n 0, 1) := by decide +kernel
theorem dX12_looks_57 : decode cX12_looks 57 = .ok (.getfield 163, 3) := by decide +kernel
theorem dX12_looks_60 : decode cX12_looks 60 = .ok (.iload_n 1, 1) := by decide +kernel
theorem dX12_looks_61 : decode cX12_looks 61 = .ok (.iaload, 1) := by decide +kernel
theorem dX12_looks_62 : decode cX12_looks 62 = .ok (.ishr, 1) := by decide +kernel
theorem dX12_looks_63 : decode cX12_looks 63 = .ok (.iconst 1, 1) := by decide +kernel
theorem dX12_looks_64 : decode cX12_looks 64 = .ok (.iand, 1) := by decide +kernel
theorem dX12_looks_65 : decode cX12_looks 65 = .ok (.iconst 1, 1) := by decide +kernel
theorem dX12_looks_66 : decode cX12_looks 66 = .ok (.if_icmp .ne 12, 3) := by decide +kernel
theorem dX12_looks_69 : decode cX12_looks 69 = .ok (.aload_n 0, 1) := by decide +kernel
theorem dX12_looks_70 : decode cX12_looks 70 = .ok (.getfield 166, 3) := by decide +kernel
theorem dX12_looks_73 : decode cX12_looks 73 = .ok (.iload_n 1, 1) := by decide +kernel
theorem dX12_looks_74 : decode cX12_looks 74 = .ok (.iaload, 1) := by decide +kernel
theorem dX12_looks_75 : decode cX12_looks 75 = .ok (.goto 13, 3) := by decide +kernel
theorem dX12_looks_78 : decode cX12_looks 78 = .ok (.aload_n 0, 1) := by decide +kernel
theorem dX12_looks_79 : decode cX12_looks 79 = .ok (.aload_n 0, 1) := by decide +kernel
theorem dX12_looks_80 : decode cX12_looks 80 = .ok (.getfield 166, 3) := by decide +kernel
theorem dX12_looks_83 : decode cX12_looks 83 = .ok (.iload_n 1, 1) := by decide +kernel
theorem dX12_looks_84 : decode cX12_looks 84 = .ok (.iaload, 1) := by decide +kernel
theorem dX12_looks_85 : decode cX12_looks 85 = .ok (.invokevirtual 517, 3) := by decide +kernel
theorem dX12_looks_88 : decode cX12_looks 88 = .ok (.istore_n 3, 1) := by decide +kernel
theorem dX12_looks_89 : decode cX12_looks 89 = .ok (.iload_n 3, 1) := by decide +kernel
theorem dX12_looks_90 : decode cX12_looks 90 = .ok (.iconst (-1), 1) := by decide +kernel
theorem dX12_looks_91 : decode cX12_looks 91 = .ok (.if_icmp .ne 14, 3) := by decide +kernel
theorem dX12_looks_94 : decode cX12_looks 94 = .ok (.aload_n 0, 1) := by decide +kernel
theorem dX12_looks_95 : decode cX12_looks 95 = .ok (.dup, 1) := by decide +kernel
theorem dX12_looks_96 : decode cX12_looks 96 = .ok (.getfield 520, 3) := by decide +kernel
theorem dX12_looks_99 : decode cX12_looks 99 = .ok (.iconst 1, 1) := by decide +kernel
theorem dX12_looks_100 : decode cX12_looks 100 = .ok (.iadd, 1) := by decide +kernel
theorem dX12_looks_101 : decode cX12_looks 101 = .ok (.putfield 520, 3) := by decide +kernel
theorem dX12_looks_104 : decode cX12_looks 104 = .ok (.return_, 1) := by decide +kernel
theorem dX12_looks_105 : decode cX12_looks 105 = .ok (.aload_n 0, 1) := by decide +kernel
theorem dX12_looks_106 : decode cX12_looks 106 = .ok (.dup, 1) := by decide +kernel
theorem dX12_looks_107 : decode cX12_looks 107 = .ok (.getfield 523, 3) := by decide +kernel
theorem dX12_looks_110 : decode cX12_looks 110 = .ok (.iload_n 3, 1) := by decide +kernel
theorem dX12_looks_111 : decode cX12_looks 111 = .ok (.aload_n 0, 1) := by decide +kernel
theorem dX12_looks_112 : decode cX12_looks 112 = .ok (.getfield 166, 3) := by decide +kernel
theorem dX12_looks_115 : decode cX12_looks 115 = .ok (.iload_n 1, 1) := by decide +kernel
theorem dX12_looks_116 : decode cX12_looks 116 = .ok (.iaload, 1) := by decide +kernel
theorem dX12_looks_117 : decode cX12_looks 117 = .ok (.if_icmp .eq 7, 3) := by decide +kernel
theorem dX12_looks_120 : decode cX12_looks 120 = .ok (.iconst 1, 1) := by decide +kernel
theorem dX12_looks_121 : decode cX12_looks 121 = .ok (.goto 4, 3) := by decide +kernel
theorem dX12_looks_124 : decode cX12_looks 124 = .ok (.iconst 0, 1) := by decide +kernel
theorem dX12_looks_125 : decode cX12_looks 125 = .ok (.iadd, 1) := by decide +kernel
theorem dX12_looks_126 : decode cX12_looks 126 = .ok (.putfield 523, 3) := by decide +kernel
theorem dX12_looks_129 : decode cX12_looks 129 = .ok (.aload_n 0, 1) := by decide +kernel
theorem dX12_looks_130 : decode cX12_looks 130 = .ok (.iload_n 2, 1) := by decide +kernel
theorem dX12_looks_131 : decode cX12_looks 131 = .ok (.iload_n 3, 1) := by decide +kernel
theorem dX12_looks_132 : decode cX12_looks 132 = .ok (.aload_n 0, 1) := by decide +kernel
theorem dX12_looks_133 : decode cX12_looks 133 = .ok (.getfield 157, 3) := by decide +kernel
theorem dX12_looks_136 : decode cX12_looks 136 = .ok (.iload_n 1, 1) := by decide +kernel
theorem dX12_looks_137 : decode cX12_looks 137 = .ok (.iaload, 1) := by decide +kernel
theorem dX12_looks_138 : decode cX12_looks 138 = .ok (.aload_n 0, 1) := by decide +kernel
theorem dX12_looks_139 : decode cX12_looks 139 = .ok (.getfield 163, 3) := by decide +kernel
theorem dX12_looks_142 : decode cX12_looks 142 = .ok (.iload_n 1, 1) := by decide +kernel
theorem dX12_looks_143 : decode cX12_looks 143 = .ok (.iaload, 1) := by decide +kernel
theorem dX12_looks_144 : decode cX12_looks 144 = .ok (.aload_n 0, 1) := by decide +kernel
theorem dX12_looks_145 : decode cX12_looks 145 = .ok (.getfield 166, 3) := by decide +kernel
theorem dX12_looks_148 : decode cX12_looks 148 = .ok (.iload_n 1, 1) := by decide +kernel
theorem dX12_looks_149 : decode cX12_looks 149 = .ok (.iaload, 1) := by decide +kernel
theorem dX12_looks_150 : decode cX12_looks 150 = .ok (.invokevirtual 526, 3) := by decide +kernel
theorem dX12_looks_153 : decode cX12_looks 153 = .ok (.return_, 1) := by decide +kernel
theorem dX12_send_0 : decode cX12_send 0 = .ok (.aload_n 0, 1) := by decide +kernel
theorem dX12_send_1 : decode cX12_send 1 = .ok (.iconst 0, 1) := by decide +kernel
theorem dX12_send_2 : decode cX12_send 2 = .ok (.putfield 224, 3) := by decide +kernel
theorem dX12_send_5 : decode cX12_send 5 = .ok (.iload_n 2, 1) := by decide +kernel
theorem dX12_send_6 : decode cX12_send 6 = .ok (.ifCond .lt 32, 3) := by decide +kernel
theorem dX12_send_9 : decode cX12_send 9 = .ok (.iload_n 2, 1) := by decide +kernel
theorem dX12_send_10 : decode cX12_send 10 = .ok (.aload_n 0, 1) := by decide +kernel
theorem dX12_send_11 : decode cX12_send 11 = .ok (.getfield 84, 3) := by decide +kernel
theorem dX12_send_14 : decode cX12_send 14 = .ok (.iconst 0, 1) := by decide +kernel
theorem dX12_send_15 : decode cX12_send 15 = .ok (.iaload, 1) := by decide +kernel
theorem dX12_send_16 : decode cX12_send 16 = .ok (.if_icmp .ge 22, 3) := by decide +kernel
theorem dX12_send_19 : decode cX12_send 19 = .ok (.aload_n 0, 1) := by decide +kernel
theorem dX12_send_20 : decode cX12_send 20 = .ok (.iload_n 1, 1) := by decide +kernel
theorem dX12_send_21 : decode cX12_send 21 = .ok (.invokevirtual 250, 3) := by decide +kernel
theorem dX12_send_24 : decode cX12_send 24 = .ok (.ifCond .eq 14, 3) := by decide +kernel
theorem dX12_send_27 : decode cX12_send 27 = .ok (.iload_n 3, 1) := by decide +kernel
theorem dX12_send_28 : decode cX12_send 28 = .ok (.iload 4, 2) := by decide +kernel
theorem dX12_send_30 : decode cX12_send 30 = .ok (.iload 5, 2) := by decide +kernel
theorem dX12_send_32 : decode cX12_send 32 = .ok (.invokestatic 347, 3) := by decide +kernel
theorem dX12_send_35 : decode cX12_send 35 = .ok (.ifCond .ne 5, 3) := by decide +kernel
theorem dX12_send_38 : decode cX12_send 38 = .ok (.iconst (-1), 1) := by decide +kernel
theorem dX12_send_39 : decode cX12_send 39 = .ok (.ireturn, 1) := by decide +kernel
theorem dX12_send_40 : decode cX12_send 40 = .ok (.aload_n 0, 1) := by decide +kernel
theorem dX12_send_41 : decode cX12_send 41 = .ok (.iload_n 3, 1) := by decide +kernel
theorem dX12_send_42 : decode cX12_send 42 = .ok (.iload 4, 2) := by decide +kernel
theorem dX12_send_44 : decode cX12_send 44 = .ok (.iload 5, 2) := by decide +kernel
theorem dX12_send_46 : decode cX12_send 46 = .ok (.iconst 1, 1) := by decide +kernel
theorem dX12_send_47 : decode cX12_send 47 = .ok (.invokevirtual 353, 3) := by decide +kernel
theorem dX12_send_50 : decode cX12_send 50 = .ok (.aload_n 0, 1) := by decide +kernel
theorem dX12_send_51 : decode cX12_send 51 = .ok (.getfield 335, 3) := by decide +kernel
theorem dX12_send_54 : decode cX12_send 54 = .ok (.iload_n 1, 1) := by decide +kernel
theorem dX12_send_55 : decode cX12_send 55 = .ok (.ishr, 1) := by decide +kernel
theorem dX12_send_56 : decode cX12_send 56 = .ok (.iconst 1, 1) := by decide +kernel
theorem dX12_send_57 : decode cX12_send 57 = .ok (.iand, 1) := by decide +kernel
theorem dX12_send_58 : decode cX12_send 58 = .ok (.ifCond .ne 5, 3) := by decide +kernel
theorem dX12_send_61 : decode cX12_send 61 = .ok (.iconst (-1), 1) := by decide +kernel
theorem dX12_send_62 : decode cX12_send 62 = .ok (.ireturn, 1) := by decide +kernel
theorem dX12_send_63 : decode cX12_send 63 = .ok (.iconst 0, 1) := by decide +kernel
theorem dX12_send_64 : decode cX12_send 64 = .ok (.istore 6, 2) := by decide +kernel
theorem dX12_send_66 : decode cX12_send 66 = .ok (.iload 6, 2) := by decide +kernel
theorem dX12_send_68 : decode cX12_send 68 = .ok (.aload_n 0, 1) := by decide +kernel
theorem dX12_send_69 : decode cX12_send 69 = .ok (.getfield 227, 3) := by decide +kernel
