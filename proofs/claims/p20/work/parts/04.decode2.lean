theorem dX3_firstQuarrel_8 : decode cX3_firstQuarrel 8 = .ok (.aload_n 0, 1) := by decide +kernel
theorem dX3_firstQuarrel_9 : decode cX3_firstQuarrel 9 = .ok (.getfield 31, 3) := by decide +kernel
theorem dX3_firstQuarrel_12 : decode cX3_firstQuarrel 12 = .ok (.if_icmp .gt 24, 3) := by decide +kernel
theorem dX3_firstQuarrel_15 : decode cX3_firstQuarrel 15 = .ok (.aload_n 0, 1) := by decide +kernel
theorem dX3_firstQuarrel_16 : decode cX3_firstQuarrel 16 = .ok (.iload_n 1, 1) := by decide +kernel
theorem dX3_firstQuarrel_17 : decode cX3_firstQuarrel 17 = .ok (.invokevirtual 93, 3) := by decide +kernel
theorem dX3_firstQuarrel_20 : decode cX3_firstQuarrel 20 = .ok (.ifCond .ne 5, 3) := by decide +kernel
theorem dX3_firstQuarrel_23 : decode cX3_firstQuarrel 23 = .ok (.iload_n 1, 1) := by decide +kernel
theorem dX3_firstQuarrel_24 : decode cX3_firstQuarrel 24 = .ok (.ireturn, 1) := by decide +kernel
theorem dX3_firstQuarrel_25 : decode cX3_firstQuarrel 25 = .ok (.aload_n 0, 1) := by decide +kernel
theorem dX3_firstQuarrel_26 : decode cX3_firstQuarrel 26 = .ok (.iload_n 1, 1) := by decide +kernel
theorem dX3_firstQuarrel_27 : decode cX3_firstQuarrel 27 = .ok (.putfield 42, 3) := by decide +kernel
theorem dX3_firstQuarrel_30 : decode cX3_firstQuarrel 30 = .ok (.iinc 1 1, 3) := by decide +kernel
theorem dX3_firstQuarrel_33 : decode cX3_firstQuarrel 33 = .ok (.goto (-26), 3) := by decide +kernel
theorem dX3_firstQuarrel_36 : decode cX3_firstQuarrel 36 = .ok (.iconst (-1), 1) := by decide +kernel
theorem dX3_firstQuarrel_37 : decode cX3_firstQuarrel 37 = .ok (.ireturn, 1) := by decide +kernel
theorem dX3_standing_0 : decode cX3_standing 0 = .ok (.aload_n 0, 1) := by decide +kernel
theorem dX3_standing_1 : decode cX3_standing 1 = .ok (.getfield 38, 3) := by decide +kernel
theorem dX3_standing_4 : decode cX3_standing 4 = .ok (.ifCond .ne 5, 3) := by decide +kernel
theorem dX3_standing_7 : decode cX3_standing 7 = .ok (.iconst 0, 1) := by decide +kernel
theorem dX3_standing_8 : decode cX3_standing 8 = .ok (.ireturn, 1) := by decide +kernel
theorem dX3_standing_9 : decode cX3_standing 9 = .ok (.aload_n 0, 1) := by decide +kernel
theorem dX3_standing_10 : decode cX3_standing 10 = .ok (.getfield 28, 3) := by decide +kernel
theorem dX3_standing_13 : decode cX3_standing 13 = .ok (.iload_n 1, 1) := by decide +kernel
theorem dX3_standing_14 : decode cX3_standing 14 = .ok (.invokestatic 66, 3) := by decide +kernel
theorem dX3_standing_17 : decode cX3_standing 17 = .ok (.iaload, 1) := by decide +kernel
theorem dX3_standing_18 : decode cX3_standing 18 = .ok (.iload_n 2, 1) := by decide +kernel
theorem dX3_standing_19 : decode cX3_standing 19 = .ok (.if_icmp .gt 18, 3) := by decide +kernel
theorem dX3_standing_22 : decode cX3_standing 22 = .ok (.aload_n 0, 1) := by decide +kernel
theorem dX3_standing_23 : decode cX3_standing 23 = .ok (.getfield 25, 3) := by decide +kernel
theorem dX3_standing_26 : decode cX3_standing 26 = .ok (.iload_n 1, 1) := by decide +kernel
theorem dX3_standing_27 : decode cX3_standing 27 = .ok (.invokestatic 74, 3) := by decide +kernel
theorem dX3_standing_30 : decode cX3_standing 30 = .ok (.iaload, 1) := by decide +kernel
theorem dX3_standing_31 : decode cX3_standing 31 = .ok (.iload_n 2, 1) := by decide +kernel
theorem dX3_standing_32 : decode cX3_standing 32 = .ok (.if_icmp .lt 5, 3) := by decide +kernel
theorem dX3_standing_35 : decode cX3_standing 35 = .ok (.iconst 2, 1) := by decide +kernel
theorem dX3_standing_36 : decode cX3_standing 36 = .ok (.ireturn, 1) := by decide +kernel
theorem dX3_standing_37 : decode cX3_standing 37 = .ok (.aload_n 0, 1) := by decide +kernel
theorem dX3_standing_38 : decode cX3_standing 38 = .ok (.getfield 25, 3) := by decide +kernel
theorem dX3_standing_41 : decode cX3_standing 41 = .ok (.iload_n 1, 1) := by decide +kernel
theorem dX3_standing_42 : decode cX3_standing 42 = .ok (.invokestatic 66, 3) := by decide +kernel
theorem dX3_standing_45 : decode cX3_standing 45 = .ok (.iaload, 1) := by decide +kernel
theorem dX3_standing_46 : decode cX3_standing 46 = .ok (.iload_n 2, 1) := by decide +kernel
theorem dX3_standing_47 : decode cX3_standing 47 = .ok (.if_icmp .gt 20, 3) := by decide +kernel
theorem dX3_standing_50 : decode cX3_standing 50 = .ok (.aload_n 0, 1) := by decide +kernel
theorem dX3_standing_51 : decode cX3_standing 51 = .ok (.getfield 28, 3) := by decide +kernel
theorem dX3_standing_54 : decode cX3_standing 54 = .ok (.iload_n 1, 1) := by decide +kernel
theorem dX3_standing_55 : decode cX3_standing 55 = .ok (.invokestatic 74, 3) := by decide +kernel
theorem dX3_standing_58 : decode cX3_standing 58 = .ok (.iaload, 1) := by decide +kernel
theorem dX3_standing_59 : decode cX3_standing 59 = .ok (.iload_n 2, 1) := by decide +kernel
theorem dX3_standing_60 : decode cX3_standing 60 = .ok (.if_icmp .lt 7, 3) := by decide +kernel
theorem dX3_standing_63 : decode cX3_standing 63 = .ok (.iconst 1, 1) := by decide +kernel
theorem dX3_standing_64 : decode cX3_standing 64 = .ok (.goto 4, 3) := by decide +kernel
theorem dX3_standing_67 : decode cX3_standing 67 = .ok (.iconst 0, 1) := by decide +kernel
theorem dX3_standing_68 : decode cX3_standing 68 = .ok (.ireturn, 1) := by decide +kernel
theorem dX4_init_0 : decode cX4_init 0 = .ok (.aload_n 0, 1) := by decide +kernel
theorem dX4_init_1 : decode cX4_init 1 = .ok (.invokespecial 3, 3) := by decide +kernel
theorem dX4_init_4 : decode cX4_init 4 = .ok (.aload_n 0, 1) := by decide +kernel
theorem dX4_init_5 : decode cX4_init 5 = .ok (.bipush 12, 2) := by decide +kernel
theorem dX4_init_7 : decode cX4_init 7 = .ok (.newarray .int, 2) := by decide +kernel
theorem dX4_init_9 : decode cX4_init 9 = .ok (.putfield 9, 3) := by decide +kernel
theorem dX4_init_12 : decode cX4_init 12 = .ok (.aload_n 0, 1) := by decide +kernel
theorem dX4_init_13 : decode cX4_init 13 = .ok (.bipush 12, 2) := by decide +kernel
theorem dX4_init_15 : decode cX4_init 15 = .ok (.newarray .int, 2) := by decide +kernel
theorem dX4_init_17 : decode cX4_init 17 = .ok (.putfield 15, 3) := by decide +kernel
theorem dX4_init_20 : decode cX4_init 20 = .ok (.aload_n 0, 1) := by decide +kernel
theorem dX4_init_21 : decode cX4_init 21 = .ok (.bipush 12, 2) := by decide +kernel
theorem dX4_init_23 : decode cX4_init 23 = .ok (.newarray .int, 2) := by decide +kernel
theorem dX4_init_25 : decode cX4_init 25 = .ok (.putfield 18, 3) := by decide +kernel
theorem dX4_init_28 : decode cX4_init 28 = .ok (.aload_n 0, 1) := by decide +kernel
theorem dX4_init_29 : decode cX4_init 29 = .ok (.bipush 12, 2) := by decide +kernel
theorem dX4_init_31 : decode cX4_init 31 = .ok (.newarray .int, 2) := by decide +kernel
theorem dX4_init_33 : decode cX4_init 33 = .ok (.putfield 21, 3) := by decide +kernel
theorem dX4_init_36 : decode cX4_init 36 = .ok (.aload_n 0, 1) := by decide +kernel
theorem dX4_init_37 : decode cX4_init 37 = .ok (.bipush 12, 2) := by decide +kernel
theorem dX4_init_39 : decode cX4_init 39 = .ok (.newarray .int, 2) := by decide +kernel
theorem dX4_init_41 : decode cX4_init 41 = .ok (.putfield 24, 3) := by decide +kernel
theorem dX4_init_44 : decode cX4_init 44 = .ok (.aload_n 0, 1) := by decide +kernel
theorem dX4_init_45 : decode cX4_init 45 = .ok (.bipush 12, 2) := by decide +kernel
theorem dX4_init_47 : decode cX4_init 47 = .ok (.newarray .int, 2) := by decide +kernel
theorem dX4_init_49 : decode cX4_init 49 = .ok (.putfield 27, 3) := by decide +kernel
theorem dX4_init_52 : decode cX4_init 52 = .ok (.aload_n 0, 1) := by decide +kernel
theorem dX4_init_53 : decode cX4_init 53 = .ok (.bipush 12, 2) := by decide +kernel
theorem dX4_init_55 : decode cX4_init 55 = .ok (.newarray .int, 2) := by decide +kernel
theorem dX4_init_57 : decode cX4_init 57 = .ok (.putfield 30, 3) := by decide +kernel
theorem dX4_init_60 : decode cX4_init 60 = .ok (.aload_n 0, 1) := by decide +kernel
theorem dX4_init_61 : decode cX4_init 61 = .ok (.bipush 12, 2) := by decide +kernel
theorem dX4_init_63 : decode cX4_init 63 = .ok (.newarray .int, 2) := by decide +kernel
theorem dX4_init_65 : decode cX4_init 65 = .ok (.putfield 33, 3) := by decide +kernel
theorem dX4_init_68 : decode cX4_init 68 = .ok (.aload_n 0, 1) := by decide +kernel
theorem dX4_init_69 : decode cX4_init 69 = .ok (.iconst 0, 1) := by decide +kernel
theorem dX4_init_70 : decode cX4_init 70 = .ok (.putfield 36, 3) := by decide +kernel
theorem dX4_init_73 : decode cX4_init 73 = .ok (.aload_n 0, 1) := by decide +kernel
theorem dX4_init_74 : decode cX4_init 74 = .ok (.aload_n 1, 1) := by decide +kernel
theorem dX4_init_75 : decode cX4_init 75 = .ok (.putfield 40, 3) := by decide +kernel
theorem dX4_init_78 : decode cX4_init 78 = .ok (.return_, 1) := by decide +kernel
theorem dX4_add_0 : decode cX4_add 0 = .ok (.aload_n 0, 1) := by decide +kernel
theorem dX4_add_1 : decode cX4_add 1 = .ok (.getfield 40, 3) := by decide +kernel
theorem dX4_add_4 : decode cX4_add 4 = .ok (.iload_n 1, 1) := by decide +kernel
theorem dX4_add_5 : decode cX4_add 5 = .ok (.iload_n 2, 1) := by decide +kernel
theorem dX4_add_6 : decode cX4_add 6 = .ok (.invokevirtual 44, 3) := by decide +kernel
theorem dX4_add_9 : decode cX4_add 9 = .ok (.ifCond .eq 21, 3) := by decide +kernel
theorem dX4_add_12 : decode cX4_add 12 = .ok (.iload_n 3, 1) := by decide +kernel
theorem dX4_add_13 : decode cX4_add 13 = .ok (.iconst 1, 1) := by decide +kernel
theorem dX4_add_14 : decode cX4_add 14 = .ok (.if_icmp .lt 16, 3) := by decide +kernel
theorem dX4_add_17 : decode cX4_add 17 = .ok (.iload_n 3, 1) := by decide +kernel
theorem dX4_add_18 : decode cX4_add 18 = .ok (.iload 4, 2) := by decide +kernel
theorem dX4_add_20 : decode cX4_add 20 = .ok (.if_icmp .gt 10, 3) := by decide +kernel
theorem dX4_add_23 : decode cX4_add 23 = .ok (.iload 4, 2) := by decide +kernel
theorem dX4_add_25 : decode cX4_add 25 = .ok (.bipush 40, 2) := by decide +kernel
theorem dX4_add_27 : decode cX4_add 27 = .ok (.if_icmp .le 5, 3) := by decide +kernel
theorem dX4_add_30 : decode cX4_add 30 = .ok (.iconst (-1), 1) := by decide +kernel
theorem dX4_add_31 : decode cX4_add 31 = .ok (.ireturn, 1) := by decide +kernel
theorem dX4_add_32 : decode cX4_add 32 = .ok (.iload 6, 2) := by decide +kernel
theorem dX4_add_34 : decode cX4_add 34 = .ok (.ifCond .lt 28, 3) := by decide +kernel
theorem dX4_add_37 : decode cX4_add 37 = .ok (.iload 6, 2) := by decide +kernel
theorem dX4_add_39 : decode cX4_add 39 = .ok (.bipush 50, 2) := by decide +kernel
theorem dX4_add_41 : decode cX4_add 41 = .ok (.if_icmp .gt 21, 3) := by decide +kernel
theorem dX4_add_44 : decode cX4_add 44 = .ok (.aload_n 0, 1) := by decide +kernel
theorem dX4_add_45 : decode cX4_add 45 = .ok (.getfield 36, 3) := by decide +kernel
theorem dX4_add_48 : decode cX4_add 48 = .ok (.bipush 12, 2) := by decide +kernel
theorem dX4_add_50 : decode cX4_add 50 = .ok (.if_icmp .ge 12, 3) := by decide +kernel
theorem dX4_add_53 : decode cX4_add 53 = .ok (.aload_n 0, 1) := by decide +kernel
theorem dX4_add_54 : decode cX4_add 54 = .ok (.iload_n 1, 1) := by decide +kernel
theorem dX4_add_55 : decode cX4_add 55 = .ok (.iload_n 2, 1) := by decide +kernel
theorem dX4_add_56 : decode cX4_add 56 = .ok (.invokevirtual 50, 3) := by decide +kernel
theorem dX4_add_59 : decode cX4_add 59 = .ok (.ifCond .eq 5, 3) := by decide +kernel
theorem dX4_add_62 : decode cX4_add 62 = .ok (.iconst (-1), 1) := by decide +kernel
theorem dX4_add_63 : decode cX4_add 63 = .ok (.ireturn, 1) := by decide +kernel
theorem dX4_add_64 : decode cX4_add 64 = .ok (.aload_n 0, 1) := by decide +kernel
theorem dX4_add_65 : decode cX4_add 65 = .ok (.getfield 9, 3) := by decide +kernel
theorem dX4_add_68 : decode cX4_add 68 = .ok (.aload_n 0, 1) := by decide +kernel
theorem dX4_add_69 : decode cX4_add 69 = .ok (.getfield 36, 3) := by decide +kernel
theorem dX4_add_72 : decode cX4_add 72 = .ok (.iload_n 1, 1) := by decide +kernel
theorem dX4_add_73 : decode cX4_add 73 = .ok (.iastore, 1) := by decide +kernel
theorem dX4_add_74 : decode cX4_add 74 = .ok (.aload_n 0, 1) := by decide +kernel
theorem dX4_add_75 : decode cX4_add 75 = .ok (.getfield 15, 3) := by decide +kernel
theorem dX4_add_78 : decode cX4_add 78 = .ok (.aload_n 0, 1) := by decide +kernel
theorem dX4_add_79 : decode cX4_add 79 = .ok (.getfield 36, 3) := by decide +kernel
theorem dX4_add_82 : decode cX4_add 82 = .ok (.iload_n 2, 1) := by decide +kernel
theorem dX4_add_83 : decode cX4_add 83 = .ok (.iastore, 1) := by decide +kernel
theorem dX4_add_84 : decode cX4_add 84 = .ok (.aload_n 0, 1) := by decide +kernel
theorem dX4_add_85 : decode cX4_add 85 = .ok (.getfield 18, 3) := by decide +kernel
theorem dX4_add_88 : decode cX4_add 88 = .ok (.aload_n 0, 1) := by decide +kernel
theorem dX4_add_89 : decode cX4_add 89 = .ok (.getfield 36, 3) := by decide +kernel
theorem dX4_add_92 : decode cX4_add 92 = .ok (.iload_n 1, 1) := by decide +kernel
theorem dX4_add_93 : decode cX4_add 93 = .ok (.iload_n 2, 1) := by decide +kernel
theorem dX4_add_94 : decode cX4_add 94 = .ok (.invokestatic 53, 3) := by decide +kernel
theorem dX4_add_97 : decode cX4_add 97 = .ok (.iastore, 1) := by decide +kernel
theorem dX4_add_98 : decode cX4_add 98 = .ok (.aload_n 0, 1) := by decide +kernel
theorem dX4_add_99 : decode cX4_add 99 = .ok (.getfield 21, 3) := by decide +kernel
theorem dX4_add_102 : decode cX4_add 102 = .ok (.aload_n 0, 1) := by decide +kernel
theorem dX4_add_103 : decode cX4_add 103 = .ok (.getfield 36, 3) := by decide +kernel
theorem dX4_add_106 : decode cX4_add 106 = .ok (.iload_n 3, 1) := by decide +kernel
theorem dX4_add_107 : decode cX4_add 107 = .ok (.iastore, 1) := by decide +kernel
theorem dX4_add_108 : decode cX4_add 108 = .ok (.aload_n 0, 1) := by decide +kernel
theorem dX4_add_109 : decode cX4_add 109 = .ok (.getfield 24, 3) := by decide +kernel
theorem dX4_add_112 : decode cX4_add 112 = .ok (.aload_n 0, 1) := by decide +kernel
theorem dX4_add_113 : decode cX4_add 113 = .ok (.getfield 36, 3) := by decide +kernel
theorem dX4_add_116 : decode cX4_add 116 = .ok (.iload 4, 2) := by decide +kernel
theorem dX4_add_118 : decode cX4_add 118 = .ok (.iastore, 1) := by decide +kernel
theorem dX4_add_119 : decode cX4_add 119 = .ok (.aload_n 0, 1) := by decide +kernel
theorem dX4_add_120 : decode cX4_add 120 = .ok (.getfield 27, 3) := by decide +kernel
theorem dX4_add_123 : decode cX4_add 123 = .ok (.aload_n 0, 1) := by decide +kernel
theorem dX4_add_124 : decode cX4_add 124 = .ok (.getfield 36, 3) := by decide +kernel
theorem dX4_add_127 : decode cX4_add 127 = .ok (.iload 5, 2) := by decide +kernel
theorem dX4_add_129 : decode cX4_add 129 = .ok (.ifCond .eq 7, 3) := by decide +kernel
theorem dX4_add_132 : decode cX4_add 132 = .ok (.iconst 0, 1) := by decide +kernel
theorem dX4_add_133 : decode cX4_add 133 = .ok (.goto 4, 3) := by decide +kernel
theorem dX4_add_136 : decode cX4_add 136 = .ok (.iconst 1, 1) := by decide +kernel
theorem dX4_add_137 : decode cX4_add 137 = .ok (.iastore, 1) := by decide +kernel
theorem dX4_add_138 : decode cX4_add 138 = .ok (.aload_n 0, 1) := by decide +kernel
theorem dX4_add_139 : decode cX4_add 139 = .ok (.getfield 30, 3) := by decide +kernel
theorem dX4_add_142 : decode cX4_add 142 = .ok (.aload_n 0, 1) := by decide +kernel
theorem dX4_add_143 : decode cX4_add 143 = .ok (.getfield 36, 3) := by decide +kernel
theorem dX4_add_146 : decode cX4_add 146 = .ok (.iload 6, 2) := by decide +kernel
theorem dX4_add_148 : decode cX4_add 148 = .ok (.iastore, 1) := by decide +kernel
theorem dX4_add_149 : decode cX4_add 149 = .ok (.aload_n 0, 1) := by decide +kernel
theorem dX4_add_150 : decode cX4_add 150 = .ok (.getfield 33, 3) := by decide +kernel
theorem dX4_add_153 : decode cX4_add 153 = .ok (.aload_n 0, 1) := by decide +kernel
theorem dX4_add_154 : decode cX4_add 154 = .ok (.getfield 36, 3) := by decide +kernel
theorem dX4_add_157 : decode cX4_add 157 = .ok (.iconst 0, 1) := by decide +kernel
theorem dX4_add_158 : decode cX4_add 158 = .ok (.iastore, 1) := by decide +kernel
theorem dX4_add_159 : decode cX4_add 159 = .ok (.aload_n 0, 1) := by decide +kernel
theorem dX4_add_160 : decode cX4_add 160 = .ok (.dup, 1) := by decide +kernel
theorem dX4_add_161 : decode cX4_add 161 = .ok (.getfield 36, 3) := by decide +kernel
theorem dX4_add_164 : decode cX4_add 164 = .ok (.iconst 1, 1) := by decide +kernel
theorem dX4_add_165 : decode cX4_add 165 = .ok (.iadd, 1) := by decide +kernel
theorem dX4_add_166 : decode cX4_add 166 = .ok (.putfield 36, 3) := by decide +kernel
theorem dX4_add_169 : decode cX4_add 169 = .ok (.aload_n 0, 1) := by decide +kernel
theorem dX4_add_170 : decode cX4_add 170 = .ok (.getfield 36, 3) := by decide +kernel
theorem dX4_add_173 : decode cX4_add 173 = .ok (.iconst 1, 1) := by decide +kernel
theorem dX4_add_174 : decode cX4_add 174 = .ok (.isub, 1) := by decide +kernel
theorem dX4_add_175 : decode cX4_add 175 = .ok (.ireturn, 1) := by decide +kernel
theorem dX4_isTaken_0 : decode cX4_isTaken 0 = .ok (.iconst 0, 1) := by decide +kernel
theorem dX4_isTaken_1 : decode cX4_isTaken 1 = .ok (.istore_n 3, 1) := by decide +kernel
theorem dX4_isTaken_2 : decode cX4_isTaken 2 = .ok (.iload_n 3, 1) := by decide +kernel
theorem dX4_isTaken_3 : decode cX4_isTaken 3 = .ok (.aload_n 0, 1) := by decide +kernel
theorem dX4_isTaken_4 : decode cX4_isTaken 4 = .ok (.getfield 36, 3) := by decide +kernel
theorem dX4_isTaken_7 : decode cX4_isTaken 7 = .ok (.if_icmp .ge 31, 3) := by decide +kernel
theorem dX4_isTaken_10 : decode cX4_isTaken 10 = .ok (.aload_n 0, 1) := by decide +kernel
theorem dX4_isTaken_11 : decode cX4_isTaken 11 = .ok (.getfield 9, 3) := by decide +kernel
theorem dX4_isTaken_14 : decode cX4_isTaken 14 = .ok (.iload_n 3, 1) := by decide +kernel
theorem dX4_isTaken_15 : decode cX4_isTaken 15 = .ok (.iaload, 1) := by decide +kernel
theorem dX4_isTaken_16 : decode cX4_isTaken 16 = .ok (.iload_n 1, 1) := by decide +kernel
theorem dX4_isTaken_17 : decode cX4_isTaken 17 = .ok (.if_icmp .ne 15, 3) := by decide +kernel
theorem dX4_isTaken_20 : decode cX4_isTaken 20 = .ok (.aload_n 0, 1) := by decide +kernel
theorem dX4_isTaken_21 : decode cX4_isTaken 21 = .ok (.getfield 15, 3) := by decide +kernel
theorem dX4_isTaken_24 : decode cX4_isTaken 24 = .ok (.iload_n 3, 1) := by decide +kernel
theorem dX4_isTaken_25 : decode cX4_isTaken 25 = .ok (.iaload, 1) := by decide +kernel
theorem dX4_isTaken_26 : decode cX4_isTaken 26 = .ok (.iload_n 2, 1) := by decide +kernel
theorem dX4_isTaken_27 : decode cX4_isTaken 27 = .ok (.if_icmp .ne 5, 3) := by decide +kernel
theorem dX4_isTaken_30 : decode cX4_isTaken 30 = .ok (.iconst 1, 1) := by decide +kernel
theorem dX4_isTaken_31 : decode cX4_isTaken 31 = .ok (.ireturn, 1) := by decide +kernel
theorem dX4_isTaken_32 : decode cX4_isTaken 32 = .ok (.iinc 3 1, 3) := by decide +kernel
theorem dX4_isTaken_35 : decode cX4_isTaken 35 = .ok (.goto (-33), 3) := by decide +kernel
theorem dX4_isTaken_38 : decode cX4_isTaken 38 = .ok (.iconst 0, 1) := by decide +kernel
theorem dX4_isTaken_39 : decode cX4_isTaken 39 = .ok (.ireturn, 1) := by decide +kernel
theorem dX4_has_0 : decode cX4_has 0 = .ok (.iload_n 1, 1) := by decide +kernel
theorem dX4_has_1 : decode cX4_has 1 = .ok (.ifCond .lt 15, 3) := by decide +kernel
theorem dX4_has_4 : decode cX4_has 4 = .ok (.iload_n 1, 1) := by decide +kernel
theorem dX4_has_5 : decode cX4_has 5 = .ok (.aload_n 0, 1) := by decide +kernel
theorem dX4_has_6 : decode cX4_has 6 = .ok (.getfield 36, 3) := by decide +kernel
theorem dX4_has_9 : decode cX4_has 9 = .ok (.if_icmp .ge 7, 3) := by decide +kernel
theorem dX4_has_12 : decode cX4_has 12 = .ok (.iconst 1, 1) := by decide +kernel
theorem dX4_has_13 : decode cX4_has 13 = .ok (.goto 4, 3) := by decide +kernel
theorem dX4_has_16 : decode cX4_has 16 = .ok (.iconst 0, 1) := by decide +kernel
theorem dX4_has_17 : decode cX4_has 17 = .ok (.ireturn, 1) := by decide +kernel
theorem dX4_stands_0 : decode cX4_stands 0 = .ok (.aload_n 0, 1) := by decide +kernel
theorem dX4_stands_1 : decode cX4_stands 1 = .ok (.iload_n 1, 1) := by decide +kernel
theorem dX4_stands_2 : decode cX4_stands 2 = .ok (.invokevirtual 57, 3) := by decide +kernel
theorem dX4_stands_5 : decode cX4_stands 5 = .ok (.ifCond .eq 17, 3) := by decide +kernel
theorem dX4_stands_8 : decode cX4_stands 8 = .ok (.aload_n 0, 1) := by decide +kernel
theorem dX4_stands_9 : decode cX4_stands 9 = .ok (.getfield 27, 3) := by decide +kernel
theorem dX4_stands_12 : decode cX4_stands 12 = .ok (.iload_n 1, 1) := by decide +kernel
theorem dX4_stands_13 : decode cX4_stands 13 = .ok (.iaload, 1) := by decide +kernel
theorem dX4_stands_14 : decode cX4_stands 14 = .ok (.iconst 2, 1) := by decide +kernel
theorem dX4_stands_15 : decode cX4_stands 15 = .ok (.if_icmp .eq 7, 3) := by decide +kernel
theorem dX4_stands_18 : decode cX4_stands 18 = .ok (.iconst 1, 1) := by decide +kernel
theorem dX4_stands_19 : decode cX4_stands 19 = .ok (.goto 4, 3) := by decide +kernel
theorem dX4_stands_22 : decode cX4_stands 22 = .ok (.iconst 0, 1) := by decide +kernel
theorem dX4_stands_23 : decode cX4_stands 23 = .ok (.ireturn, 1) := by decide +kernel
theorem dX4_arePair_0 : decode cX4_arePair 0 = .ok (.iload_n 1, 1) := by decide +kernel
theorem dX4_arePair_1 : decode cX4_arePair 1 = .ok (.iload_n 2, 1) := by decide +kernel
theorem dX4_arePair_2 : decode cX4_arePair 2 = .ok (.if_icmp .eq 23, 3) := by decide +kernel
theorem dX4_arePair_5 : decode cX4_arePair 5 = .ok (.aload_n 0, 1) := by decide +kernel
theorem dX4_arePair_6 : decode cX4_arePair 6 = .ok (.iload_n 1, 1) := by decide +kernel
theorem dX4_arePair_7 : decode cX4_arePair 7 = .ok (.invokevirtual 60, 3) := by decide +kernel
theorem dX4_arePair_10 : decode cX4_arePair 10 = .ok (.ifCond .eq 15, 3) := by decide +kernel
theorem dX4_arePair_13 : decode cX4_arePair 13 = .ok (.aload_n 0, 1) := by decide +kernel
theorem dX4_arePair_14 : decode cX4_arePair 14 = .ok (.iload_n 2, 1) := by decide +kernel
theorem dX4_arePair_15 : decode cX4_arePair 15 = .ok (.invokevirtual 60, 3) := by decide +kernel
theorem dX4_arePair_18 : decode cX4_arePair 18 = .ok (.ifCond .eq 7, 3) := by decide +kernel
theorem dX4_arePair_21 : decode cX4_arePair 21 = .ok (.iconst 1, 1) := by decide +kernel
theorem dX4_arePair_22 : decode cX4_arePair 22 = .ok (.goto 4, 3) := by decide +kernel
theorem dX4_arePair_25 : decode cX4_arePair 25 = .ok (.iconst 0, 1) := by decide +kernel
theorem dX4_arePair_26 : decode cX4_arePair 26 = .ok (.ireturn, 1) := by decide +kernel
theorem dX4_eyeOf_0 : decode cX4_eyeOf 0 = .ok (.aload_n 0, 1) := by decide +kernel
theorem dX4_eyeOf_1 : decode cX4_eyeOf 1 = .ok (.getfield 40, 3) := by decide +kernel
theorem dX4_eyeOf_4 : decode cX4_eyeOf 4 = .ok (.getfield 63, 3) := by decide +kernel
theorem dX4_eyeOf_7 : decode cX4_eyeOf 7 = .ok (.aload_n 0, 1) := by decide +kernel
theorem dX4_eyeOf_8 : decode cX4_eyeOf 8 = .ok (.getfield 18, 3) := by decide +kernel
theorem dX4_eyeOf_11 : decode cX4_eyeOf 11 = .ok (.iload_n 1, 1) := by decide +kernel
theorem dX4_eyeOf_12 : decode cX4_eyeOf 12 = .ok (.iaload, 1) := by decide +kernel
theorem dX4_eyeOf_13 : decode cX4_eyeOf 13 = .ok (.iaload, 1) := by decide +kernel
theorem dX4_eyeOf_14 : decode cX4_eyeOf 14 = .ok (.iload_n 2, 1) := by decide +kernel
theorem dX4_eyeOf_15 : decode cX4_eyeOf 15 = .ok (.ifCond .eq 12, 3) := by decide +kernel
theorem dX4_eyeOf_18 : decode cX4_eyeOf 18 = .ok (.aload_n 0, 1) := by decide +kernel
theorem dX4_eyeOf_19 : decode cX4_eyeOf 19 = .ok (.getfield 21, 3) := by decide +kernel
theorem dX4_eyeOf_22 : decode cX4_eyeOf 22 = .ok (.iload_n 1, 1) := by decide +kernel
theorem dX4_eyeOf_23 : decode cX4_eyeOf 23 = .ok (.iaload, 1) := by decide +kernel
theorem dX4_eyeOf_24 : decode cX4_eyeOf 24 = .ok (.goto 9, 3) := by decide +kernel
theorem dX4_eyeOf_27 : decode cX4_eyeOf 27 = .ok (.aload_n 0, 1) := by decide +kernel
theorem dX4_eyeOf_28 : decode cX4_eyeOf 28 = .ok (.getfield 24, 3) := by decide +kernel
theorem dX4_eyeOf_31 : decode cX4_eyeOf 31 = .ok (.iload_n 1, 1) := by decide +kernel
theorem dX4_eyeOf_32 : decode cX4_eyeOf 32 = .ok (.iaload, 1) := by decide +kernel
theorem dX4_eyeOf_33 : decode cX4_eyeOf 33 = .ok (.iadd, 1) := by decide +kernel
theorem dX4_eyeOf_34 : decode cX4_eyeOf 34 = .ok (.ireturn, 1) := by decide +kernel
theorem dX4_trait_0 : decode cX4_trait 0 = .ok (.iload_n 2, 1) := by decide +kernel
theorem dX4_trait_1 : decode cX4_trait 1 = .ok (.tableswitch 92 0 6 #[43, 50, 57, 64, 71, 78, 85], 43) := by decide +kernel
theorem dX4_trait_44 : decode cX4_trait 44 = .ok (.aload_n 0, 1) := by decide +kernel
theorem dX4_trait_45 : decode cX4_trait 45 = .ok (.getfield 9, 3) := by decide +kernel
theorem dX4_trait_48 : decode cX4_trait 48 = .ok (.iload_n 1, 1) := by decide +kernel
theorem dX4_trait_49 : decode cX4_trait 49 = .ok (.iaload, 1) := by decide +kernel
theorem dX4_trait_50 : decode cX4_trait 50 = .ok (.ireturn, 1) := by decide +kernel
theorem dX4_trait_51 : decode cX4_trait 51 = .ok (.aload_n 0, 1) := by decide +kernel
theorem dX4_trait_52 : decode cX4_trait 52 = .ok (.getfield 15, 3) := by decide +kernel
theorem dX4_trait_55 : decode cX4_trait 55 = .ok (.iload_n 1, 1) := by decide +kernel
theorem dX4_trait_56 : decode cX4_trait 56 = .ok (.iaload, 1) := by decide +kernel
theorem dX4_trait_57 : decode cX4_trait 57 = .ok (.ireturn, 1) := by decide +kernel
theorem dX4_trait_58 : decode cX4_trait 58 = .ok (.aload_n 0, 1) := by decide +kernel
theorem dX4_trait_59 : decode cX4_trait 59 = .ok (.getfield 27, 3) := by decide +kernel
theorem dX4_trait_62 : decode cX4_trait 62 = .ok (.iload_n 1, 1) := by decide +kernel
theorem dX4_trait_63 : decode cX4_trait 63 = .ok (.iaload, 1) := by decide +kernel
theorem dX4_trait_64 : decode cX4_trait 64 = .ok (.ireturn, 1) := by decide +kernel
theorem dX4_trait_65 : decode cX4_trait 65 = .ok (.aload_n 0, 1) := by decide +kernel
theorem dX4_trait_66 : decode cX4_trait 66 = .ok (.getfield 30, 3) := by decide +kernel
theorem dX4_trait_69 : decode cX4_trait 69 = .ok (.iload_n 1, 1) := by decide +kernel
theorem dX4_trait_70 : decode cX4_trait 70 = .ok (.iaload, 1) := by decide +kernel
theorem dX4_trait_71 : decode cX4_trait 71 = .ok (.ireturn, 1) := by decide +kernel
theorem dX4_trait_72 : decode cX4_trait 72 = .ok (.aload_n 0, 1) := by decide +kernel
theorem dX4_trait_73 : decode cX4_trait 73 = .ok (.getfield 33, 3) := by decide +kernel
theorem dX4_trait_76 : decode cX4_trait 76 = .ok (.iload_n 1, 1) := by decide +kernel
theorem dX4_trait_77 : decode cX4_trait 77 = .ok (.iaload, 1) := by decide +kernel
theorem dX4_trait_78 : decode cX4_trait 78 = .ok (.ireturn, 1) := by decide +kernel
theorem dX4_trait_79 : decode cX4_trait 79 = .ok (.aload_n 0, 1) := by decide +kernel
theorem dX4_trait_80 : decode cX4_trait 80 = .ok (.getfield 21, 3) := by decide +kernel
theorem dX4_trait_83 : decode cX4_trait 83 = .ok (.iload_n 1, 1) := by decide +kernel
theorem dX4_trait_84 : decode cX4_trait 84 = .ok (.iaload, 1) := by decide +kernel
theorem dX4_trait_85 : decode cX4_trait 85 = .ok (.ireturn, 1) := by decide +kernel
theorem dX4_trait_86 : decode cX4_trait 86 = .ok (.aload_n 0, 1) := by decide +kernel
theorem dX4_trait_87 : decode cX4_trait 87 = .ok (.getfield 24, 3) := by decide +kernel
theorem dX4_trait_90 : decode cX4_trait 90 = .ok (.iload_n 1, 1) := by decide +kernel
theorem dX4_trait_91 : decode cX4_trait 91 = .ok (.iaload, 1) := by decide +kernel
theorem dX4_trait_92 : decode cX4_trait 92 = .ok (.ireturn, 1) := by decide +kernel
theorem dX4_trait_93 : decode cX4_trait 93 = .ok (.iconst (-1), 1) := by decide +kernel
theorem dX4_trait_94 : decode cX4_trait 94 = .ok (.ireturn, 1) := by decide +kernel
theorem dX5_init_0 : decode cX5_init 0 = .ok (.aload_n 0, 1) := by decide +kernel
theorem dX5_init_1 : decode cX5_init 1 = .ok (.invokespecial 3, 3) := by decide +kernel
theorem dX5_init_4 : decode cX5_init 4 = .ok (.aload_n 0, 1) := by decide +kernel
theorem dX5_init_5 : decode cX5_init 5 = .ok (.bipush 16, 2) := by decide +kernel
theorem dX5_init_7 : decode cX5_init 7 = .ok (.newarray .long, 2) := by decide +kernel
theorem dX5_init_9 : decode cX5_init 9 = .ok (.putfield 9, 3) := by decide +kernel
theorem dX5_init_12 : decode cX5_init 12 = .ok (.aload_n 0, 1) := by decide +kernel
theorem dX5_init_13 : decode cX5_init 13 = .ok (.bipush 16, 2) := by decide +kernel
theorem dX5_init_15 : decode cX5_init 15 = .ok (.newarray .int, 2) := by decide +kernel
theorem dX5_init_17 : decode cX5_init 17 = .ok (.putfield 15, 3) := by decide +kernel
theorem dX5_init_20 : decode cX5_init 20 = .ok (.aload_n 0, 1) := by decide +kernel
theorem dX5_init_21 : decode cX5_init 21 = .ok (.bipush 64, 2) := by decide +kernel
theorem dX5_init_23 : decode cX5_init 23 = .ok (.newarray .long, 2) := by decide +kernel
theorem dX5_init_25 : decode cX5_init 25 = .ok (.putfield 19, 3) := by decide +kernel
theorem dX5_init_28 : decode cX5_init 28 = .ok (.aload_n 0, 1) := by decide +kernel
theorem dX5_init_29 : decode cX5_init 29 = .ok (.bipush 64, 2) := by decide +kernel
theorem dX5_init_31 : decode cX5_init 31 = .ok (.newarray .int, 2) := by decide +kernel
theorem dX5_init_33 : decode cX5_init 33 = .ok (.putfield 22, 3) := by decide +kernel
theorem dX5_init_36 : decode cX5_init 36 = .ok (.aload_n 0, 1) := by decide +kernel
theorem dX5_init_37 : decode cX5_init 37 = .ok (.iconst 0, 1) := by decide +kernel
theorem dX5_init_38 : decode cX5_init 38 = .ok (.putfield 25, 3) := by decide +kernel
theorem dX5_init_41 : decode cX5_init 41 = .ok (.aload_n 0, 1) := by decide +kernel
theorem dX5_init_42 : decode cX5_init 42 = .ok (.iconst 0, 1) := by decide +kernel
theorem dX5_init_43 : decode cX5_init 43 = .ok (.putfield 29, 3) := by decide +kernel
theorem dX5_init_46 : decode cX5_init 46 = .ok (.aload_n 0, 1) := by decide +kernel
theorem dX5_init_47 : decode cX5_init 47 = .ok (.iconst 0, 1) := by decide +kernel
theorem dX5_init_48 : decode cX5_init 48 = .ok (.putfield 32, 3) := by decide +kernel
theorem dX5_init_51 : decode cX5_init 51 = .ok (.aload_n 0, 1) := by decide +kernel
theorem dX5_init_52 : decode cX5_init 52 = .ok (.iconst (-1), 1) := by decide +kernel
theorem dX5_init_53 : decode cX5_init 53 = .ok (.putfield 36, 3) := by decide +kernel
theorem dX5_init_56 : decode cX5_init 56 = .ok (.aload_n 0, 1) := by decide +kernel
theorem dX5_init_57 : decode cX5_init 57 = .ok (.aload_n 1, 1) := by decide +kernel
theorem dX5_init_58 : decode cX5_init 58 = .ok (.putfield 39, 3) := by decide +kernel
theorem dX5_init_61 : decode cX5_init 61 = .ok (.aload_n 0, 1) := by decide +kernel
theorem dX5_init_62 : decode cX5_init 62 = .ok (.new 43, 3) := by decide +kernel
theorem dX5_init_65 : decode cX5_init 65 = .ok (.dup, 1) := by decide +kernel
theorem dX5_init_66 : decode cX5_init 66 = .ok (.invokespecial 45, 3) := by decide +kernel
theorem dX5_init_69 : decode cX5_init 69 = .ok (.putfield 46, 3) := by decide +kernel
theorem dX5_init_72 : decode cX5_init 72 = .ok (.return_, 1) := by decide +kernel
theorem dX5_read_0 : decode cX5_read 0 = .ok (.aload_n 0, 1) := by decide +kernel
theorem dX5_read_1 : decode cX5_read 1 = .ok (.iload_n 1, 1) := by decide +kernel
theorem dX5_read_2 : decode cX5_read 2 = .ok (.invokevirtual 50, 3) := by decide +kernel
theorem dX5_read_5 : decode cX5_read 5 = .ok (.iconst 1, 1) := by decide +kernel
theorem dX5_read_6 : decode cX5_read 6 = .ok (.istore_n 2, 1) := by decide +kernel
theorem dX5_read_7 : decode cX5_read 7 = .ok (.iconst 0, 1) := by decide +kernel
theorem dX5_read_8 : decode cX5_read 8 = .ok (.istore_n 3, 1) := by decide +kernel
theorem dX5_read_9 : decode cX5_read 9 = .ok (.iload_n 3, 1) := by decide +kernel
theorem dX5_read_10 : decode cX5_read 10 = .ok (.iload_n 1, 1) := by decide +kernel
theorem dX5_read_11 : decode cX5_read 11 = .ok (.if_icmp .ge 272, 3) := by decide +kernel
theorem dX5_read_14 : decode cX5_read 14 = .ok (.iload_n 2, 1) := by decide +kernel
theorem dX5_read_15 : decode cX5_read 15 = .ok (.ifCond .eq 268, 3) := by decide +kernel
theorem dX5_read_18 : decode cX5_read 18 = .ok (.aload_n 0, 1) := by decide +kernel
theorem dX5_read_19 : decode cX5_read 19 = .ok (.getfield 39, 3) := by decide +kernel
theorem dX5_read_22 : decode cX5_read 22 = .ok (.getfield 54, 3) := by decide +kernel
theorem dX5_read_25 : decode cX5_read 25 = .ok (.ifCond .eq 258, 3) := by decide +kernel
theorem dX5_read_28 : decode cX5_read 28 = .ok (.aload_n 0, 1) := by decide +kernel
theorem dX5_read_29 : decode cX5_read 29 = .ok (.getfield 39, 3) := by decide +kernel
theorem dX5_read_32 : decode cX5_read 32 = .ok (.getfield 59, 3) := by decide +kernel
theorem dX5_read_35 : decode cX5_read 35 = .ok (.istore 4, 2) := by decide +kernel
theorem dX5_read_37 : decode cX5_read 37 = .ok (.aload_n 0, 1) := by decide +kernel
theorem dX5_read_38 : decode cX5_read 38 = .ok (.getfield 39, 3) := by decide +kernel
theorem dX5_read_41 : decode cX5_read 41 = .ok (.getfield 62, 3) := by decide +kernel
theorem dX5_read_44 : decode cX5_read 44 = .ok (.tableswitch 207 0 4 #[36, 66, 96, 121, 146], 36) := by decide +kernel
theorem dX5_read_80 : decode cX5_read 80 = .ok (.aload_n 0, 1) := by decide +kernel
theorem dX5_read_81 : decode cX5_read 81 = .ok (.getfield 46, 3) := by decide +kernel
theorem dX5_read_84 : decode cX5_read 84 = .ok (.getfield 65, 3) := by decide +kernel
theorem dX5_read_87 : decode cX5_read 87 = .ok (.bipush 10, 2) := by decide +kernel
theorem dX5_read_89 : decode cX5_read 89 = .ok (.if_icmp .ge 10, 3) := by decide +kernel
theorem dX5_read_92 : decode cX5_read 92 = .ok (.aload_n 0, 1) := by decide +kernel
theorem dX5_read_93 : decode cX5_read 93 = .ok (.invokevirtual 68, 3) := by decide +kernel
theorem dX5_read_96 : decode cX5_read 96 = .ok (.goto 10, 3) := by decide +kernel
theorem dX5_read_99 : decode cX5_read 99 = .ok (.aload_n 0, 1) := by decide +kernel
theorem dX5_read_100 : decode cX5_read 100 = .ok (.iconst 2, 1) := by decide +kernel
theorem dX5_read_101 : decode cX5_read 101 = .ok (.iload 4, 2) := by decide +kernel
theorem dX5_read_103 : decode cX5_read 103 = .ok (.invokevirtual 72, 3) := by decide +kernel
theorem dX5_read_106 : decode cX5_read 106 = .ok (.istore_n 2, 1) := by decide +kernel
theorem dX5_read_107 : decode cX5_read 107 = .ok (.goto 152, 3) := by decide +kernel
theorem dX5_read_110 : decode cX5_read 110 = .ok (.aload_n 0, 1) := by decide +kernel
theorem dX5_read_111 : decode cX5_read 111 = .ok (.getfield 46, 3) := by decide +kernel
theorem dX5_read_114 : decode cX5_read 114 = .ok (.getfield 76, 3) := by decide +kernel
theorem dX5_read_117 : decode cX5_read 117 = .ok (.bipush 8, 2) := by decide +kernel
theorem dX5_read_119 : decode cX5_read 119 = .ok (.if_icmp .ge 10, 3) := by decide +kernel
theorem dX5_read_122 : decode cX5_read 122 = .ok (.aload_n 0, 1) := by decide +kernel
theorem dX5_read_123 : decode cX5_read 123 = .ok (.invokevirtual 79, 3) := by decide +kernel
theorem dX5_read_126 : decode cX5_read 126 = .ok (.goto 10, 3) := by decide +kernel
theorem dX5_read_129 : decode cX5_read 129 = .ok (.aload_n 0, 1) := by decide +kernel
theorem dX5_read_130 : decode cX5_read 130 = .ok (.iconst 2, 1) := by decide +kernel
theorem dX5_read_131 : decode cX5_read 131 = .ok (.iload 4, 2) := by decide +kernel
theorem dX5_read_133 : decode cX5_read 133 = .ok (.invokevirtual 72, 3) := by decide +kernel
theorem dX5_read_136 : decode cX5_read 136 = .ok (.istore_n 2, 1) := by decide +kernel
theorem dX5_read_137 : decode cX5_read 137 = .ok (.goto 122, 3) := by decide +kernel
theorem dX5_read_140 : decode cX5_read 140 = .ok (.aload_n 0, 1) := by decide +kernel
theorem dX5_read_141 : decode cX5_read 141 = .ok (.getfield 25, 3) := by decide +kernel
theorem dX5_read_144 : decode cX5_read 144 = .ok (.ifCond .eq 13, 3) := by decide +kernel
theorem dX5_read_147 : decode cX5_read 147 = .ok (.aload_n 0, 1) := by decide +kernel
theorem dX5_read_148 : decode cX5_read 148 = .ok (.iconst 3, 1) := by decide +kernel
theorem dX5_read_149 : decode cX5_read 149 = .ok (.iload 4, 2) := by decide +kernel
theorem dX5_read_151 : decode cX5_read 151 = .ok (.invokevirtual 72, 3) := by decide +kernel
theorem dX5_read_154 : decode cX5_read 154 = .ok (.goto 7, 3) := by decide +kernel
theorem dX5_read_157 : decode cX5_read 157 = .ok (.aload_n 0, 1) := by decide +kernel
theorem dX5_read_158 : decode cX5_read 158 = .ok (.invokevirtual 82, 3) := by decide +kernel
theorem dX5_read_161 : decode cX5_read 161 = .ok (.istore_n 2, 1) := by decide +kernel
theorem dX5_read_162 : decode cX5_read 162 = .ok (.goto 97, 3) := by decide +kernel
theorem dX5_read_165 : decode cX5_read 165 = .ok (.aload_n 0, 1) := by decide +kernel
theorem dX5_read_166 : decode cX5_read 166 = .ok (.getfield 29, 3) := by decide +kernel
theorem dX5_read_169 : decode cX5_read 169 = .ok (.ifCond .eq 13, 3) := by decide +kernel
theorem dX5_read_172 : decode cX5_read 172 = .ok (.aload_n 0, 1) := by decide +kernel
theorem dX5_read_173 : decode cX5_read 173 = .ok (.iconst 3, 1) := by decide +kernel
theorem dX5_read_174 : decode cX5_read 174 = .ok (.iload 4, 2) := by decide +kernel
theorem dX5_read_176 : decode cX5_read 176 = .ok (.invokevirtual 72, 3) := by decide +kernel
theorem dX5_read_179 : decode cX5_read 179 = .ok (.goto 7, 3) := by decide +kernel
theorem dX5_read_182 : decode cX5_read 182 = .ok (.aload_n 0, 1) := by decide +kernel
theorem dX5_read_183 : decode cX5_read 183 = .ok (.invokevirtual 85, 3) := by decide +kernel
theorem dX5_read_186 : decode cX5_read 186 = .ok (.istore_n 2, 1) := by decide +kernel
theorem dX5_read_187 : decode cX5_read 187 = .ok (.goto 72, 3) := by decide +kernel
theorem dX5_read_190 : decode cX5_read 190 = .ok (.aload_n 0, 1) := by decide +kernel
theorem dX5_read_191 : decode cX5_read 191 = .ok (.getfield 46, 3) := by decide +kernel
theorem dX5_read_194 : decode cX5_read 194 = .ok (.getfield 88, 3) := by decide +kernel
theorem dX5_read_197 : decode cX5_read 197 = .ok (.bipush 16, 2) := by decide +kernel
theorem dX5_read_199 : decode cX5_read 199 = .ok (.if_icmp .ge 41, 3) := by decide +kernel
theorem dX5_read_202 : decode cX5_read 202 = .ok (.aload_n 0, 1) := by decide +kernel
theorem dX5_read_203 : decode cX5_read 203 = .ok (.aload_n 0, 1) := by decide +kernel
theorem dX5_read_204 : decode cX5_read 204 = .ok (.getfield 46, 3) := by decide +kernel
theorem dX5_read_207 : decode cX5_read 207 = .ok (.getfield 88, 3) := by decide +kernel
theorem dX5_read_210 : decode cX5_read 210 = .ok (.invokevirtual 91, 3) := by decide +kernel
theorem dX5_read_213 : decode cX5_read 213 = .ok (.ifCond .eq 23, 3) := by decide +kernel
theorem dX5_read_216 : decode cX5_read 216 = .ok (.aload_n 0, 1) := by decide +kernel
theorem dX5_read_217 : decode cX5_read 217 = .ok (.aload_n 0, 1) := by decide +kernel
theorem dX5_read_218 : decode cX5_read 218 = .ok (.getfield 46, 3) := by decide +kernel
theorem dX5_read_221 : decode cX5_read 221 = .ok (.getfield 88, 3) := by decide +kernel
theorem dX5_read_224 : decode cX5_read 224 = .ok (.iconst 1, 1) := by decide +kernel
theorem dX5_read_225 : decode cX5_read 225 = .ok (.isub, 1) := by decide +kernel
theorem dX5_read_226 : decode cX5_read 226 = .ok (.invokevirtual 95, 3) := by decide +kernel
theorem dX5_read_229 : decode cX5_read 229 = .ok (.ifCond .eq 7, 3) := by decide +kernel
theorem dX5_read_232 : decode cX5_read 232 = .ok (.iconst 1, 1) := by decide +kernel
theorem dX5_read_233 : decode cX5_read 233 = .ok (.goto 14, 3) := by decide +kernel
theorem dX5_read_236 : decode cX5_read 236 = .ok (.iconst 0, 1) := by decide +kernel
theorem dX5_read_237 : decode cX5_read 237 = .ok (.goto 10, 3) := by decide +kernel
theorem dX5_read_240 : decode cX5_read 240 = .ok (.aload_n 0, 1) := by decide +kernel
theorem dX5_read_241 : decode cX5_read 241 = .ok (.iconst 2, 1) := by decide +kernel
theorem dX5_read_242 : decode cX5_read 242 = .ok (.iload 4, 2) := by decide +kernel
theorem dX5_read_244 : decode cX5_read 244 = .ok (.invokevirtual 72, 3) := by decide +kernel
theorem dX5_read_247 : decode cX5_read 247 = .ok (.istore_n 2, 1) := by decide +kernel
theorem dX5_read_248 : decode cX5_read 248 = .ok (.goto 11, 3) := by decide +kernel
theorem dX5_read_251 : decode cX5_read 251 = .ok (.aload_n 0, 1) := by decide +kernel
theorem dX5_read_252 : decode cX5_read 252 = .ok (.iconst 1, 1) := by decide +kernel
theorem dX5_read_253 : decode cX5_read 253 = .ok (.iload 4, 2) := by decide +kernel
theorem dX5_read_255 : decode cX5_read 255 = .ok (.invokevirtual 72, 3) := by decide +kernel
theorem dX5_read_258 : decode cX5_read 258 = .ok (.istore_n 2, 1) := by decide +kernel
theorem dX5_read_259 : decode cX5_read 259 = .ok (.iload_n 2, 1) := by decide +kernel
theorem dX5_read_260 : decode cX5_read 260 = .ok (.ifCond .eq 15, 3) := by decide +kernel
theorem dX5_read_263 : decode cX5_read 263 = .ok (.aload_n 0, 1) := by decide +kernel
theorem dX5_read_264 : decode cX5_read 264 = .ok (.iconst 3, 1) := by decide +kernel
theorem dX5_read_265 : decode cX5_read 265 = .ok (.invokevirtual 98, 3) := by decide +kernel
theorem dX5_read_268 : decode cX5_read 268 = .ok (.ifCond .eq 7, 3) := by decide +kernel
theorem dX5_read_271 : decode cX5_read 271 = .ok (.iconst 1, 1) := by decide +kernel
theorem dX5_read_272 : decode cX5_read 272 = .ok (.goto 4, 3) := by decide +kernel
theorem dX5_read_275 : decode cX5_read 275 = .ok (.iconst 0, 1) := by decide +kernel
theorem dX5_read_276 : decode cX5_read 276 = .ok (.istore_n 2, 1) := by decide +kernel
theorem dX5_read_277 : decode cX5_read 277 = .ok (.iinc 3 1, 3) := by decide +kernel
theorem dX5_read_280 : decode cX5_read 280 = .ok (.goto (-271), 3) := by decide +kernel
theorem dX5_read_283 : decode cX5_read 283 = .ok (.iload_n 2, 1) := by decide +kernel
theorem dX5_read_284 : decode cX5_read 284 = .ok (.ifCond .eq 14, 3) := by decide +kernel
theorem dX5_read_287 : decode cX5_read 287 = .ok (.aload_n 0, 1) := by decide +kernel
theorem dX5_read_288 : decode cX5_read 288 = .ok (.invokevirtual 101, 3) := by decide +kernel
theorem dX5_read_291 : decode cX5_read 291 = .ok (.ifCond .eq 7, 3) := by decide +kernel
theorem dX5_read_294 : decode cX5_read 294 = .ok (.iconst 1, 1) := by decide +kernel
theorem dX5_read_295 : decode cX5_read 295 = .ok (.goto 4, 3) := by decide +kernel
theorem dX5_read_298 : decode cX5_read 298 = .ok (.iconst 0, 1) := by decide +kernel
theorem dX5_read_299 : decode cX5_read 299 = .ok (.ireturn, 1) := by decide +kernel
theorem dX5_begin_0 : decode cX5_begin 0 = .ok (.aload_n 0, 1) := by decide +kernel
theorem dX5_begin_1 : decode cX5_begin 1 = .ok (.getfield 46, 3) := by decide +kernel
theorem dX5_begin_4 : decode cX5_begin 4 = .ok (.invokevirtual 104, 3) := by decide +kernel
theorem dX5_begin_7 : decode cX5_begin 7 = .ok (.aload_n 0, 1) := by decide +kernel
theorem dX5_begin_8 : decode cX5_begin 8 = .ok (.iconst 0, 1) := by decide +kernel
theorem dX5_begin_9 : decode cX5_begin 9 = .ok (.putfield 25, 3) := by decide +kernel
theorem dX5_begin_12 : decode cX5_begin 12 = .ok (.aload_n 0, 1) := by decide +kernel
theorem dX5_begin_13 : decode cX5_begin 13 = .ok (.iconst 0, 1) := by decide +kernel
theorem dX5_begin_14 : decode cX5_begin 14 = .ok (.putfield 29, 3) := by decide +kernel
theorem dX5_begin_17 : decode cX5_begin 17 = .ok (.aload_n 0, 1) := by decide +kernel
theorem dX5_begin_18 : decode cX5_begin 18 = .ok (.iconst 0, 1) := by decide +kernel
theorem dX5_begin_19 : decode cX5_begin 19 = .ok (.putfield 32, 3) := by decide +kernel
theorem dX5_begin_22 : decode cX5_begin 22 = .ok (.aload_n 0, 1) := by decide +kernel
theorem dX5_begin_23 : decode cX5_begin 23 = .ok (.iconst (-1), 1) := by decide +kernel
theorem dX5_begin_24 : decode cX5_begin 24 = .ok (.putfield 36, 3) := by decide +kernel
theorem dX5_begin_27 : decode cX5_begin 27 = .ok (.aload_n 0, 1) := by decide +kernel
theorem dX5_begin_28 : decode cX5_begin 28 = .ok (.getfield 39, 3) := by decide +kernel
theorem dX5_begin_31 : decode cX5_begin 31 = .ok (.iload_n 1, 1) := by decide +kernel
theorem dX5_begin_32 : decode cX5_begin 32 = .ok (.invokevirtual 107, 3) := by decide +kernel
theorem dX5_begin_35 : decode cX5_begin 35 = .ok (.return_, 1) := by decide +kernel
theorem dX5_exchange_0 : decode cX5_exchange 0 = .ok (.aload_n 0, 1) := by decide +kernel
theorem dX5_exchange_1 : decode cX5_exchange 1 = .ok (.getfield 46, 3) := by decide +kernel
theorem dX5_exchange_4 : decode cX5_exchange 4 = .ok (.astore_n 2, 1) := by decide +kernel
theorem dX5_exchange_5 : decode cX5_exchange 5 = .ok (.aload_n 0, 1) := by decide +kernel
theorem dX5_exchange_6 : decode cX5_exchange 6 = .ok (.aload_n 1, 1) := by decide +kernel
theorem dX5_exchange_7 : decode cX5_exchange 7 = .ok (.putfield 46, 3) := by decide +kernel
theorem dX5_exchange_10 : decode cX5_exchange 10 = .ok (.aload_n 2, 1) := by decide +kernel
theorem dX5_exchange_11 : decode cX5_exchange 11 = .ok (.areturn, 1) := by decide +kernel
theorem dX5_fail_0 : decode cX5_fail 0 = .ok (.aload_n 0, 1) := by decide +kernel
theorem dX5_fail_1 : decode cX5_fail 1 = .ok (.iload_n 1, 1) := by decide +kernel
theorem dX5_fail_2 : decode cX5_fail 2 = .ok (.putfield 32, 3) := by decide +kernel
theorem dX5_fail_5 : decode cX5_fail 5 = .ok (.aload_n 0, 1) := by decide +kernel
theorem dX5_fail_6 : decode cX5_fail 6 = .ok (.iload_n 2, 1) := by decide +kernel
theorem dX5_fail_7 : decode cX5_fail 7 = .ok (.putfield 36, 3) := by decide +kernel
theorem dX5_fail_10 : decode cX5_fail 10 = .ok (.iconst 0, 1) := by decide +kernel
theorem dX5_fail_11 : decode cX5_fail 11 = .ok (.ireturn, 1) := by decide +kernel
theorem dX5_passMark_0 : decode cX5_passMark 0 = .ok (.aload_n 0, 1) := by decide +kernel
theorem dX5_passMark_1 : decode cX5_passMark 1 = .ok (.getfield 39, 3) := by decide +kernel
theorem dX5_passMark_4 : decode cX5_passMark 4 = .ok (.getfield 54, 3) := by decide +kernel
theorem dX5_passMark_7 : decode cX5_passMark 7 = .ok (.iload_n 1, 1) := by decide +kernel
theorem dX5_passMark_8 : decode cX5_passMark 8 = .ok (.if_icmp .eq 16, 3) := by decide +kernel
theorem dX5_passMark_11 : decode cX5_passMark 11 = .ok (.aload_n 0, 1) := by decide +kernel
theorem dX5_passMark_12 : decode cX5_passMark 12 = .ok (.iconst 1, 1) := by decide +kernel
theorem dX5_passMark_13 : decode cX5_passMark 13 = .ok (.aload_n 0, 1) := by decide +kernel
theorem dX5_passMark_14 : decode cX5_passMark 14 = .ok (.getfield 39, 3) := by decide +kernel
theorem dX5_passMark_17 : decode cX5_passMark 17 = .ok (.getfield 59, 3) := by decide +kernel
theorem dX5_passMark_20 : decode cX5_passMark 20 = .ok (.invokevirtual 72, 3) := by decide +kernel
theorem dX5_passMark_23 : decode cX5_passMark 23 = .ok (.ireturn, 1) := by decide +kernel
theorem dX5_passMark_24 : decode cX5_passMark 24 = .ok (.aload_n 0, 1) := by decide +kernel
theorem dX5_passMark_25 : decode cX5_passMark 25 = .ok (.getfield 39, 3) := by decide +kernel
theorem dX5_passMark_28 : decode cX5_passMark 28 = .ok (.invokevirtual 110, 3) := by decide +kernel
theorem dX5_passMark_31 : decode cX5_passMark 31 = .ok (.iconst 1, 1) := by decide +kernel
theorem dX5_passMark_32 : decode cX5_passMark 32 = .ok (.ireturn, 1) := by decide +kernel
theorem dX5_passKey_0 : decode cX5_passKey 0 = .ok (.aload_n 0, 1) := by decide +kernel
theorem dX5_passKey_1 : decode cX5_passKey 1 = .ok (.getfield 39, 3) := by decide +kernel
theorem dX5_passKey_4 : decode cX5_passKey 4 = .ok (.getfield 62, 3) := by decide +kernel
theorem dX5_passKey_7 : decode cX5_passKey 7 = .ok (.iload_n 1, 1) := by decide +kernel
theorem dX5_passKey_8 : decode cX5_passKey 8 = .ok (.if_icmp .eq 16, 3) := by decide +kernel
theorem dX5_passKey_11 : decode cX5_passKey 11 = .ok (.aload_n 0, 1) := by decide +kernel
theorem dX5_passKey_12 : decode cX5_passKey 12 = .ok (.iconst 1, 1) := by decide +kernel
theorem dX5_passKey_13 : decode cX5_passKey 13 = .ok (.aload_n 0, 1) := by decide +kernel
theorem dX5_passKey_14 : decode cX5_passKey 14 = .ok (.getfield 39, 3) := by decide +kernel
theorem dX5_passKey_17 : decode cX5_passKey 17 = .ok (.getfield 59, 3) := by decide +kernel
theorem dX5_passKey_20 : decode cX5_passKey 20 = .ok (.invokevirtual 72, 3) := by decide +kernel
theorem dX5_passKey_23 : decode cX5_passKey 23 = .ok (.ireturn, 1) := by decide +kernel
theorem dX5_passKey_24 : decode cX5_passKey 24 = .ok (.aload_n 0, 1) := by decide +kernel
theorem dX5_passKey_25 : decode cX5_passKey 25 = .ok (.getfield 39, 3) := by decide +kernel
theorem dX5_passKey_28 : decode cX5_passKey 28 = .ok (.invokevirtual 110, 3) := by decide +kernel
theorem dX5_passKey_31 : decode cX5_passKey 31 = .ok (.iconst 1, 1) := by decide +kernel
theorem dX5_passKey_32 : decode cX5_passKey 32 = .ok (.ireturn, 1) := by decide +kernel
theorem dX5_atName_0 : decode cX5_atName 0 = .ok (.aload_n 0, 1) := by decide +kernel
theorem dX5_atName_1 : decode cX5_atName 1 = .ok (.getfield 39, 3) := by decide +kernel
theorem dX5_atName_4 : decode cX5_atName 4 = .ok (.getfield 54, 3) := by decide +kernel
theorem dX5_atName_7 : decode cX5_atName 7 = .ok (.iconst 1, 1) := by decide +kernel
theorem dX5_atName_8 : decode cX5_atName 8 = .ok (.if_icmp .ne 14, 3) := by decide +kernel
theorem dX5_atName_11 : decode cX5_atName 11 = .ok (.aload_n 0, 1) := by decide +kernel
theorem dX5_atName_12 : decode cX5_atName 12 = .ok (.getfield 39, 3) := by decide +kernel
theorem dX5_atName_15 : decode cX5_atName 15 = .ok (.getfield 62, 3) := by decide +kernel
theorem dX5_atName_18 : decode cX5_atName 18 = .ok (.iconst (-1), 1) := by decide +kernel
theorem dX5_atName_19 : decode cX5_atName 19 = .ok (.if_icmp .eq 18, 3) := by decide +kernel
theorem dX5_atName_22 : decode cX5_atName 22 = .ok (.aload_n 0, 1) := by decide +kernel
theorem dX5_atName_23 : decode cX5_atName 23 = .ok (.iconst 1, 1) := by decide +kernel
theorem dX5_atName_24 : decode cX5_atName 24 = .ok (.aload_n 0, 1) := by decide +kernel
theorem dX5_atName_25 : decode cX5_atName 25 = .ok (.getfield 39, 3) := by decide +kernel
theorem dX5_atName_28 : decode cX5_atName 28 = .ok (.getfield 59, 3) := by decide +kernel
theorem dX5_atName_31 : decode cX5_atName 31 = .ok (.invokevirtual 72, 3) := by decide +kernel
theorem dX5_atName_34 : decode cX5_atName 34 = .ok (.ifCond .eq 7, 3) := by decide +kernel
theorem dX5_atName_37 : decode cX5_atName 37 = .ok (.iconst 1, 1) := by decide +kernel
theorem dX5_atName_38 : decode cX5_atName 38 = .ok (.goto 4, 3) := by decide +kernel
theorem dX5_atName_41 : decode cX5_atName 41 = .ok (.iconst 0, 1) := by decide +kernel
theorem dX5_atName_42 : decode cX5_atName 42 = .ok (.ireturn, 1) := by decide +kernel
theorem dX5_atNumber_0 : decode cX5_atNumber 0 = .ok (.aload_n 0, 1) := by decide +kernel
theorem dX5_atNumber_1 : decode cX5_atNumber 1 = .ok (.getfield 39, 3) := by decide +kernel
theorem dX5_atNumber_4 : decode cX5_atNumber 4 = .ok (.getfield 54, 3) := by decide +kernel
theorem dX5_atNumber_7 : decode cX5_atNumber 7 = .ok (.iconst 2, 1) := by decide +kernel
theorem dX5_atNumber_8 : decode cX5_atNumber 8 = .ok (.if_icmp .eq 16, 3) := by decide +kernel
theorem dX5_atNumber_11 : decode cX5_atNumber 11 = .ok (.aload_n 0, 1) := by decide +kernel
theorem dX5_atNumber_12 : decode cX5_atNumber 12 = .ok (.iconst 1, 1) := by decide +kernel
theorem dX5_atNumber_13 : decode cX5_atNumber 13 = .ok (.aload_n 0, 1) := by decide +kernel
theorem dX5_atNumber_14 : decode cX5_atNumber 14 = .ok (.getfield 39, 3) := by decide +kernel
theorem dX5_atNumber_17 : decode cX5_atNumber 17 = .ok (.getfield 59, 3) := by decide +kernel
theorem dX5_atNumber_20 : decode cX5_atNumber 20 = .ok (.invokevirtual 72, 3) := by decide +kernel
theorem dX5_atNumber_23 : decode cX5_atNumber 23 = .ok (.ireturn, 1) := by decide +kernel
theorem dX5_atNumber_24 : decode cX5_atNumber 24 = .ok (.aload_n 0, 1) := by decide +kernel
theorem dX5_atNumber_25 : decode cX5_atNumber 25 = .ok (.getfield 39, 3) := by decide +kernel
theorem dX5_atNumber_28 : decode cX5_atNumber 28 = .ok (.getfield 113, 3) := by decide +kernel
theorem dX5_atNumber_31 : decode cX5_atNumber 31 = .ok (.iload_n 1, 1) := by decide +kernel
theorem dX5_atNumber_32 : decode cX5_atNumber 32 = .ok (.if_icmp .lt 14, 3) := by decide +kernel
theorem dX5_atNumber_35 : decode cX5_atNumber 35 = .ok (.aload_n 0, 1) := by decide +kernel
theorem dX5_atNumber_36 : decode cX5_atNumber 36 = .ok (.getfield 39, 3) := by decide +kernel
theorem dX5_atNumber_39 : decode cX5_atNumber 39 = .ok (.getfield 113, 3) := by decide +kernel
theorem dX5_atNumber_42 : decode cX5_atNumber 42 = .ok (.iload_n 2, 1) := by decide +kernel
theorem dX5_atNumber_43 : decode cX5_atNumber 43 = .ok (.if_icmp .le 18, 3) := by decide +kernel
theorem dX5_atNumber_46 : decode cX5_atNumber 46 = .ok (.aload_n 0, 1) := by decide +kernel
theorem dX5_atNumber_47 : decode cX5_atNumber 47 = .ok (.iconst 2, 1) := by decide +kernel
theorem dX5_atNumber_48 : decode cX5_atNumber 48 = .ok (.aload_n 0, 1) := by decide +kernel
theorem dX5_atNumber_49 : decode cX5_atNumber 49 = .ok (.getfield 39, 3) := by decide +kernel
theorem dX5_atNumber_52 : decode cX5_atNumber 52 = .ok (.getfield 59, 3) := by decide +kernel
theorem dX5_atNumber_55 : decode cX5_atNumber 55 = .ok (.invokevirtual 72, 3) := by decide +kernel
theorem dX5_atNumber_58 : decode cX5_atNumber 58 = .ok (.ifCond .eq 7, 3) := by decide +kernel
theorem dX5_atNumber_61 : decode cX5_atNumber 61 = .ok (.iconst 1, 1) := by decide +kernel
theorem dX5_atNumber_62 : decode cX5_atNumber 62 = .ok (.goto 4, 3) := by decide +kernel
theorem dX5_atNumber_65 : decode cX5_atNumber 65 = .ok (.iconst 0, 1) := by decide +kernel
theorem dX5_atNumber_66 : decode cX5_atNumber 66 = .ok (.ireturn, 1) := by decide +kernel
theorem dX5_readWord_0 : decode cX5_readWord 0 = .ok (.aload_n 0, 1) := by decide +kernel
theorem dX5_readWord_1 : decode cX5_readWord 1 = .ok (.getfield 39, 3) := by decide +kernel
theorem dX5_readWord_4 : decode cX5_readWord 4 = .ok (.invokevirtual 110, 3) := by decide +kernel
theorem dX5_readWord_7 : decode cX5_readWord 7 = .ok (.aload_n 0, 1) := by decide +kernel
theorem dX5_readWord_8 : decode cX5_readWord 8 = .ok (.invokevirtual 116, 3) := by decide +kernel
theorem dX5_readWord_11 : decode cX5_readWord 11 = .ok (.ifCond .ne 5, 3) := by decide +kernel
theorem dX5_readWord_14 : decode cX5_readWord 14 = .ok (.iconst 0, 1) := by decide +kernel
theorem dX5_readWord_15 : decode cX5_readWord 15 = .ok (.ireturn, 1) := by decide +kernel
theorem dX5_readWord_16 : decode cX5_readWord 16 = .ok (.aload_n 0, 1) := by decide +kernel
theorem dX5_readWord_17 : decode cX5_readWord 17 = .ok (.getfield 39, 3) := by decide +kernel
theorem dX5_readWord_20 : decode cX5_readWord 20 = .ok (.getfield 119, 3) := by decide +kernel
theorem dX5_readWord_23 : decode cX5_readWord 23 = .ok (.lstore_n 1, 1) := by decide +kernel
theorem dX5_readWord_24 : decode cX5_readWord 24 = .ok (.aload_n 0, 1) := by decide +kernel
theorem dX5_readWord_25 : decode cX5_readWord 25 = .ok (.getfield 46, 3) := by decide +kernel
theorem dX5_readWord_28 : decode cX5_readWord 28 = .ok (.lload_n 1, 1) := by decide +kernel
theorem dX5_readWord_29 : decode cX5_readWord 29 = .ok (.invokevirtual 123, 3) := by decide +kernel
theorem dX5_readWord_32 : decode cX5_readWord 32 = .ok (.iconst (-1), 1) := by decide +kernel
theorem dX5_readWord_33 : decode cX5_readWord 33 = .ok (.if_icmp .eq 16, 3) := by decide +kernel
theorem dX5_readWord_36 : decode cX5_readWord 36 = .ok (.aload_n 0, 1) := by decide +kernel
theorem dX5_readWord_37 : decode cX5_readWord 37 = .ok (.iconst 3, 1) := by decide +kernel
theorem dX5_readWord_38 : decode cX5_readWord 38 = .ok (.aload_n 0, 1) := by decide +kernel
theorem dX5_readWord_39 : decode cX5_readWord 39 = .ok (.getfield 39, 3) := by decide +kernel
theorem dX5_readWord_42 : decode cX5_readWord 42 = .ok (.getfield 59, 3) := by decide +kernel
theorem dX5_readWord_45 : decode cX5_readWord 45 = .ok (.invokevirtual 72, 3) := by decide +kernel
theorem dX5_readWord_48 : decode cX5_readWord 48 = .ok (.ireturn, 1) := by decide +kernel
theorem dX5_readWord_49 : decode cX5_readWord 49 = .ok (.aload_n 0, 1) := by decide +kernel
theorem dX5_readWord_50 : decode cX5_readWord 50 = .ok (.getfield 39, 3) := by decide +kernel
theorem dX5_readWord_53 : decode cX5_readWord 53 = .ok (.invokevirtual 110, 3) := by decide +kernel
theorem dX5_readWord_56 : decode cX5_readWord 56 = .ok (.aload_n 0, 1) := by decide +kernel
theorem dX5_readWord_57 : decode cX5_readWord 57 = .ok (.getfield 39, 3) := by decide +kernel
theorem dX5_readWord_60 : decode cX5_readWord 60 = .ok (.getfield 59, 3) := by decide +kernel
theorem dX5_readWord_63 : decode cX5_readWord 63 = .ok (.istore_n 3, 1) := by decide +kernel
theorem dX5_readWord_64 : decode cX5_readWord 64 = .ok (.iconst 0, 1) := by decide +kernel
theorem dX5_readWord_65 : decode cX5_readWord 65 = .ok (.istore 4, 2) := by decide +kernel
theorem dX5_readWord_67 : decode cX5_readWord 67 = .ok (.iconst 0, 1) := by decide +kernel
theorem dX5_readWord_68 : decode cX5_readWord 68 = .ok (.istore 5, 2) := by decide +kernel
theorem dX5_readWord_70 : decode cX5_readWord 70 = .ok (.aload_n 0, 1) := by decide +kernel
theorem dX5_readWord_71 : decode cX5_readWord 71 = .ok (.iconst 1, 1) := by decide +kernel
theorem dX5_readWord_72 : decode cX5_readWord 72 = .ok (.bipush 9, 2) := by decide +kernel
theorem dX5_readWord_74 : decode cX5_readWord 74 = .ok (.invokevirtual 127, 3) := by decide +kernel
theorem dX5_readWord_77 : decode cX5_readWord 77 = .ok (.ifCond .ne 5, 3) := by decide +kernel
theorem dX5_readWord_80 : decode cX5_readWord 80 = .ok (.iconst 0, 1) := by decide +kernel
theorem dX5_readWord_81 : decode cX5_readWord 81 = .ok (.ireturn, 1) := by decide +kernel
theorem dX5_readWord_82 : decode cX5_readWord 82 = .ok (.iload 5, 2) := by decide +kernel
theorem dX5_readWord_84 : decode cX5_readWord 84 = .ok (.iconst 5, 1) := by decide +kernel
theorem dX5_readWord_85 : decode cX5_readWord 85 = .ok (.if_icmp .ne 16, 3) := by decide +kernel
theorem dX5_readWord_88 : decode cX5_readWord 88 = .ok (.aload_n 0, 1) := by decide +kernel
theorem dX5_readWord_89 : decode cX5_readWord 89 = .ok (.iconst 2, 1) := by decide +kernel
theorem dX5_readWord_90 : decode cX5_readWord 90 = .ok (.aload_n 0, 1) := by decide +kernel
theorem dX5_readWord_91 : decode cX5_readWord 91 = .ok (.getfield 39, 3) := by decide +kernel
theorem dX5_readWord_94 : decode cX5_readWord 94 = .ok (.getfield 59, 3) := by decide +kernel
theorem dX5_readWord_97 : decode cX5_readWord 97 = .ok (.invokevirtual 72, 3) := by decide +kernel
theorem dX5_readWord_100 : decode cX5_readWord 100 = .ok (.ireturn, 1) := by decide +kernel
theorem dX5_readWord_101 : decode cX5_readWord 101 = .ok (.iload 4, 2) := by decide +kernel
theorem dX5_readWord_103 : decode cX5_readWord 103 = .ok (.bipush 10, 2) := by decide +kernel
theorem dX5_readWord_105 : decode cX5_readWord 105 = .ok (.imul, 1) := by decide +kernel
theorem dX5_readWord_106 : decode cX5_readWord 106 = .ok (.aload_n 0, 1) := by decide +kernel
theorem dX5_readWord_107 : decode cX5_readWord 107 = .ok (.getfield 39, 3) := by decide +kernel
theorem dX5_readWord_110 : decode cX5_readWord 110 = .ok (.getfield 113, 3) := by decide +kernel
theorem dX5_readWord_113 : decode cX5_readWord 113 = .ok (.iadd, 1) := by decide +kernel
theorem dX5_readWord_114 : decode cX5_readWord 114 = .ok (.istore 4, 2) := by decide +kernel
theorem dX5_readWord_116 : decode cX5_readWord 116 = .ok (.iinc 5 1, 3) := by decide +kernel
theorem dX5_readWord_119 : decode cX5_readWord 119 = .ok (.aload_n 0, 1) := by decide +kernel
theorem dX5_readWord_120 : decode cX5_readWord 120 = .ok (.getfield 39, 3) := by decide +kernel
theorem dX5_readWord_123 : decode cX5_readWord 123 = .ok (.invokevirtual 110, 3) := by decide +kernel
theorem dX5_readWord_126 : decode cX5_readWord 126 = .ok (.aload_n 0, 1) := by decide +kernel
theorem dX5_readWord_127 : decode cX5_readWord 127 = .ok (.getfield 39, 3) := by decide +kernel
theorem dX5_readWord_130 : decode cX5_readWord 130 = .ok (.getfield 54, 3) := by decide +kernel
theorem dX5_readWord_133 : decode cX5_readWord 133 = .ok (.iconst 2, 1) := by decide +kernel
theorem dX5_readWord_134 : decode cX5_readWord 134 = .ok (.if_icmp .ne 9, 3) := by decide +kernel
theorem dX5_readWord_137 : decode cX5_readWord 137 = .ok (.iload 5, 2) := by decide +kernel
theorem dX5_readWord_139 : decode cX5_readWord 139 = .ok (.iconst 5, 1) := by decide +kernel
theorem dX5_readWord_140 : decode cX5_readWord 140 = .ok (.if_icmp .le (-70), 3) := by decide +kernel
theorem dX5_readWord_143 : decode cX5_readWord 143 = .ok (.aload_n 0, 1) := by decide +kernel
theorem dX5_readWord_144 : decode cX5_readWord 144 = .ok (.getfield 46, 3) := by decide +kernel
theorem dX5_readWord_147 : decode cX5_readWord 147 = .ok (.iload 4, 2) := by decide +kernel
theorem dX5_readWord_149 : decode cX5_readWord 149 = .ok (.invokevirtual 130, 3) := by decide +kernel
theorem dX5_readWord_152 : decode cX5_readWord 152 = .ok (.iconst (-1), 1) := by decide +kernel
theorem dX5_readWord_153 : decode cX5_readWord 153 = .ok (.if_icmp .eq 10, 3) := by decide +kernel
theorem dX5_readWord_156 : decode cX5_readWord 156 = .ok (.aload_n 0, 1) := by decide +kernel
theorem dX5_readWord_157 : decode cX5_readWord 157 = .ok (.iconst 3, 1) := by decide +kernel
theorem dX5_readWord_158 : decode cX5_readWord 158 = .ok (.iload_n 3, 1) := by decide +kernel
theorem dX5_readWord_159 : decode cX5_readWord 159 = .ok (.invokevirtual 72, 3) := by decide +kernel
theorem dX5_readWord_162 : decode cX5_readWord 162 = .ok (.ireturn, 1) := by decide +kernel
theorem dX5_readWord_163 : decode cX5_readWord 163 = .ok (.aload_n 0, 1) := by decide +kernel
theorem dX5_readWord_164 : decode cX5_readWord 164 = .ok (.getfield 46, 3) := by decide +kernel
theorem dX5_readWord_167 : decode cX5_readWord 167 = .ok (.lload_n 1, 1) := by decide +kernel
theorem dX5_readWord_168 : decode cX5_readWord 168 = .ok (.iload 4, 2) := by decide +kernel
theorem dX5_readWord_170 : decode cX5_readWord 170 = .ok (.iload 5, 2) := by decide +kernel
theorem dX5_readWord_172 : decode cX5_readWord 172 = .ok (.invokevirtual 134, 3) := by decide +kernel
theorem dX5_readWord_175 : decode cX5_readWord 175 = .ok (.iconst 1, 1) := by decide +kernel
theorem dX5_readWord_176 : decode cX5_readWord 176 = .ok (.ireturn, 1) := by decide +kernel
theorem dX5_readLike_0 : decode cX5_readLike 0 = .ok (.aload_n 0, 1) := by decide +kernel
theorem dX5_readLike_1 : decode cX5_readLike 1 = .ok (.getfield 39, 3) := by decide +kernel
theorem dX5_readLike_4 : decode cX5_readLike 4 = .ok (.invokevirtual 110, 3) := by decide +kernel
theorem dX5_readLike_7 : decode cX5_readLike 7 = .ok (.aload_n 0, 1) := by decide +kernel
theorem dX5_readLike_8 : decode cX5_readLike 8 = .ok (.iconst 1, 1) := by decide +kernel
theorem dX5_readLike_9 : decode cX5_readLike 9 = .ok (.bipush 9, 2) := by decide +kernel
theorem dX5_readLike_11 : decode cX5_readLike 11 = .ok (.invokevirtual 127, 3) := by decide +kernel
theorem dX5_readLike_14 : decode cX5_readLike 14 = .ok (.ifCond .ne 5, 3) := by decide +kernel
theorem dX5_readLike_17 : decode cX5_readLike 17 = .ok (.iconst 0, 1) := by decide +kernel
theorem dX5_readLike_18 : decode cX5_readLike 18 = .ok (.ireturn, 1) := by decide +kernel
theorem dX5_readLike_19 : decode cX5_readLike 19 = .ok (.aload_n 0, 1) := by decide +kernel
theorem dX5_readLike_20 : decode cX5_readLike 20 = .ok (.getfield 39, 3) := by decide +kernel
theorem dX5_readLike_23 : decode cX5_readLike 23 = .ok (.getfield 113, 3) := by decide +kernel
theorem dX5_readLike_26 : decode cX5_readLike 26 = .ok (.istore_n 1, 1) := by decide +kernel
theorem dX5_readLike_27 : decode cX5_readLike 27 = .ok (.aload_n 0, 1) := by decide +kernel
theorem dX5_readLike_28 : decode cX5_readLike 28 = .ok (.getfield 39, 3) := by decide +kernel
theorem dX5_readLike_31 : decode cX5_readLike 31 = .ok (.invokevirtual 110, 3) := by decide +kernel
theorem dX5_readLike_34 : decode cX5_readLike 34 = .ok (.aload_n 0, 1) := by decide +kernel
theorem dX5_readLike_35 : decode cX5_readLike 35 = .ok (.iconst 1, 1) := by decide +kernel
theorem dX5_readLike_36 : decode cX5_readLike 36 = .ok (.bipush 9, 2) := by decide +kernel
theorem dX5_readLike_38 : decode cX5_readLike 38 = .ok (.invokevirtual 127, 3) := by decide +kernel
theorem dX5_readLike_41 : decode cX5_readLike 41 = .ok (.ifCond .ne 5, 3) := by decide +kernel
theorem dX5_readLike_44 : decode cX5_readLike 44 = .ok (.iconst 0, 1) := by decide +kernel
theorem dX5_readLike_45 : decode cX5_readLike 45 = .ok (.ireturn, 1) := by decide +kernel
theorem dX5_readLike_46 : decode cX5_readLike 46 = .ok (.aload_n 0, 1) := by decide +kernel
theorem dX5_readLike_47 : decode cX5_readLike 47 = .ok (.getfield 46, 3) := by decide +kernel
theorem dX5_readLike_50 : decode cX5_readLike 50 = .ok (.iload_n 1, 1) := by decide +kernel
theorem dX5_readLike_51 : decode cX5_readLike 51 = .ok (.aload_n 0, 1) := by decide +kernel
theorem dX5_readLike_52 : decode cX5_readLike 52 = .ok (.getfield 39, 3) := by decide +kernel
theorem dX5_readLike_55 : decode cX5_readLike 55 = .ok (.getfield 113, 3) := by decide +kernel
theorem dX5_readLike_58 : decode cX5_readLike 58 = .ok (.invokevirtual 138, 3) := by decide +kernel
theorem dX5_readLike_61 : decode cX5_readLike 61 = .ok (.aload_n 0, 1) := by decide +kernel
theorem dX5_readLike_62 : decode cX5_readLike 62 = .ok (.getfield 39, 3) := by decide +kernel
theorem dX5_readLike_65 : decode cX5_readLike 65 = .ok (.invokevirtual 110, 3) := by decide +kernel
theorem dX5_readLike_68 : decode cX5_readLike 68 = .ok (.iconst 1, 1) := by decide +kernel
theorem dX5_readLike_69 : decode cX5_readLike 69 = .ok (.ireturn, 1) := by decide +kernel
theorem dX5_readMinutes_0 : decode cX5_readMinutes 0 = .ok (.aload_n 0, 1) := by decide +kernel
theorem dX5_readMinutes_1 : decode cX5_readMinutes 1 = .ok (.getfield 39, 3) := by decide +kernel
theorem dX5_readMinutes_4 : decode cX5_readMinutes 4 = .ok (.invokevirtual 110, 3) := by decide +kernel
theorem dX5_readMinutes_7 : decode cX5_readMinutes 7 = .ok (.aload_n 0, 1) := by decide +kernel
theorem dX5_readMinutes_8 : decode cX5_readMinutes 8 = .ok (.iconst 1, 1) := by decide +kernel
theorem dX5_readMinutes_9 : decode cX5_readMinutes 9 = .ok (.bipush 9, 2) := by decide +kernel
theorem dX5_readMinutes_11 : decode cX5_readMinutes 11 = .ok (.invokevirtual 127, 3) := by decide +kernel
theorem dX5_readMinutes_14 : decode cX5_readMinutes 14 = .ok (.ifCond .ne 5, 3) := by decide +kernel
theorem dX5_readMinutes_17 : decode cX5_readMinutes 17 = .ok (.iconst 0, 1) := by decide +kernel
theorem dX5_readMinutes_18 : decode cX5_readMinutes 18 = .ok (.ireturn, 1) := by decide +kernel
theorem dX5_readMinutes_19 : decode cX5_readMinutes 19 = .ok (.aload_n 0, 1) := by decide +kernel
theorem dX5_readMinutes_20 : decode cX5_readMinutes 20 = .ok (.getfield 46, 3) := by decide +kernel
theorem dX5_readMinutes_23 : decode cX5_readMinutes 23 = .ok (.aload_n 0, 1) := by decide +kernel
theorem dX5_readMinutes_24 : decode cX5_readMinutes 24 = .ok (.getfield 39, 3) := by decide +kernel
theorem dX5_readMinutes_27 : decode cX5_readMinutes 27 = .ok (.getfield 113, 3) := by decide +kernel
theorem dX5_readMinutes_30 : decode cX5_readMinutes 30 = .ok (.putfield 142, 3) := by decide +kernel
theorem dX5_readMinutes_33 : decode cX5_readMinutes 33 = .ok (.aload_n 0, 1) := by decide +kernel
theorem dX5_readMinutes_34 : decode cX5_readMinutes 34 = .ok (.iconst 1, 1) := by decide +kernel
theorem dX5_readMinutes_35 : decode cX5_readMinutes 35 = .ok (.putfield 25, 3) := by decide +kernel
theorem dX5_readMinutes_38 : decode cX5_readMinutes 38 = .ok (.aload_n 0, 1) := by decide +kernel
theorem dX5_readMinutes_39 : decode cX5_readMinutes 39 = .ok (.getfield 39, 3) := by decide +kernel
theorem dX5_readMinutes_42 : decode cX5_readMinutes 42 = .ok (.invokevirtual 110, 3) := by decide +kernel
theorem dX5_readMinutes_45 : decode cX5_readMinutes 45 = .ok (.iconst 1, 1) := by decide +kernel
theorem dX5_readMinutes_46 : decode cX5_readMinutes 46 = .ok (.ireturn, 1) := by decide +kernel
theorem dX5_readLook_0 : decode cX5_readLook 0 = .ok (.aload_n 0, 1) := by decide +kernel
theorem dX5_readLook_1 : decode cX5_readLook 1 = .ok (.getfield 39, 3) := by decide +kernel
theorem dX5_readLook_4 : decode cX5_readLook 4 = .ok (.invokevirtual 110, 3) := by decide +kernel
theorem dX5_readLook_7 : decode cX5_readLook 7 = .ok (.aload_n 0, 1) := by decide +kernel
theorem dX5_readLook_8 : decode cX5_readLook 8 = .ok (.iconst 0, 1) := by decide +kernel
theorem dX5_readLook_9 : decode cX5_readLook 9 = .ok (.bipush 30, 2) := by decide +kernel
theorem dX5_readLook_11 : decode cX5_readLook 11 = .ok (.invokevirtual 127, 3) := by decide +kernel
theorem dX5_readLook_14 : decode cX5_readLook 14 = .ok (.ifCond .ne 5, 3) := by decide +kernel
theorem dX5_readLook_17 : decode cX5_readLook 17 = .ok (.iconst 0, 1) := by decide +kernel
theorem dX5_readLook_18 : decode cX5_readLook 18 = .ok (.ireturn, 1) := by decide +kernel
theorem dX5_readLook_19 : decode cX5_readLook 19 = .ok (.aload_n 0, 1) := by decide +kernel
theorem dX5_readLook_20 : decode cX5_readLook 20 = .ok (.getfield 46, 3) := by decide +kernel
theorem dX5_readLook_23 : decode cX5_readLook 23 = .ok (.aload_n 0, 1) := by decide +kernel
theorem dX5_readLook_24 : decode cX5_readLook 24 = .ok (.getfield 39, 3) := by decide +kernel
theorem dX5_readLook_27 : decode cX5_readLook 27 = .ok (.getfield 113, 3) := by decide +kernel
theorem dX5_readLook_30 : decode cX5_readLook 30 = .ok (.putfield 145, 3) := by decide +kernel
theorem dX5_readLook_33 : decode cX5_readLook 33 = .ok (.aload_n 0, 1) := by decide +kernel
theorem dX5_readLook_34 : decode cX5_readLook 34 = .ok (.iconst 1, 1) := by decide +kernel
theorem dX5_readLook_35 : decode cX5_readLook 35 = .ok (.putfield 29, 3) := by decide +kernel
theorem dX5_readLook_38 : decode cX5_readLook 38 = .ok (.aload_n 0, 1) := by decide +kernel
theorem dX5_readLook_39 : decode cX5_readLook 39 = .ok (.getfield 39, 3) := by decide +kernel
theorem dX5_readLook_42 : decode cX5_readLook 42 = .ok (.invokevirtual 110, 3) := by decide +kernel
theorem dX5_readLook_45 : decode cX5_readLook 45 = .ok (.iconst 1, 1) := by decide +kernel
theorem dX5_readLook_46 : decode cX5_readLook 46 = .ok (.ireturn, 1) := by decide +kernel
theorem dX5_readOrder_0 : decode cX5_readOrder 0 = .ok (.aload_n 0, 1) := by decide +kernel
theorem dX5_readOrder_1 : decode cX5_readOrder 1 = .ok (.getfield 39, 3) := by decide +kernel
theorem dX5_readOrder_4 : decode cX5_readOrder 4 = .ok (.invokevirtual 110, 3) := by decide +kernel
theorem dX5_readOrder_7 : decode cX5_readOrder 7 = .ok (.aload_n 0, 1) := by decide +kernel
theorem dX5_readOrder_8 : decode cX5_readOrder 8 = .ok (.getfield 39, 3) := by decide +kernel
theorem dX5_readOrder_11 : decode cX5_readOrder 11 = .ok (.getfield 62, 3) := by decide +kernel
theorem dX5_readOrder_14 : decode cX5_readOrder 14 = .ok (.bipush 12, 2) := by decide +kernel
theorem dX5_readOrder_16 : decode cX5_readOrder 16 = .ok (.if_icmp .ne 7, 3) := by decide +kernel
theorem dX5_readOrder_19 : decode cX5_readOrder 19 = .ok (.iconst 1, 1) := by decide +kernel
theorem dX5_readOrder_20 : decode cX5_readOrder 20 = .ok (.goto 4, 3) := by decide +kernel
theorem dX5_readOrder_23 : decode cX5_readOrder 23 = .ok (.iconst 0, 1) := by decide +kernel
theorem dX5_readOrder_24 : decode cX5_readOrder 24 = .ok (.istore_n 2, 1) := by decide +kernel
theorem dX5_readOrder_25 : decode cX5_readOrder 25 = .ok (.iload_n 2, 1) := by decide +kernel
theorem dX5_readOrder_26 : decode cX5_readOrder 26 = .ok (.ifCond .ne 15, 3) := by decide +kernel
theorem dX5_readOrder_29 : decode cX5_readOrder 29 = .ok (.aload_n 0, 1) := by decide +kernel
theorem dX5_readOrder_30 : decode cX5_readOrder 30 = .ok (.iconst 0, 1) := by decide +kernel
theorem dX5_readOrder_31 : decode cX5_readOrder 31 = .ok (.bipush 11, 2) := by decide +kernel
theorem dX5_readOrder_33 : decode cX5_readOrder 33 = .ok (.invokevirtual 127, 3) := by decide +kernel
theorem dX5_readOrder_36 : decode cX5_readOrder 36 = .ok (.ifCond .ne 5, 3) := by decide +kernel
theorem dX5_readOrder_39 : decode cX5_readOrder 39 = .ok (.iconst 0, 1) := by decide +kernel
theorem dX5_readOrder_40 : decode cX5_readOrder 40 = .ok (.ireturn, 1) := by decide +kernel
theorem dX5_readOrder_41 : decode cX5_readOrder 41 = .ok (.aload_n 0, 1) := by decide +kernel
theorem dX5_readOrder_42 : decode cX5_readOrder 42 = .ok (.getfield 46, 3) := by decide +kernel
theorem dX5_readOrder_45 : decode cX5_readOrder 45 = .ok (.getfield 148, 3) := by decide +kernel
theorem dX5_readOrder_48 : decode cX5_readOrder 48 = .ok (.iload_n 1, 1) := by decide +kernel
theorem dX5_readOrder_49 : decode cX5_readOrder 49 = .ok (.iload_n 2, 1) := by decide +kernel
theorem dX5_readOrder_50 : decode cX5_readOrder 50 = .ok (.ifCond .eq 7, 3) := by decide +kernel
theorem dX5_readOrder_53 : decode cX5_readOrder 53 = .ok (.iconst (-1), 1) := by decide +kernel
theorem dX5_readOrder_54 : decode cX5_readOrder 54 = .ok (.goto 10, 3) := by decide +kernel
theorem dX5_readOrder_57 : decode cX5_readOrder 57 = .ok (.aload_n 0, 1) := by decide +kernel
theorem dX5_readOrder_58 : decode cX5_readOrder 58 = .ok (.getfield 39, 3) := by decide +kernel
theorem dX5_readOrder_61 : decode cX5_readOrder 61 = .ok (.getfield 113, 3) := by decide +kernel
theorem dX5_readOrder_64 : decode cX5_readOrder 64 = .ok (.iastore, 1) := by decide +kernel
theorem dX5_readOrder_65 : decode cX5_readOrder 65 = .ok (.aload_n 0, 1) := by decide +kernel
theorem dX5_readOrder_66 : decode cX5_readOrder 66 = .ok (.getfield 39, 3) := by decide +kernel
theorem dX5_readOrder_69 : decode cX5_readOrder 69 = .ok (.invokevirtual 110, 3) := by decide +kernel
theorem dX5_readOrder_72 : decode cX5_readOrder 72 = .ok (.aload_n 0, 1) := by decide +kernel
theorem dX5_readOrder_73 : decode cX5_readOrder 73 = .ok (.invokevirtual 116, 3) := by decide +kernel
theorem dX5_readOrder_76 : decode cX5_readOrder 76 = .ok (.ifCond .ne 5, 3) := by decide +kernel
theorem dX5_readOrder_79 : decode cX5_readOrder 79 = .ok (.iconst 0, 1) := by decide +kernel
theorem dX5_readOrder_80 : decode cX5_readOrder 80 = .ok (.ireturn, 1) := by decide +kernel
theorem dX5_readOrder_81 : decode cX5_readOrder 81 = .ok (.aload_n 0, 1) := by decide +kernel
theorem dX5_readOrder_82 : decode cX5_readOrder 82 = .ok (.getfield 9, 3) := by decide +kernel
theorem dX5_readOrder_85 : decode cX5_readOrder 85 = .ok (.iload_n 1, 1) := by decide +kernel
theorem dX5_readOrder_86 : decode cX5_readOrder 86 = .ok (.aload_n 0, 1) := by decide +kernel
theorem dX5_readOrder_87 : decode cX5_readOrder 87 = .ok (.getfield 39, 3) := by decide +kernel
theorem dX5_readOrder_90 : decode cX5_readOrder 90 = .ok (.getfield 119, 3) := by decide +kernel
theorem dX5_readOrder_93 : decode cX5_readOrder 93 = .ok (.lastore, 1) := by decide +kernel
theorem dX5_readOrder_94 : decode cX5_readOrder 94 = .ok (.aload_n 0, 1) := by decide +kernel
theorem dX5_readOrder_95 : decode cX5_readOrder 95 = .ok (.getfield 15, 3) := by decide +kernel
theorem dX5_readOrder_98 : decode cX5_readOrder 98 = .ok (.iload_n 1, 1) := by decide +kernel
theorem dX5_readOrder_99 : decode cX5_readOrder 99 = .ok (.aload_n 0, 1) := by decide +kernel
theorem dX5_readOrder_100 : decode cX5_readOrder 100 = .ok (.getfield 39, 3) := by decide +kernel
theorem dX5_readOrder_103 : decode cX5_readOrder 103 = .ok (.getfield 59, 3) := by decide +kernel
theorem dX5_readOrder_106 : decode cX5_readOrder 106 = .ok (.iastore, 1) := by decide +kernel
theorem dX5_readOrder_107 : decode cX5_readOrder 107 = .ok (.aload_n 0, 1) := by decide +kernel
theorem dX5_readOrder_108 : decode cX5_readOrder 108 = .ok (.getfield 39, 3) := by decide +kernel
theorem dX5_readOrder_111 : decode cX5_readOrder 111 = .ok (.invokevirtual 110, 3) := by decide +kernel
theorem dX5_readOrder_114 : decode cX5_readOrder 114 = .ok (.aload_n 0, 1) := by decide +kernel
theorem dX5_readOrder_115 : decode cX5_readOrder 115 = .ok (.getfield 46, 3) := by decide +kernel
theorem dX5_readOrder_118 : decode cX5_readOrder 118 = .ok (.getfield 151, 3) := by decide +kernel
theorem dX5_readOrder_121 : decode cX5_readOrder 121 = .ok (.iload_n 1, 1) := by decide +kernel
theorem dX5_readOrder_122 : decode cX5_readOrder 122 = .ok (.aload_n 0, 1) := by decide +kernel
theorem dX5_readOrder_123 : decode cX5_readOrder 123 = .ok (.getfield 39, 3) := by decide +kernel
theorem dX5_readOrder_126 : decode cX5_readOrder 126 = .ok (.getfield 62, 3) := by decide +kernel
theorem dX5_readOrder_129 : decode cX5_readOrder 129 = .ok (.iconst 5, 1) := by decide +kernel
theorem dX5_readOrder_130 : decode cX5_readOrder 130 = .ok (.if_icmp .ne 7, 3) := by decide +kernel
theorem dX5_readOrder_133 : decode cX5_readOrder 133 = .ok (.iconst 1, 1) := by decide +kernel
theorem dX5_readOrder_134 : decode cX5_readOrder 134 = .ok (.goto 4, 3) := by decide +kernel
theorem dX5_readOrder_137 : decode cX5_readOrder 137 = .ok (.iconst 0, 1) := by decide +kernel
theorem dX5_readOrder_138 : decode cX5_readOrder 138 = .ok (.bastore, 1) := by decide +kernel
theorem dX5_readOrder_139 : decode cX5_readOrder 139 = .ok (.aload_n 0, 1) := by decide +kernel
theorem dX5_readOrder_140 : decode cX5_readOrder 140 = .ok (.getfield 46, 3) := by decide +kernel
theorem dX5_readOrder_143 : decode cX5_readOrder 143 = .ok (.getfield 151, 3) := by decide +kernel
theorem dX5_readOrder_146 : decode cX5_readOrder 146 = .ok (.iload_n 1, 1) := by decide +kernel
theorem dX5_readOrder_147 : decode cX5_readOrder 147 = .ok (.baload, 1) := by decide +kernel
theorem dX5_readOrder_148 : decode cX5_readOrder 148 = .ok (.ifCond .eq 10, 3) := by decide +kernel
theorem dX5_readOrder_151 : decode cX5_readOrder 151 = .ok (.aload_n 0, 1) := by decide +kernel
theorem dX5_readOrder_152 : decode cX5_readOrder 152 = .ok (.getfield 39, 3) := by decide +kernel
theorem dX5_readOrder_155 : decode cX5_readOrder 155 = .ok (.invokevirtual 110, 3) := by decide +kernel
theorem dX5_readOrder_158 : decode cX5_readOrder 158 = .ok (.aload_n 0, 1) := by decide +kernel
theorem dX5_readOrder_159 : decode cX5_readOrder 159 = .ok (.getfield 46, 3) := by decide +kernel
theorem dX5_readOrder_162 : decode cX5_readOrder 162 = .ok (.getfield 155, 3) := by decide +kernel
theorem dX5_readOrder_165 : decode cX5_readOrder 165 = .ok (.iload_n 1, 1) := by decide +kernel
theorem dX5_readOrder_166 : decode cX5_readOrder 166 = .ok (.iconst 0, 1) := by decide +kernel
theorem dX5_readOrder_167 : decode cX5_readOrder 167 = .ok (.iastore, 1) := by decide +kernel
theorem dX5_readOrder_168 : decode cX5_readOrder 168 = .ok (.aload_n 0, 1) := by decide +kernel
theorem dX5_readOrder_169 : decode cX5_readOrder 169 = .ok (.getfield 46, 3) := by decide +kernel
theorem dX5_readOrder_172 : decode cX5_readOrder 172 = .ok (.dup, 1) := by decide +kernel
theorem dX5_readOrder_173 : decode cX5_readOrder 173 = .ok (.getfield 88, 3) := by decide +kernel
theorem dX5_readOrder_176 : decode cX5_readOrder 176 = .ok (.iconst 1, 1) := by decide +kernel
theorem dX5_readOrder_177 : decode cX5_readOrder 177 = .ok (.iadd, 1) := by decide +kernel
theorem dX5_readOrder_178 : decode cX5_readOrder 178 = .ok (.putfield 88, 3) := by decide +kernel
theorem dX5_readOrder_181 : decode cX5_readOrder 181 = .ok (.aload_n 0, 1) := by decide +kernel
theorem dX5_readOrder_182 : decode cX5_readOrder 182 = .ok (.bipush 6, 2) := by decide +kernel
theorem dX5_readOrder_184 : decode cX5_readOrder 184 = .ok (.invokevirtual 158, 3) := by decide +kernel
theorem dX5_readOrder_187 : decode cX5_readOrder 187 = .ok (.ireturn, 1) := by decide +kernel
theorem dX5_readActs_0 : decode cX5_readActs 0 = .ok (.iconst 0, 1) := by decide +kernel
theorem dX5_readActs_1 : decode cX5_readActs 1 = .ok (.istore_n 2, 1) := by decide +kernel
theorem dX5_readActs_2 : decode cX5_readActs 2 = .ok (.iload_n 2, 1) := by decide +kernel
theorem dX5_readActs_3 : decode cX5_readActs 3 = .ok (.iconst 4, 1) := by decide +kernel
theorem dX5_readActs_4 : decode cX5_readActs 4 = .ok (.if_icmp .gt 39, 3) := by decide +kernel
theorem dX5_readActs_7 : decode cX5_readActs 7 = .ok (.aload_n 0, 1) := by decide +kernel
theorem dX5_readActs_8 : decode cX5_readActs 8 = .ok (.iload_n 1, 1) := by decide +kernel
theorem dX5_readActs_9 : decode cX5_readActs 9 = .ok (.invokevirtual 161, 3) := by decide +kernel
theorem dX5_readActs_12 : decode cX5_readActs 12 = .ok (.ifCond .ne 5, 3) := by decide +kernel
theorem dX5_readActs_15 : decode cX5_readActs 15 = .ok (.iconst 0, 1) := by decide +kernel
theorem dX5_readActs_16 : decode cX5_readActs 16 = .ok (.ireturn, 1) := by decide +kernel
theorem dX5_readActs_17 : decode cX5_readActs 17 = .ok (.aload_n 0, 1) := by decide +kernel
theorem dX5_readActs_18 : decode cX5_readActs 18 = .ok (.getfield 39, 3) := by decide +kernel
theorem dX5_readActs_21 : decode cX5_readActs 21 = .ok (.getfield 54, 3) := by decide +kernel
theorem dX5_readActs_24 : decode cX5_readActs 24 = .ok (.iconst 4, 1) := by decide +kernel
theorem dX5_readActs_25 : decode cX5_readActs 25 = .ok (.if_icmp .eq 5, 3) := by decide +kernel
theorem dX5_readActs_28 : decode cX5_readActs 28 = .ok (.iconst 1, 1) := by decide +kernel
theorem dX5_readActs_29 : decode cX5_readActs 29 = .ok (.ireturn, 1) := by decide +kernel
theorem dX5_readActs_30 : decode cX5_readActs 30 = .ok (.aload_n 0, 1) := by decide +kernel
theorem dX5_readActs_31 : decode cX5_readActs 31 = .ok (.getfield 39, 3) := by decide +kernel
theorem dX5_readActs_34 : decode cX5_readActs 34 = .ok (.invokevirtual 110, 3) := by decide +kernel
theorem dX5_readActs_37 : decode cX5_readActs 37 = .ok (.iinc 2 1, 3) := by decide +kernel
theorem dX5_readActs_40 : decode cX5_readActs 40 = .ok (.goto (-38), 3) := by decide +kernel
theorem dX5_readActs_43 : decode cX5_readActs 43 = .ok (.iconst 1, 1) := by decide +kernel
theorem dX5_readActs_44 : decode cX5_readActs 44 = .ok (.ireturn, 1) := by decide +kernel
theorem dX5_readAct_0 : decode cX5_readAct 0 = .ok (.aload_n 0, 1) := by decide +kernel
theorem dX5_readAct_1 : decode cX5_readAct 1 = .ok (.getfield 39, 3) := by decide +kernel
theorem dX5_readAct_4 : decode cX5_readAct 4 = .ok (.getfield 62, 3) := by decide +kernel
theorem dX5_readAct_7 : decode cX5_readAct 7 = .ok (.istore_n 2, 1) := by decide +kernel
theorem dX5_readAct_8 : decode cX5_readAct 8 = .ok (.iload_n 2, 1) := by decide +kernel
theorem dX5_readAct_9 : decode cX5_readAct 9 = .ok (.bipush 7, 2) := by decide +kernel
theorem dX5_readAct_11 : decode cX5_readAct 11 = .ok (.if_icmp .eq 34, 3) := by decide +kernel
theorem dX5_readAct_14 : decode cX5_readAct 14 = .ok (.iload_n 2, 1) := by decide +kernel
theorem dX5_readAct_15 : decode cX5_readAct 15 = .ok (.bipush 8, 2) := by decide +kernel
theorem dX5_readAct_17 : decode cX5_readAct 17 = .ok (.if_icmp .eq 28, 3) := by decide +kernel
theorem dX5_readAct_20 : decode cX5_readAct 20 = .ok (.iload_n 2, 1) := by decide +kernel
theorem dX5_readAct_21 : decode cX5_readAct 21 = .ok (.bipush 10, 2) := by decide +kernel
theorem dX5_readAct_23 : decode cX5_readAct 23 = .ok (.if_icmp .eq 22, 3) := by decide +kernel
theorem dX5_readAct_26 : decode cX5_readAct 26 = .ok (.iload_n 2, 1) := by decide +kernel
theorem dX5_readAct_27 : decode cX5_readAct 27 = .ok (.bipush 11, 2) := by decide +kernel
theorem dX5_readAct_29 : decode cX5_readAct 29 = .ok (.if_icmp .eq 16, 3) := by decide +kernel
theorem dX5_readAct_32 : decode cX5_readAct 32 = .ok (.aload_n 0, 1) := by decide +kernel
theorem dX5_readAct_33 : decode cX5_readAct 33 = .ok (.iconst 1, 1) := by decide +kernel
theorem dX5_readAct_34 : decode cX5_readAct 34 = .ok (.aload_n 0, 1) := by decide +kernel
theorem dX5_readAct_35 : decode cX5_readAct 35 = .ok (.getfield 39, 3) := by decide +kernel
theorem dX5_readAct_38 : decode cX5_readAct 38 = .ok (.getfield 59, 3) := by decide +kernel
theorem dX5_readAct_41 : decode cX5_readAct 41 = .ok (.invokevirtual 72, 3) := by decide +kernel
theorem dX5_readAct_44 : decode cX5_readAct 44 = .ok (.ireturn, 1) := by decide +kernel
theorem dX5_readAct_45 : decode cX5_readAct 45 = .ok (.aload_n 0, 1) := by decide +kernel
theorem dX5_readAct_46 : decode cX5_readAct 46 = .ok (.getfield 46, 3) := by decide +kernel
theorem dX5_readAct_49 : decode cX5_readAct 49 = .ok (.getfield 155, 3) := by decide +kernel
theorem dX5_readAct_52 : decode cX5_readAct 52 = .ok (.iload_n 1, 1) := by decide +kernel
theorem dX5_readAct_53 : decode cX5_readAct 53 = .ok (.iaload, 1) := by decide +kernel
theorem dX5_readAct_54 : decode cX5_readAct 54 = .ok (.iconst 4, 1) := by decide +kernel
theorem dX5_readAct_55 : decode cX5_readAct 55 = .ok (.if_icmp .lt 16, 3) := by decide +kernel
theorem dX5_readAct_58 : decode cX5_readAct 58 = .ok (.aload_n 0, 1) := by decide +kernel
theorem dX5_readAct_59 : decode cX5_readAct 59 = .ok (.iconst 2, 1) := by decide +kernel
theorem dX5_readAct_60 : decode cX5_readAct 60 = .ok (.aload_n 0, 1) := by decide +kernel
theorem dX5_readAct_61 : decode cX5_readAct 61 = .ok (.getfield 39, 3) := by decide +kernel
theorem dX5_readAct_64 : decode cX5_readAct 64 = .ok (.getfield 59, 3) := by decide +kernel
theorem dX5_readAct_67 : decode cX5_readAct 67 = .ok (.invokevirtual 72, 3) := by decide +kernel
theorem dX5_readAct_70 : decode cX5_readAct 70 = .ok (.ireturn, 1) := by decide +kernel
theorem dX5_readAct_71 : decode cX5_readAct 71 = .ok (.iload_n 1, 1) := by decide +kernel
theorem dX5_readAct_72 : decode cX5_readAct 72 = .ok (.iconst 4, 1) := by decide +kernel
theorem dX5_readAct_73 : decode cX5_readAct 73 = .ok (.imul, 1) := by decide +kernel
theorem dX5_readAct_74 : decode cX5_readAct 74 = .ok (.aload_n 0, 1) := by decide +kernel
theorem dX5_readAct_75 : decode cX5_readAct 75 = .ok (.getfield 46, 3) := by decide +kernel
theorem dX5_readAct_78 : decode cX5_readAct 78 = .ok (.getfield 155, 3) := by decide +kernel
theorem dX5_readAct_81 : decode cX5_readAct 81 = .ok (.iload_n 1, 1) := by decide +kernel
theorem dX5_readAct_82 : decode cX5_readAct 82 = .ok (.iaload, 1) := by decide +kernel
theorem dX5_readAct_83 : decode cX5_readAct 83 = .ok (.iadd, 1) := by decide +kernel
theorem dX5_readAct_84 : decode cX5_readAct 84 = .ok (.istore_n 3, 1) := by decide +kernel
theorem dX5_readAct_85 : decode cX5_readAct 85 = .ok (.aload_n 0, 1) := by decide +kernel
theorem dX5_readAct_86 : decode cX5_readAct 86 = .ok (.getfield 46, 3) := by decide +kernel
theorem dX5_readAct_89 : decode cX5_readAct 89 = .ok (.getfield 164, 3) := by decide +kernel
theorem dX5_readAct_92 : decode cX5_readAct 92 = .ok (.iload_n 3, 1) := by decide +kernel
theorem dX5_readAct_93 : decode cX5_readAct 93 = .ok (.iload_n 2, 1) := by decide +kernel
theorem dX5_readAct_94 : decode cX5_readAct 94 = .ok (.iastore, 1) := by decide +kernel
theorem dX5_readAct_95 : decode cX5_readAct 95 = .ok (.aload_n 0, 1) := by decide +kernel
theorem dX5_readAct_96 : decode cX5_readAct 96 = .ok (.getfield 46, 3) := by decide +kernel
theorem dX5_readAct_99 : decode cX5_readAct 99 = .ok (.getfield 155, 3) := by decide +kernel
theorem dX5_readAct_102 : decode cX5_readAct 102 = .ok (.iload_n 1, 1) := by decide +kernel
theorem dX5_readAct_103 : decode cX5_readAct 103 = .ok (.dup2, 1) := by decide +kernel
theorem dX5_readAct_104 : decode cX5_readAct 104 = .ok (.iaload, 1) := by decide +kernel
theorem dX5_readAct_105 : decode cX5_readAct 105 = .ok (.iconst 1, 1) := by decide +kernel
theorem dX5_readAct_106 : decode cX5_readAct 106 = .ok (.iadd, 1) := by decide +kernel
theorem dX5_readAct_107 : decode cX5_readAct 107 = .ok (.iastore, 1) := by decide +kernel
theorem dX5_readAct_108 : decode cX5_readAct 108 = .ok (.aload_n 0, 1) := by decide +kernel
theorem dX5_readAct_109 : decode cX5_readAct 109 = .ok (.getfield 39, 3) := by decide +kernel
theorem dX5_readAct_112 : decode cX5_readAct 112 = .ok (.invokevirtual 110, 3) := by decide +kernel
theorem dX5_readAct_115 : decode cX5_readAct 115 = .ok (.iload_n 2, 1) := by decide +kernel
theorem dX5_readAct_116 : decode cX5_readAct 116 = .ok (.bipush 10, 2) := by decide +kernel
theorem dX5_readAct_118 : decode cX5_readAct 118 = .ok (.if_icmp .ne 9, 3) := by decide +kernel
theorem dX5_readAct_121 : decode cX5_readAct 121 = .ok (.aload_n 0, 1) := by decide +kernel
theorem dX5_readAct_122 : decode cX5_readAct 122 = .ok (.iload_n 3, 1) := by decide +kernel
theorem dX5_readAct_123 : decode cX5_readAct 123 = .ok (.invokevirtual 167, 3) := by decide +kernel
theorem dX5_readAct_126 : decode cX5_readAct 126 = .ok (.ireturn, 1) := by decide +kernel
theorem dX5_readAct_127 : decode cX5_readAct 127 = .ok (.iload_n 2, 1) := by decide +kernel
theorem dX5_readAct_128 : decode cX5_readAct 128 = .ok (.bipush 8, 2) := by decide +kernel
theorem dX5_readAct_130 : decode cX5_readAct 130 = .ok (.if_icmp .ne 11, 3) := by decide +kernel
theorem dX5_readAct_133 : decode cX5_readAct 133 = .ok (.aload_n 0, 1) := by decide +kernel
theorem dX5_readAct_134 : decode cX5_readAct 134 = .ok (.iload_n 3, 1) := by decide +kernel
theorem dX5_readAct_135 : decode cX5_readAct 135 = .ok (.invokevirtual 170, 3) := by decide +kernel
theorem dX5_readAct_138 : decode cX5_readAct 138 = .ok (.ifCond .eq 7, 3) := by decide +kernel
theorem dX5_readAct_141 : decode cX5_readAct 141 = .ok (.iconst 1, 1) := by decide +kernel
theorem dX5_readAct_142 : decode cX5_readAct 142 = .ok (.goto 4, 3) := by decide +kernel
theorem dX5_readAct_145 : decode cX5_readAct 145 = .ok (.iconst 0, 1) := by decide +kernel
theorem dX5_readAct_146 : decode cX5_readAct 146 = .ok (.ireturn, 1) := by decide +kernel
theorem dX5_readWait_0 : decode cX5_readWait 0 = .ok (.aload_n 0, 1) := by decide +kernel
theorem dX5_readWait_1 : decode cX5_readWait 1 = .ok (.iconst 1, 1) := by decide +kernel
theorem dX5_readWait_2 : decode cX5_readWait 2 = .ok (.bipush 99, 2) := by decide +kernel
theorem dX5_readWait_4 : decode cX5_readWait 4 = .ok (.invokevirtual 127, 3) := by decide +kernel
theorem dX5_readWait_7 : decode cX5_readWait 7 = .ok (.ifCond .ne 5, 3) := by decide +kernel
theorem dX5_readWait_10 : decode cX5_readWait 10 = .ok (.iconst 0, 1) := by decide +kernel
theorem dX5_readWait_11 : decode cX5_readWait 11 = .ok (.ireturn, 1) := by decide +kernel
theorem dX5_readWait_12 : decode cX5_readWait 12 = .ok (.aload_n 0, 1) := by decide +kernel
theorem dX5_readWait_13 : decode cX5_readWait 13 = .ok (.getfield 46, 3) := by decide +kernel
theorem dX5_readWait_16 : decode cX5_readWait 16 = .ok (.getfield 173, 3) := by decide +kernel
theorem dX5_readWait_19 : decode cX5_readWait 19 = .ok (.iload_n 1, 1) := by decide +kernel
theorem dX5_readWait_20 : decode cX5_readWait 20 = .ok (.aload_n 0, 1) := by decide +kernel
theorem dX5_readWait_21 : decode cX5_readWait 21 = .ok (.getfield 39, 3) := by decide +kernel
theorem dX5_readWait_24 : decode cX5_readWait 24 = .ok (.getfield 113, 3) := by decide +kernel
theorem dX5_readWait_27 : decode cX5_readWait 27 = .ok (.iastore, 1) := by decide +kernel
theorem dX5_readWait_28 : decode cX5_readWait 28 = .ok (.aload_n 0, 1) := by decide +kernel
theorem dX5_readWait_29 : decode cX5_readWait 29 = .ok (.getfield 39, 3) := by decide +kernel
theorem dX5_readWait_32 : decode cX5_readWait 32 = .ok (.invokevirtual 110, 3) := by decide +kernel
theorem dX5_readWait_35 : decode cX5_readWait 35 = .ok (.iconst 1, 1) := by decide +kernel
theorem dX5_readWait_36 : decode cX5_readWait 36 = .ok (.ireturn, 1) := by decide +kernel
theorem dX5_readSend_0 : decode cX5_readSend 0 = .ok (.aload_n 0, 1) := by decide +kernel
theorem dX5_readSend_1 : decode cX5_readSend 1 = .ok (.invokevirtual 116, 3) := by decide +kernel
theorem dX5_readSend_4 : decode cX5_readSend 4 = .ok (.ifCond .ne 5, 3) := by decide +kernel
theorem dX5_readSend_7 : decode cX5_readSend 7 = .ok (.iconst 0, 1) := by decide +kernel
theorem dX5_readSend_8 : decode cX5_readSend 8 = .ok (.ireturn, 1) := by decide +kernel
theorem dX5_readSend_9 : decode cX5_readSend 9 = .ok (.aload_n 0, 1) := by decide +kernel
theorem dX5_readSend_10 : decode cX5_readSend 10 = .ok (.getfield 19, 3) := by decide +kernel
theorem dX5_readSend_13 : decode cX5_readSend 13 = .ok (.iload_n 1, 1) := by decide +kernel
theorem dX5_readSend_14 : decode cX5_readSend 14 = .ok (.aload_n 0, 1) := by decide +kernel
theorem dX5_readSend_15 : decode cX5_readSend 15 = .ok (.getfield 39, 3) := by decide +kernel
theorem dX5_readSend_18 : decode cX5_readSend 18 = .ok (.getfield 119, 3) := by decide +kernel
theorem dX5_readSend_21 : decode cX5_readSend 21 = .ok (.lastore, 1) := by decide +kernel
theorem dX5_readSend_22 : decode cX5_readSend 22 = .ok (.aload_n 0, 1) := by decide +kernel
theorem dX5_readSend_23 : decode cX5_readSend 23 = .ok (.getfield 22, 3) := by decide +kernel
theorem dX5_readSend_26 : decode cX5_readSend 26 = .ok (.iload_n 1, 1) := by decide +kernel
theorem dX5_readSend_27 : decode cX5_readSend 27 = .ok (.aload_n 0, 1) := by decide +kernel
theorem dX5_readSend_28 : decode cX5_readSend 28 = .ok (.getfield 39, 3) := by decide +kernel
theorem dX5_readSend_31 : decode cX5_readSend 31 = .ok (.getfield 59, 3) := by decide +kernel
theorem dX5_readSend_34 : decode cX5_readSend 34 = .ok (.iastore, 1) := by decide +kernel
theorem dX5_readSend_35 : decode cX5_readSend 35 = .ok (.aload_n 0, 1) := by decide +kernel
theorem dX5_readSend_36 : decode cX5_readSend 36 = .ok (.getfield 46, 3) := by decide +kernel
theorem dX5_readSend_39 : decode cX5_readSend 39 = .ok (.getfield 176, 3) := by decide +kernel
theorem dX5_readSend_42 : decode cX5_readSend 42 = .ok (.iload_n 1, 1) := by decide +kernel
theorem dX5_readSend_43 : decode cX5_readSend 43 = .ok (.iconst (-1), 1) := by decide +kernel
theorem dX5_readSend_44 : decode cX5_readSend 44 = .ok (.iastore, 1) := by decide +kernel
theorem dX5_readSend_45 : decode cX5_readSend 45 = .ok (.aload_n 0, 1) := by decide +kernel
theorem dX5_readSend_46 : decode cX5_readSend 46 = .ok (.getfield 39, 3) := by decide +kernel
theorem dX5_readSend_49 : decode cX5_readSend 49 = .ok (.invokevirtual 110, 3) := by decide +kernel
theorem dX5_readSend_52 : decode cX5_readSend 52 = .ok (.aload_n 0, 1) := by decide +kernel
theorem dX5_readSend_53 : decode cX5_readSend 53 = .ok (.getfield 39, 3) := by decide +kernel
theorem dX5_readSend_56 : decode cX5_readSend 56 = .ok (.getfield 62, 3) := by decide +kernel
theorem dX5_readSend_59 : decode cX5_readSend 59 = .ok (.bipush 9, 2) := by decide +kernel
theorem dX5_readSend_61 : decode cX5_readSend 61 = .ok (.if_icmp .eq 5, 3) := by decide +kernel
theorem dX5_readSend_64 : decode cX5_readSend 64 = .ok (.iconst 1, 1) := by decide +kernel
theorem dX5_readSend_65 : decode cX5_readSend 65 = .ok (.ireturn, 1) := by decide +kernel
theorem dX5_readSend_66 : decode cX5_readSend 66 = .ok (.aload_n 0, 1) := by decide +kernel
theorem dX5_readSend_67 : decode cX5_readSend 67 = .ok (.getfield 39, 3) := by decide +kernel
theorem dX5_readSend_70 : decode cX5_readSend 70 = .ok (.invokevirtual 110, 3) := by decide +kernel
theorem dX5_readSend_73 : decode cX5_readSend 73 = .ok (.aload_n 0, 1) := by decide +kernel
theorem dX5_readSend_74 : decode cX5_readSend 74 = .ok (.iconst 0, 1) := by decide +kernel
theorem dX5_readSend_75 : decode cX5_readSend 75 = .ok (.bipush 11, 2) := by decide +kernel
theorem dX5_readSend_77 : decode cX5_readSend 77 = .ok (.invokevirtual 127, 3) := by decide +kernel
theorem dX5_readSend_80 : decode cX5_readSend 80 = .ok (.ifCond .ne 5, 3) := by decide +kernel
theorem dX5_readSend_83 : decode cX5_readSend 83 = .ok (.iconst 0, 1) := by decide +kernel
theorem dX5_readSend_84 : decode cX5_readSend 84 = .ok (.ireturn, 1) := by decide +kernel
theorem dX5_readSend_85 : decode cX5_readSend 85 = .ok (.aload_n 0, 1) := by decide +kernel
theorem dX5_readSend_86 : decode cX5_readSend 86 = .ok (.getfield 46, 3) := by decide +kernel
theorem dX5_readSend_89 : decode cX5_readSend 89 = .ok (.getfield 176, 3) := by decide +kernel
theorem dX5_readSend_92 : decode cX5_readSend 92 = .ok (.iload_n 1, 1) := by decide +kernel
theorem dX5_readSend_93 : decode cX5_readSend 93 = .ok (.aload_n 0, 1) := by decide +kernel
theorem dX5_readSend_94 : decode cX5_readSend 94 = .ok (.getfield 39, 3) := by decide +kernel
theorem dX5_readSend_97 : decode cX5_readSend 97 = .ok (.getfield 113, 3) := by decide +kernel
theorem dX5_readSend_100 : decode cX5_readSend 100 = .ok (.iastore, 1) := by decide +kernel
theorem dX5_readSend_101 : decode cX5_readSend 101 = .ok (.aload_n 0, 1) := by decide +kernel
theorem dX5_readSend_102 : decode cX5_readSend 102 = .ok (.getfield 39, 3) := by decide +kernel
theorem dX5_readSend_105 : decode cX5_readSend 105 = .ok (.invokevirtual 110, 3) := by decide +kernel
theorem dX5_readSend_108 : decode cX5_readSend 108 = .ok (.iconst 1, 1) := by decide +kernel
theorem dX5_readSend_109 : decode cX5_readSend 109 = .ok (.ireturn, 1) := by decide +kernel
theorem dX5_findOrderWords_0 : decode cX5_findOrderWords 0 = .ok (.iconst 0, 1) := by decide +kernel
theorem dX5_findOrderWords_1 : decode cX5_findOrderWords 1 = .ok (.istore_n 1, 1) := by decide +kernel
theorem dX5_findOrderWords_2 : decode cX5_findOrderWords 2 = .ok (.iload_n 1, 1) := by decide +kernel
theorem dX5_findOrderWords_3 : decode cX5_findOrderWords 3 = .ok (.aload_n 0, 1) := by decide +kernel
theorem dX5_findOrderWords_4 : decode cX5_findOrderWords 4 = .ok (.getfield 46, 3) := by decide +kernel
theorem dX5_findOrderWords_7 : decode cX5_findOrderWords 7 = .ok (.getfield 88, 3) := by decide +kernel
theorem dX5_findOrderWords_10 : decode cX5_findOrderWords 10 = .ok (.if_icmp .ge 60, 3) := by decide +kernel
theorem dX5_findOrderWords_13 : decode cX5_findOrderWords 13 = .ok (.aload_n 0, 1) := by decide +kernel
theorem dX5_findOrderWords_14 : decode cX5_findOrderWords 14 = .ok (.getfield 46, 3) := by decide +kernel
theorem dX5_findOrderWords_17 : decode cX5_findOrderWords 17 = .ok (.aload_n 0, 1) := by decide +kernel
theorem dX5_findOrderWords_18 : decode cX5_findOrderWords 18 = .ok (.getfield 9, 3) := by decide +kernel
theorem dX5_findOrderWords_21 : decode cX5_findOrderWords 21 = .ok (.iload_n 1, 1) := by decide +kernel
theorem dX5_findOrderWords_22 : decode cX5_findOrderWords 22 = .ok (.laload, 1) := by decide +kernel
theorem dX5_findOrderWords_23 : decode cX5_findOrderWords 23 = .ok (.invokevirtual 123, 3) := by decide +kernel
theorem dX5_findOrderWords_26 : decode cX5_findOrderWords 26 = .ok (.istore_n 2, 1) := by decide +kernel
theorem dX5_findOrderWords_27 : decode cX5_findOrderWords 27 = .ok (.iload_n 2, 1) := by decide +kernel
theorem dX5_findOrderWords_28 : decode cX5_findOrderWords 28 = .ok (.iconst (-1), 1) := by decide +kernel
theorem dX5_findOrderWords_29 : decode cX5_findOrderWords 29 = .ok (.if_icmp .ne 15, 3) := by decide +kernel
theorem dX5_findOrderWords_32 : decode cX5_findOrderWords 32 = .ok (.aload_n 0, 1) := by decide +kernel
theorem dX5_findOrderWords_33 : decode cX5_findOrderWords 33 = .ok (.iconst 4, 1) := by decide +kernel
theorem dX5_findOrderWords_34 : decode cX5_findOrderWords 34 = .ok (.aload_n 0, 1) := by decide +kernel
theorem dX5_findOrderWords_35 : decode cX5_findOrderWords 35 = .ok (.getfield 15, 3) := by decide +kernel
theorem dX5_findOrderWords_38 : decode cX5_findOrderWords 38 = .ok (.iload_n 1, 1) := by decide +kernel
theorem dX5_findOrderWords_39 : decode cX5_findOrderWords 39 = .ok (.iaload, 1) := by decide +kernel
theorem dX5_findOrderWords_40 : decode cX5_findOrderWords 40 = .ok (.invokevirtual 72, 3) := by decide +kernel
theorem dX5_findOrderWords_43 : decode cX5_findOrderWords 43 = .ok (.ireturn, 1) := by decide +kernel
theorem dX5_findOrderWords_44 : decode cX5_findOrderWords 44 = .ok (.aload_n 0, 1) := by decide +kernel
theorem dX5_findOrderWords_45 : decode cX5_findOrderWords 45 = .ok (.getfield 46, 3) := by decide +kernel
theorem dX5_findOrderWords_48 : decode cX5_findOrderWords 48 = .ok (.getfield 179, 3) := by decide +kernel
theorem dX5_findOrderWords_51 : decode cX5_findOrderWords 51 = .ok (.iload_n 1, 1) := by decide +kernel
theorem dX5_findOrderWords_52 : decode cX5_findOrderWords 52 = .ok (.iload_n 2, 1) := by decide +kernel
theorem dX5_findOrderWords_53 : decode cX5_findOrderWords 53 = .ok (.iastore, 1) := by decide +kernel
theorem dX5_findOrderWords_54 : decode cX5_findOrderWords 54 = .ok (.aload_n 0, 1) := by decide +kernel
theorem dX5_findOrderWords_55 : decode cX5_findOrderWords 55 = .ok (.iload_n 1, 1) := by decide +kernel
theorem dX5_findOrderWords_56 : decode cX5_findOrderWords 56 = .ok (.invokevirtual 182, 3) := by decide +kernel
theorem dX5_findOrderWords_59 : decode cX5_findOrderWords 59 = .ok (.ifCond .ne 5, 3) := by decide +kernel
theorem dX5_findOrderWords_62 : decode cX5_findOrderWords 62 = .ok (.iconst 0, 1) := by decide +kernel
theorem dX5_findOrderWords_63 : decode cX5_findOrderWords 63 = .ok (.ireturn, 1) := by decide +kernel
theorem dX5_findOrderWords_64 : decode cX5_findOrderWords 64 = .ok (.iinc 1 1, 3) := by decide +kernel
theorem dX5_findOrderWords_67 : decode cX5_findOrderWords 67 = .ok (.goto (-65), 3) := by decide +kernel
theorem dX5_findOrderWords_70 : decode cX5_findOrderWords 70 = .ok (.iconst 1, 1) := by decide +kernel
theorem dX5_findOrderWords_71 : decode cX5_findOrderWords 71 = .ok (.ireturn, 1) := by decide +kernel
theorem dX5_findActWords_0 : decode cX5_findActWords 0 = .ok (.iconst 0, 1) := by decide +kernel
theorem dX5_findActWords_1 : decode cX5_findActWords 1 = .ok (.istore_n 2, 1) := by decide +kernel
theorem dX5_findActWords_2 : decode cX5_findActWords 2 = .ok (.iload_n 2, 1) := by decide +kernel
theorem dX5_findActWords_3 : decode cX5_findActWords 3 = .ok (.aload_n 0, 1) := by decide +kernel
theorem dX5_findActWords_4 : decode cX5_findActWords 4 = .ok (.getfield 46, 3) := by decide +kernel
theorem dX5_findActWords_7 : decode cX5_findActWords 7 = .ok (.getfield 155, 3) := by decide +kernel
theorem dX5_findActWords_10 : decode cX5_findActWords 10 = .ok (.iload_n 1, 1) := by decide +kernel
theorem dX5_findActWords_11 : decode cX5_findActWords 11 = .ok (.iaload, 1) := by decide +kernel
theorem dX5_findActWords_12 : decode cX5_findActWords 12 = .ok (.if_icmp .ge 73, 3) := by decide +kernel
theorem dX5_findActWords_15 : decode cX5_findActWords 15 = .ok (.iload_n 1, 1) := by decide +kernel
theorem dX5_findActWords_16 : decode cX5_findActWords 16 = .ok (.iconst 4, 1) := by decide +kernel
theorem dX5_findActWords_17 : decode cX5_findActWords 17 = .ok (.imul, 1) := by decide +kernel
theorem dX5_findActWords_18 : decode cX5_findActWords 18 = .ok (.iload_n 2, 1) := by decide +kernel
theorem dX5_findActWords_19 : decode cX5_findActWords 19 = .ok (.iadd, 1) := by decide +kernel
theorem dX5_findActWords_20 : decode cX5_findActWords 20 = .ok (.istore_n 3, 1) := by decide +kernel
theorem dX5_findActWords_21 : decode cX5_findActWords 21 = .ok (.aload_n 0, 1) := by decide +kernel
theorem dX5_findActWords_22 : decode cX5_findActWords 22 = .ok (.getfield 46, 3) := by decide +kernel
theorem dX5_findActWords_25 : decode cX5_findActWords 25 = .ok (.getfield 164, 3) := by decide +kernel
theorem dX5_findActWords_28 : decode cX5_findActWords 28 = .ok (.iload_n 3, 1) := by decide +kernel
theorem dX5_findActWords_29 : decode cX5_findActWords 29 = .ok (.iaload, 1) := by decide +kernel
theorem dX5_findActWords_30 : decode cX5_findActWords 30 = .ok (.bipush 8, 2) := by decide +kernel
theorem dX5_findActWords_32 : decode cX5_findActWords 32 = .ok (.if_icmp .ne 47, 3) := by decide +kernel
theorem dX5_findActWords_35 : decode cX5_findActWords 35 = .ok (.aload_n 0, 1) := by decide +kernel
theorem dX5_findActWords_36 : decode cX5_findActWords 36 = .ok (.getfield 46, 3) := by decide +kernel
theorem dX5_findActWords_39 : decode cX5_findActWords 39 = .ok (.aload_n 0, 1) := by decide +kernel
theorem dX5_findActWords_40 : decode cX5_findActWords 40 = .ok (.getfield 19, 3) := by decide +kernel
theorem dX5_findActWords_43 : decode cX5_findActWords 43 = .ok (.iload_n 3, 1) := by decide +kernel
theorem dX5_findActWords_44 : decode cX5_findActWords 44 = .ok (.laload, 1) := by decide +kernel
theorem dX5_findActWords_45 : decode cX5_findActWords 45 = .ok (.invokevirtual 123, 3) := by decide +kernel
theorem dX5_findActWords_48 : decode cX5_findActWords 48 = .ok (.istore 4, 2) := by decide +kernel
theorem dX5_findActWords_50 : decode cX5_findActWords 50 = .ok (.iload 4, 2) := by decide +kernel
theorem dX5_findActWords_52 : decode cX5_findActWords 52 = .ok (.iconst (-1), 1) := by decide +kernel
theorem dX5_findActWords_53 : decode cX5_findActWords 53 = .ok (.if_icmp .ne 15, 3) := by decide +kernel
theorem dX5_findActWords_56 : decode cX5_findActWords 56 = .ok (.aload_n 0, 1) := by decide +kernel
theorem dX5_findActWords_57 : decode cX5_findActWords 57 = .ok (.iconst 4, 1) := by decide +kernel
theorem dX5_findActWords_58 : decode cX5_findActWords 58 = .ok (.aload_n 0, 1) := by decide +kernel
theorem dX5_findActWords_59 : decode cX5_findActWords 59 = .ok (.getfield 22, 3) := by decide +kernel
theorem dX5_findActWords_62 : decode cX5_findActWords 62 = .ok (.iload_n 3, 1) := by decide +kernel
theorem dX5_findActWords_63 : decode cX5_findActWords 63 = .ok (.iaload, 1) := by decide +kernel
theorem dX5_findActWords_64 : decode cX5_findActWords 64 = .ok (.invokevirtual 72, 3) := by decide +kernel
theorem dX5_findActWords_67 : decode cX5_findActWords 67 = .ok (.ireturn, 1) := by decide +kernel
theorem dX5_findActWords_68 : decode cX5_findActWords 68 = .ok (.aload_n 0, 1) := by decide +kernel
theorem dX5_findActWords_69 : decode cX5_findActWords 69 = .ok (.getfield 46, 3) := by decide +kernel
theorem dX5_findActWords_72 : decode cX5_findActWords 72 = .ok (.getfield 173, 3) := by decide +kernel
theorem dX5_findActWords_75 : decode cX5_findActWords 75 = .ok (.iload_n 3, 1) := by decide +kernel
theorem dX5_findActWords_76 : decode cX5_findActWords 76 = .ok (.iload 4, 2) := by decide +kernel
theorem dX5_findActWords_78 : decode cX5_findActWords 78 = .ok (.iastore, 1) := by decide +kernel
theorem dX5_findActWords_79 : decode cX5_findActWords 79 = .ok (.iinc 2 1, 3) := by decide +kernel
theorem dX5_findActWords_82 : decode cX5_findActWords 82 = .ok (.goto (-80), 3) := by decide +kernel
theorem dX5_findActWords_85 : decode cX5_findActWords 85 = .ok (.iconst 1, 1) := by decide +kernel
theorem dX5_findActWords_86 : decode cX5_findActWords 86 = .ok (.ireturn, 1) := by decide +kernel
theorem dX6_init_0 : decode cX6_init 0 = .ok (.aload_n 0, 1) := by decide +kernel
theorem dX6_init_1 : decode cX6_init 1 = .ok (.invokespecial 3, 3) := by decide +kernel
theorem dX6_init_4 : decode cX6_init 4 = .ok (.aload_n 0, 1) := by decide +kernel
theorem dX6_init_5 : decode cX6_init 5 = .ok (.sipush 252, 3) := by decide +kernel
theorem dX6_init_8 : decode cX6_init 8 = .ok (.newarray .int, 2) := by decide +kernel
theorem dX6_init_10 : decode cX6_init 10 = .ok (.putfield 11, 3) := by decide +kernel
theorem dX6_init_13 : decode cX6_init 13 = .ok (.aload_n 0, 1) := by decide +kernel
theorem dX6_init_14 : decode cX6_init 14 = .ok (.bipush 12, 2) := by decide +kernel
theorem dX6_init_16 : decode cX6_init 16 = .ok (.newarray .int, 2) := by decide +kernel
theorem dX6_init_18 : decode cX6_init 18 = .ok (.putfield 15, 3) := by decide +kernel
theorem dX6_init_21 : decode cX6_init 21 = .ok (.aload_n 0, 1) := by decide +kernel
theorem dX6_init_22 : decode cX6_init 22 = .ok (.iconst 0, 1) := by decide +kernel
theorem dX6_init_23 : decode cX6_init 23 = .ok (.putfield 18, 3) := by decide +kernel
theorem dX6_init_26 : decode cX6_init 26 = .ok (.aload_n 0, 1) := by decide +kernel
theorem dX6_init_27 : decode cX6_init 27 = .ok (.iconst (-1), 1) := by decide +kernel
theorem dX6_init_28 : decode cX6_init 28 = .ok (.putfield 22, 3) := by decide +kernel
theorem dX6_init_31 : decode cX6_init 31 = .ok (.aload_n 0, 1) := by decide +kernel
theorem dX6_init_32 : decode cX6_init 32 = .ok (.iconst 0, 1) := by decide +kernel
theorem dX6_init_33 : decode cX6_init 33 = .ok (.putfield 25, 3) := by decide +kernel
theorem dX6_init_36 : decode cX6_init 36 = .ok (.return_, 1) := by decide +kernel
theorem dX6_clear_0 : decode cX6_clear 0 = .ok (.aload_n 0, 1) := by decide +kernel
theorem dX6_clear_1 : decode cX6_clear 1 = .ok (.iconst 0, 1) := by decide +kernel
theorem dX6_clear_2 : decode cX6_clear 2 = .ok (.putfield 25, 3) := by decide +kernel
theorem dX6_clear_5 : decode cX6_clear 5 = .ok (.aload_n 0, 1) := by decide +kernel
theorem dX6_clear_6 : decode cX6_clear 6 = .ok (.iconst 0, 1) := by decide +kernel
theorem dX6_clear_7 : decode cX6_clear 7 = .ok (.putfield 18, 3) := by decide +kernel
theorem dX6_clear_10 : decode cX6_clear 10 = .ok (.return_, 1) := by decide +kernel
theorem dX6_find_0 : decode cX6_find 0 = .ok (.aload_n 0, 1) := by decide +kernel
theorem dX6_find_1 : decode cX6_find 1 = .ok (.invokevirtual 29, 3) := by decide +kernel
theorem dX6_find_4 : decode cX6_find 4 = .ok (.aload_n 1, 1) := by decide +kernel
theorem dX6_find_5 : decode cX6_find 5 = .ok (.aload_n 1, 1) := by decide +kernel
theorem dX6_find_6 : decode cX6_find 6 = .ok (.getfield 32, 3) := by decide +kernel
theorem dX6_find_9 : decode cX6_find 9 = .ok (.invokevirtual 37, 3) := by decide +kernel
theorem dX6_find_12 : decode cX6_find 12 = .ok (.ifCond .ne 5, 3) := by decide +kernel
theorem dX6_find_15 : decode cX6_find 15 = .ok (.iconst (-1), 1) := by decide +kernel
theorem dX6_find_16 : decode cX6_find 16 = .ok (.ireturn, 1) := by decide +kernel
theorem dX6_find_17 : decode cX6_find 17 = .ok (.aload_n 0, 1) := by decide +kernel
theorem dX6_find_18 : decode cX6_find 18 = .ok (.iconst 1, 1) := by decide +kernel
theorem dX6_find_19 : decode cX6_find 19 = .ok (.putfield 25, 3) := by decide +kernel
theorem dX6_find_22 : decode cX6_find 22 = .ok (.aload_n 0, 1) := by decide +kernel
theorem dX6_find_23 : decode cX6_find 23 = .ok (.aload_n 1, 1) := by decide +kernel
theorem dX6_find_24 : decode cX6_find 24 = .ok (.invokevirtual 41, 3) := by decide +kernel
theorem dX6_find_27 : decode cX6_find 27 = .ok (.aload_n 0, 1) := by decide +kernel
theorem dX6_find_28 : decode cX6_find 28 = .ok (.invokevirtual 45, 3) := by decide +kernel
theorem dX6_find_31 : decode cX6_find 31 = .ok (.aload_n 0, 1) := by decide +kernel
theorem dX6_find_32 : decode cX6_find 32 = .ok (.getfield 22, 3) := by decide +kernel
theorem dX6_find_35 : decode cX6_find 35 = .ok (.ireturn, 1) := by decide +kernel
theorem dX6_gather_0 : decode cX6_gather 0 = .ok (.aload_n 1, 1) := by decide +kernel
theorem dX6_gather_1 : decode cX6_gather 1 = .ok (.getfield 32, 3) := by decide +kernel
theorem dX6_gather_4 : decode cX6_gather 4 = .ok (.istore_n 2, 1) := by decide +kernel
theorem dX6_gather_5 : decode cX6_gather 5 = .ok (.iconst 0, 1) := by decide +kernel
theorem dX6_gather_6 : decode cX6_gather 6 = .ok (.istore_n 3, 1) := by decide +kernel
theorem dX6_gather_7 : decode cX6_gather 7 = .ok (.aload_n 0, 1) := by decide +kernel
theorem dX6_gather_8 : decode cX6_gather 8 = .ok (.bipush 12, 2) := by decide +kernel
theorem dX6_gather_10 : decode cX6_gather 10 = .ok (.putfield 22, 3) := by decide +kernel
theorem dX6_gather_13 : decode cX6_gather 13 = .ok (.iconst 0, 1) := by decide +kernel
theorem dX6_gather_14 : decode cX6_gather 14 = .ok (.istore 4, 2) := by decide +kernel
theorem dX6_gather_16 : decode cX6_gather 16 = .ok (.iload 4, 2) := by decide +kernel
theorem dX6_gather_18 : decode cX6_gather 18 = .ok (.sipush 4096, 3) := by decide +kernel
theorem dX6_gather_21 : decode cX6_gather 21 = .ok (.if_icmp .ge 59, 3) := by decide +kernel
theorem dX6_gather_24 : decode cX6_gather 24 = .ok (.iload_n 3, 1) := by decide +kernel
theorem dX6_gather_25 : decode cX6_gather 25 = .ok (.invokestatic 48, 3) := by decide +kernel
theorem dX6_gather_28 : decode cX6_gather 28 = .ok (.istore 5, 2) := by decide +kernel
theorem dX6_gather_30 : decode cX6_gather 30 = .ok (.iload 5, 2) := by decide +kernel
theorem dX6_gather_32 : decode cX6_gather 32 = .ok (.aload_n 0, 1) := by decide +kernel
theorem dX6_gather_33 : decode cX6_gather 33 = .ok (.getfield 22, 3) := by decide +kernel
theorem dX6_gather_36 : decode cX6_gather 36 = .ok (.if_icmp .gt 18, 3) := by decide +kernel
theorem dX6_gather_39 : decode cX6_gather 39 = .ok (.aload_n 1, 1) := by decide +kernel
theorem dX6_gather_40 : decode cX6_gather 40 = .ok (.iload_n 3, 1) := by decide +kernel
theorem dX6_gather_41 : decode cX6_gather 41 = .ok (.invokevirtual 37, 3) := by decide +kernel
theorem dX6_gather_44 : decode cX6_gather 44 = .ok (.ifCond .eq 10, 3) := by decide +kernel
theorem dX6_gather_47 : decode cX6_gather 47 = .ok (.aload_n 0, 1) := by decide +kernel
theorem dX6_gather_48 : decode cX6_gather 48 = .ok (.iload_n 3, 1) := by decide +kernel
theorem dX6_gather_49 : decode cX6_gather 49 = .ok (.iload 5, 2) := by decide +kernel
theorem dX6_gather_51 : decode cX6_gather 51 = .ok (.invokevirtual 54, 3) := by decide +kernel
theorem dX6_gather_54 : decode cX6_gather 54 = .ok (.iload_n 3, 1) := by decide +kernel
theorem dX6_gather_55 : decode cX6_gather 55 = .ok (.iload_n 2, 1) := by decide +kernel
theorem dX6_gather_56 : decode cX6_gather 56 = .ok (.isub, 1) := by decide +kernel
theorem dX6_gather_57 : decode cX6_gather 57 = .ok (.iload_n 2, 1) := by decide +kernel
theorem dX6_gather_58 : decode cX6_gather 58 = .ok (.iand, 1) := by decide +kernel
theorem dX6_gather_59 : decode cX6_gather 59 = .ok (.istore_n 3, 1) := by decide +kernel
theorem dX6_gather_60 : decode cX6_gather 60 = .ok (.iload_n 3, 1) := by decide +kernel
theorem dX6_gather_61 : decode cX6_gather 61 = .ok (.ifCond .eq 19, 3) := by decide +kernel
theorem dX6_gather_64 : decode cX6_gather 64 = .ok (.aload_n 0, 1) := by decide +kernel
theorem dX6_gather_65 : decode cX6_gather 65 = .ok (.getfield 22, 3) := by decide +kernel
theorem dX6_gather_68 : decode cX6_gather 68 = .ok (.ifCond .ne 6, 3) := by decide +kernel
theorem dX6_gather_71 : decode cX6_gather 71 = .ok (.goto 9, 3) := by decide +kernel
theorem dX6_gather_74 : decode cX6_gather 74 = .ok (.iinc 4 1, 3) := by decide +kernel
theorem dX6_gather_77 : decode cX6_gather 77 = .ok (.goto (-61), 3) := by decide +kernel
theorem dX6_gather_80 : decode cX6_gather 80 = .ok (.return_, 1) := by decide +kernel
theorem dX6_take_0 : decode cX6_take 0 = .ok (.iload_n 2, 1) := by decide +kernel
theorem dX6_take_1 : decode cX6_take 1 = .ok (.aload_n 0, 1) := by decide +kernel
theorem dX6_take_2 : decode cX6_take 2 = .ok (.getfield 22, 3) := by decide +kernel
theorem dX6_take_5 : decode cX6_take 5 = .ok (.if_icmp .ge 13, 3) := by decide +kernel
theorem dX6_take_8 : decode cX6_take 8 = .ok (.aload_n 0, 1) := by decide +kernel
theorem dX6_take_9 : decode cX6_take 9 = .ok (.iload_n 2, 1) := by decide +kernel
theorem dX6_take_10 : decode cX6_take 10 = .ok (.putfield 22, 3) := by decide +kernel
theorem dX6_take_13 : decode cX6_take 13 = .ok (.aload_n 0, 1) := by decide +kernel
theorem dX6_take_14 : decode cX6_take 14 = .ok (.iconst 0, 1) := by decide +kernel
theorem dX6_take_15 : decode cX6_take 15 = .ok (.putfield 18, 3) := by decide +kernel
theorem dX6_take_18 : decode cX6_take 18 = .ok (.aload_n 0, 1) := by decide +kernel
theorem dX6_take_19 : decode cX6_take 19 = .ok (.getfield 18, 3) := by decide +kernel
theorem dX6_take_22 : decode cX6_take 22 = .ok (.sipush 252, 3) := by decide +kernel
theorem dX6_take_25 : decode cX6_take 25 = .ok (.if_icmp .ge 23, 3) := by decide +kernel
theorem dX6_take_28 : decode cX6_take 28 = .ok (.aload_n 0, 1) := by decide +kernel
theorem dX6_take_29 : decode cX6_take 29 = .ok (.getfield 11, 3) := by decide +kernel
theorem dX6_take_32 : decode cX6_take 32 = .ok (.aload_n 0, 1) := by decide +kernel
theorem dX6_take_33 : decode cX6_take 33 = .ok (.getfield 18, 3) := by decide +kernel
theorem dX6_take_36 : decode cX6_take 36 = .ok (.iload_n 1, 1) := by decide +kernel
theorem dX6_take_37 : decode cX6_take 37 = .ok (.iastore, 1) := by decide +kernel
theorem dX6_take_38 : decode cX6_take 38 = .ok (.aload_n 0, 1) := by decide +kernel
theorem dX6_take_39 : decode cX6_take 39 = .ok (.dup, 1) := by decide +kernel
theorem dX6_take_40 : decode cX6_take 40 = .ok (.getfield 18, 3) := by decide +kernel
theorem dX6_take_43 : decode cX6_take 43 = .ok (.iconst 1, 1) := by decide +kernel
theorem dX6_take_44 : decode cX6_take 44 = .ok (.iadd, 1) := by decide +kernel
theorem dX6_take_45 : decode cX6_take 45 = .ok (.putfield 18, 3) := by decide +kernel
theorem dX6_take_48 : decode cX6_take 48 = .ok (.return_, 1) := by decide +kernel
theorem dX6_countShares_0 : decode cX6_countShares 0 = .ok (.aload_n 0, 1) := by decide +kernel
theorem dX6_countShares_1 : decode cX6_countShares 1 = .ok (.getfield 15, 3) := by decide +kernel
theorem dX6_countShares_4 : decode cX6_countShares 4 = .ok (.iconst 0, 1) := by decide +kernel
theorem dX6_countShares_5 : decode cX6_countShares 5 = .ok (.invokestatic 58, 3) := by decide +kernel
theorem dX6_countShares_8 : decode cX6_countShares 8 = .ok (.iconst 0, 1) := by decide +kernel
theorem dX6_countShares_9 : decode cX6_countShares 9 = .ok (.istore_n 1, 1) := by decide +kernel
theorem dX6_countShares_10 : decode cX6_countShares 10 = .ok (.iload_n 1, 1) := by decide +kernel
theorem dX6_countShares_11 : decode cX6_countShares 11 = .ok (.aload_n 0, 1) := by decide +kernel
theorem dX6_countShares_12 : decode cX6_countShares 12 = .ok (.getfield 18, 3) := by decide +kernel
theorem dX6_countShares_15 : decode cX6_countShares 15 = .ok (.if_icmp .ge 42, 3) := by decide +kernel
theorem dX6_countShares_18 : decode cX6_countShares 18 = .ok (.iconst 0, 1) := by decide +kernel
theorem dX6_countShares_19 : decode cX6_countShares 19 = .ok (.istore_n 2, 1) := by decide +kernel
theorem dX6_countShares_20 : decode cX6_countShares 20 = .ok (.iload_n 2, 1) := by decide +kernel
theorem dX6_countShares_21 : decode cX6_countShares 21 = .ok (.bipush 12, 2) := by decide +kernel
theorem dX6_countShares_23 : decode cX6_countShares 23 = .ok (.if_icmp .ge 28, 3) := by decide +kernel
theorem dX6_countShares_26 : decode cX6_countShares 26 = .ok (.aload_n 0, 1) := by decide +kernel
theorem dX6_countShares_27 : decode cX6_countShares 27 = .ok (.getfield 15, 3) := by decide +kernel
theorem dX6_countShares_30 : decode cX6_countShares 30 = .ok (.iload_n 2, 1) := by decide +kernel
theorem dX6_countShares_31 : decode cX6_countShares 31 = .ok (.dup2, 1) := by decide +kernel
theorem dX6_countShares_32 : decode cX6_countShares 32 = .ok (.iaload, 1) := by decide +kernel
theorem dX6_countShares_33 : decode cX6_countShares 33 = .ok (.aload_n 0, 1) := by decide +kernel
theorem dX6_countShares_34 : decode cX6_countShares 34 = .ok (.getfield 11, 3) := by decide +kernel
theorem dX6_countShares_37 : decode cX6_countShares 37 = .ok (.iload_n 1, 1) := by decide +kernel
theorem dX6_countShares_38 : decode cX6_countShares 38 = .ok (.iaload, 1) := by decide +kernel
theorem dX6_countShares_39 : decode cX6_countShares 39 = .ok (.iload_n 2, 1) := by decide +kernel
theorem dX6_countShares_40 : decode cX6_countShares 40 = .ok (.ishr, 1) := by decide +kernel
theorem dX6_countShares_41 : decode cX6_countShares 41 = .ok (.iconst 1, 1) := by decide +kernel
theorem dX6_countShares_42 : decode cX6_countShares 42 = .ok (.iand, 1) := by decide +kernel
theorem dX6_countShares_43 : decode cX6_countShares 43 = .ok (.iadd, 1) := by decide +kernel
theorem dX6_countShares_44 : decode cX6_countShares 44 = .ok (.iastore, 1) := by decide +kernel
theorem dX6_countShares_45 : decode cX6_countShares 45 = .ok (.iinc 2 1, 3) := by decide +kernel
theorem dX6_countShares_48 : decode cX6_countShares 48 = .ok (.goto (-28), 3) := by decide +kernel
theorem dX6_countShares_51 : decode cX6_countShares 51 = .ok (.iinc 1 1, 3) := by decide +kernel
theorem dX6_countShares_54 : decode cX6_countShares 54 = .ok (.goto (-44), 3) := by decide +kernel
theorem dX6_countShares_57 : decode cX6_countShares 57 = .ok (.return_, 1) := by decide +kernel
theorem dX6_nextToDig_0 : decode cX6_nextToDig 0 = .ok (.iconst (-1), 1) := by decide +kernel
theorem dX6_nextToDig_1 : decode cX6_nextToDig 1 = .ok (.istore_n 1, 1) := by decide +kernel
theorem dX6_nextToDig_2 : decode cX6_nextToDig 2 = .ok (.aload_n 0, 1) := by decide +kernel
theorem dX6_nextToDig_3 : decode cX6_nextToDig 3 = .ok (.getfield 18, 3) := by decide +kernel
theorem dX6_nextToDig_6 : decode cX6_nextToDig 6 = .ok (.istore_n 2, 1) := by decide +kernel
theorem dX6_nextToDig_7 : decode cX6_nextToDig 7 = .ok (.iconst 0, 1) := by decide +kernel
theorem dX6_nextToDig_8 : decode cX6_nextToDig 8 = .ok (.istore_n 3, 1) := by decide +kernel
theorem dX6_nextToDig_9 : decode cX6_nextToDig 9 = .ok (.iload_n 3, 1) := by decide +kernel
theorem dX6_nextToDig_10 : decode cX6_nextToDig 10 = .ok (.bipush 12, 2) := by decide +kernel
theorem dX6_nextToDig_12 : decode cX6_nextToDig 12 = .ok (.if_icmp .ge 42, 3) := by decide +kernel
theorem dX6_nextToDig_15 : decode cX6_nextToDig 15 = .ok (.aload_n 0, 1) := by decide +kernel
theorem dX6_nextToDig_16 : decode cX6_nextToDig 16 = .ok (.getfield 15, 3) := by decide +kernel
theorem dX6_nextToDig_19 : decode cX6_nextToDig 19 = .ok (.iload_n 3, 1) := by decide +kernel
theorem dX6_nextToDig_20 : decode cX6_nextToDig 20 = .ok (.iaload, 1) := by decide +kernel
theorem dX6_nextToDig_21 : decode cX6_nextToDig 21 = .ok (.aload_n 0, 1) := by decide +kernel
theorem dX6_nextToDig_22 : decode cX6_nextToDig 22 = .ok (.getfield 18, 3) := by decide +kernel
theorem dX6_nextToDig_25 : decode cX6_nextToDig 25 = .ok (.aload_n 0, 1) := by decide +kernel
theorem dX6_nextToDig_26 : decode cX6_nextToDig 26 = .ok (.getfield 15, 3) := by decide +kernel
theorem dX6_nextToDig_29 : decode cX6_nextToDig 29 = .ok (.iload_n 3, 1) := by decide +kernel
theorem dX6_nextToDig_30 : decode cX6_nextToDig 30 = .ok (.iaload, 1) := by decide +kernel
theorem dX6_nextToDig_31 : decode cX6_nextToDig 31 = .ok (.isub, 1) := by decide +kernel
theorem dX6_nextToDig_32 : decode cX6_nextToDig 32 = .ok (.invokestatic 64, 3) := by decide +kernel
theorem dX6_nextToDig_35 : decode cX6_nextToDig 35 = .ok (.istore 4, 2) := by decide +kernel
theorem dX6_nextToDig_37 : decode cX6_nextToDig 37 = .ok (.iload 4, 2) := by decide +kernel
theorem dX6_nextToDig_39 : decode cX6_nextToDig 39 = .ok (.iload_n 2, 1) := by decide +kernel
theorem dX6_nextToDig_40 : decode cX6_nextToDig 40 = .ok (.if_icmp .ge 8, 3) := by decide +kernel
theorem dX6_nextToDig_43 : decode cX6_nextToDig 43 = .ok (.iload_n 3, 1) := by decide +kernel
theorem dX6_nextToDig_44 : decode cX6_nextToDig 44 = .ok (.istore_n 1, 1) := by decide +kernel
theorem dX6_nextToDig_45 : decode cX6_nextToDig 45 = .ok (.iload 4, 2) := by decide +kernel
theorem dX6_nextToDig_47 : decode cX6_nextToDig 47 = .ok (.istore_n 2, 1) := by decide +kernel
theorem dX6_nextToDig_48 : decode cX6_nextToDig 48 = .ok (.iinc 3 1, 3) := by decide +kernel
theorem dX6_nextToDig_51 : decode cX6_nextToDig 51 = .ok (.goto (-42), 3) := by decide +kernel
theorem dX6_nextToDig_54 : decode cX6_nextToDig 54 = .ok (.iload_n 1, 1) := by decide +kernel
theorem dX6_nextToDig_55 : decode cX6_nextToDig 55 = .ok (.ireturn, 1) := by decide +kernel
theorem dX7_init_0 : decode cX7_init 0 = .ok (.aload_n 0, 1) := by decide +kernel
theorem dX7_init_1 : decode cX7_init 1 = .ok (.invokespecial 3, 3) := by decide +kernel
theorem dX7_init_4 : decode cX7_init 4 = .ok (.aload_n 0, 1) := by decide +kernel
theorem dX7_init_5 : decode cX7_init 5 = .ok (.bipush 10, 2) := by decide +kernel
theorem dX7_init_7 : decode cX7_init 7 = .ok (.newarray .long, 2) := by decide +kernel
theorem dX7_init_9 : decode cX7_init 9 = .ok (.putfield 9, 3) := by decide +kernel
theorem dX7_init_12 : decode cX7_init 12 = .ok (.aload_n 0, 1) := by decide +kernel
theorem dX7_init_13 : decode cX7_init 13 = .ok (.bipush 10, 2) := by decide +kernel
theorem dX7_init_15 : decode cX7_init 15 = .ok (.newarray .int, 2) := by decide +kernel
theorem dX7_init_17 : decode cX7_init 17 = .ok (.putfield 15, 3) := by decide +kernel
theorem dX7_init_20 : decode cX7_init 20 = .ok (.aload_n 0, 1) := by decide +kernel
theorem dX7_init_21 : decode cX7_init 21 = .ok (.bipush 10, 2) := by decide +kernel
theorem dX7_init_23 : decode cX7_init 23 = .ok (.newarray .int, 2) := by decide +kernel
theorem dX7_init_25 : decode cX7_init 25 = .ok (.putfield 19, 3) := by decide +kernel
theorem dX7_init_28 : decode cX7_init 28 = .ok (.aload_n 0, 1) := by decide +kernel
theorem dX7_init_29 : decode cX7_init 29 = .ok (.bipush 10, 2) := by decide +kernel
theorem dX7_init_31 : decode cX7_init 31 = .ok (.newarray .int, 2) := by decide +kernel
theorem dX7_init_33 : decode cX7_init 33 = .ok (.putfield 22, 3) := by decide +kernel
theorem dX7_init_36 : decode cX7_init 36 = .ok (.aload_n 0, 1) := by decide +kernel
theorem dX7_init_37 : decode cX7_init 37 = .ok (.bipush 16, 2) := by decide +kernel
theorem dX7_init_39 : decode cX7_init 39 = .ok (.newarray .int, 2) := by decide +kernel
theorem dX7_init_41 : decode cX7_init 41 = .ok (.putfield 25, 3) := by decide +kernel
theorem dX7_init_44 : decode cX7_init 44 = .ok (.aload_n 0, 1) := by decide +kernel
theorem dX7_init_45 : decode cX7_init 45 = .ok (.bipush 16, 2) := by decide +kernel
theorem dX7_init_47 : decode cX7_init 47 = .ok (.newarray .int, 2) := by decide +kernel
theorem dX7_init_49 : decode cX7_init 49 = .ok (.putfield 28, 3) := by decide +kernel
theorem dX7_init_52 : decode cX7_init 52 = .ok (.aload_n 0, 1) := by decide +kernel
theorem dX7_init_53 : decode cX7_init 53 = .ok (.bipush 16, 2) := by decide +kernel
theorem dX7_init_55 : decode cX7_init 55 = .ok (.newarray .boolean, 2) := by decide +kernel
theorem dX7_init_57 : decode cX7_init 57 = .ok (.putfield 31, 3) := by decide +kernel
theorem dX7_init_60 : decode cX7_init 60 = .ok (.aload_n 0, 1) := by decide +kernel
theorem dX7_init_61 : decode cX7_init 61 = .ok (.bipush 16, 2) := by decide +kernel
theorem dX7_init_63 : decode cX7_init 63 = .ok (.newarray .int, 2) := by decide +kernel
theorem dX7_init_65 : decode cX7_init 65 = .ok (.putfield 35, 3) := by decide +kernel
theorem dX7_init_68 : decode cX7_init 68 = .ok (.aload_n 0, 1) := by decide +kernel
theorem dX7_init_69 : decode cX7_init 69 = .ok (.bipush 64, 2) := by decide +kernel
theorem dX7_init_71 : decode cX7_init 71 = .ok (.newarray .int, 2) := by decide +kernel
theorem dX7_init_73 : decode cX7_init 73 = .ok (.putfield 38, 3) := by decide +kernel
theorem dX7_init_76 : decode cX7_init 76 = .ok (.aload_n 0, 1) := by decide +kernel
theorem dX7_init_77 : decode cX7_init 77 = .ok (.bipush 64, 2) := by decide +kernel
theorem dX7_init_79 : decode cX7_init 79 = .ok (.newarray .int, 2) := by decide +kernel
theorem dX7_init_81 : decode cX7_init 81 = .ok (.putfield 41, 3) := by decide +kernel
theorem dX7_init_84 : decode cX7_init 84 = .ok (.aload_n 0, 1) := by decide +kernel
theorem dX7_init_85 : decode cX7_init 85 = .ok (.bipush 64, 2) := by decide +kernel
theorem dX7_init_87 : decode cX7_init 87 = .ok (.newarray .int, 2) := by decide +kernel
theorem dX7_init_89 : decode cX7_init 89 = .ok (.putfield 44, 3) := by decide +kernel
theorem dX7_init_92 : decode cX7_init 92 = .ok (.aload_n 0, 1) := by decide +kernel
theorem dX7_init_93 : decode cX7_init 93 = .ok (.iconst 0, 1) := by decide +kernel
theorem dX7_init_94 : decode cX7_init 94 = .ok (.putfield 47, 3) := by decide +kernel
theorem dX7_init_97 : decode cX7_init 97 = .ok (.aload_n 0, 1) := by decide +kernel
theorem dX7_init_98 : decode cX7_init 98 = .ok (.iconst 0, 1) := by decide +kernel
theorem dX7_init_99 : decode cX7_init 99 = .ok (.putfield 51, 3) := by decide +kernel
theorem dX7_init_102 : decode cX7_init 102 = .ok (.aload_n 0, 1) := by decide +kernel
theorem dX7_init_103 : decode cX7_init 103 = .ok (.iconst 0, 1) := by decide +kernel
theorem dX7_init_104 : decode cX7_init 104 = .ok (.putfield 54, 3) := by decide +kernel
theorem dX7_init_107 : decode cX7_init 107 = .ok (.aload_n 0, 1) := by decide +kernel
theorem dX7_init_108 : decode cX7_init 108 = .ok (.iconst 2, 1) := by decide +kernel
theorem dX7_init_109 : decode cX7_init 109 = .ok (.putfield 57, 3) := by decide +kernel
theorem dX7_init_112 : decode cX7_init 112 = .ok (.aload_n 0, 1) := by decide +kernel
theorem dX7_init_113 : decode cX7_init 113 = .ok (.iconst 1, 1) := by decide +kernel
theorem dX7_init_114 : decode cX7_init 114 = .ok (.putfield 60, 3) := by decide +kernel
theorem dX7_init_117 : decode cX7_init 117 = .ok (.return_, 1) := by decide +kernel
theorem dX7_clear_0 : decode cX7_clear 0 = .ok (.aload_n 0, 1) := by decide +kernel
theorem dX7_clear_1 : decode cX7_clear 1 = .ok (.iconst 0, 1) := by decide +kernel
theorem dX7_clear_2 : decode cX7_clear 2 = .ok (.putfield 47, 3) := by decide +kernel
theorem dX7_clear_5 : decode cX7_clear 5 = .ok (.aload_n 0, 1) := by decide +kernel
theorem dX7_clear_6 : decode cX7_clear 6 = .ok (.iconst 0, 1) := by decide +kernel
theorem dX7_clear_7 : decode cX7_clear 7 = .ok (.putfield 51, 3) := by decide +kernel
theorem dX7_clear_10 : decode cX7_clear 10 = .ok (.aload_n 0, 1) := by decide +kernel
theorem dX7_clear_11 : decode cX7_clear 11 = .ok (.iconst 0, 1) := by decide +kernel
theorem dX7_clear_12 : decode cX7_clear 12 = .ok (.putfield 54, 3) := by decide +kernel
theorem dX7_clear_15 : decode cX7_clear 15 = .ok (.aload_n 0, 1) := by decide +kernel
theorem dX7_clear_16 : decode cX7_clear 16 = .ok (.iconst 2, 1) := by decide +kernel
theorem dX7_clear_17 : decode cX7_clear 17 = .ok (.putfield 57, 3) := by decide +kernel
theorem dX7_clear_20 : decode cX7_clear 20 = .ok (.aload_n 0, 1) := by decide +kernel
theorem dX7_clear_21 : decode cX7_clear 21 = .ok (.iconst 1, 1) := by decide +kernel
theorem dX7_clear_22 : decode cX7_clear 22 = .ok (.putfield 60, 3) := by decide +kernel
theorem dX7_clear_25 : decode cX7_clear 25 = .ok (.iconst 0, 1) := by decide +kernel
theorem dX7_clear_26 : decode cX7_clear 26 = .ok (.istore_n 1, 1) := by decide +kernel
theorem dX7_clear_27 : decode cX7_clear 27 = .ok (.iload_n 1, 1) := by decide +kernel
theorem dX7_clear_28 : decode cX7_clear 28 = .ok (.bipush 10, 2) := by decide +kernel
theorem dX7_clear_30 : decode cX7_clear 30 = .ok (.if_icmp .ge 16, 3) := by decide +kernel
theorem dX7_clear_33 : decode cX7_clear 33 = .ok (.aload_n 0, 1) := by decide +kernel
theorem dX7_clear_34 : decode cX7_clear 34 = .ok (.getfield 22, 3) := by decide +kernel
theorem dX7_clear_37 : decode cX7_clear 37 = .ok (.iload_n 1, 1) := by decide +kernel
theorem dX7_clear_38 : decode cX7_clear 38 = .ok (.iload_n 1, 1) := by decide +kernel
theorem dX7_clear_39 : decode cX7_clear 39 = .ok (.iastore, 1) := by decide +kernel
theorem dX7_clear_40 : decode cX7_clear 40 = .ok (.iinc 1 1, 3) := by decide +kernel
theorem dX7_clear_43 : decode cX7_clear 43 = .ok (.goto (-16), 3) := by decide +kernel
theorem dX7_clear_46 : decode cX7_clear 46 = .ok (.return_, 1) := by decide +kernel
theorem dX7_wordNamed_0 : decode cX7_wordNamed 0 = .ok (.iconst 0, 1) := by decide +kernel
theorem dX7_wordNamed_1 : decode cX7_wordNamed 1 = .ok (.istore_n 3, 1) := by decide +kernel
theorem dX7_wordNamed_2 : decode cX7_wordNamed 2 = .ok (.iload_n 3, 1) := by decide +kernel
theorem dX7_wordNamed_3 : decode cX7_wordNamed 3 = .ok (.aload_n 0, 1) := by decide +kernel
theorem dX7_wordNamed_4 : decode cX7_wordNamed 4 = .ok (.getfield 47, 3) := by decide +kernel
theorem dX7_wordNamed_7 : decode cX7_wordNamed 7 = .ok (.if_icmp .ge 22, 3) := by decide +kernel
theorem dX7_wordNamed_10 : decode cX7_wordNamed 10 = .ok (.aload_n 0, 1) := by decide +kernel
theorem dX7_wordNamed_11 : decode cX7_wordNamed 11 = .ok (.getfield 9, 3) := by decide +kernel
theorem dX7_wordNamed_14 : decode cX7_wordNamed 14 = .ok (.iload_n 3, 1) := by decide +kernel
theorem dX7_wordNamed_15 : decode cX7_wordNamed 15 = .ok (.laload, 1) := by decide +kernel
theorem dX7_wordNamed_16 : decode cX7_wordNamed 16 = .ok (.lload_n 1, 1) := by decide +kernel
theorem dX7_wordNamed_17 : decode cX7_wordNamed 17 = .ok (.lcmp, 1) := by decide +kernel
theorem dX7_wordNamed_18 : decode cX7_wordNamed 18 = .ok (.ifCond .ne 5, 3) := by decide +kernel
theorem dX7_wordNamed_21 : decode cX7_wordNamed 21 = .ok (.iload_n 3, 1) := by decide +kernel
theorem dX7_wordNamed_22 : decode cX7_wordNamed 22 = .ok (.ireturn, 1) := by decide +kernel
theorem dX7_wordNamed_23 : decode cX7_wordNamed 23 = .ok (.iinc 3 1, 3) := by decide +kernel
theorem dX7_wordNamed_26 : decode cX7_wordNamed 26 = .ok (.goto (-24), 3) := by decide +kernel
theorem dX7_wordNamed_29 : decode cX7_wordNamed 29 = .ok (.iconst (-1), 1) := by decide +kernel
theorem dX7_wordNamed_30 : decode cX7_wordNamed 30 = .ok (.ireturn, 1) := by decide +kernel
theorem dX7_wordOfRow_0 : decode cX7_wordOfRow 0 = .ok (.iconst 0, 1) := by decide +kernel
theorem dX7_wordOfRow_1 : decode cX7_wordOfRow 1 = .ok (.istore_n 2, 1) := by decide +kernel
theorem dX7_wordOfRow_2 : decode cX7_wordOfRow 2 = .ok (.iload_n 2, 1) := by decide +kernel
theorem dX7_wordOfRow_3 : decode cX7_wordOfRow 3 = .ok (.aload_n 0, 1) := by decide +kernel
theorem dX7_wordOfRow_4 : decode cX7_wordOfRow 4 = .ok (.getfield 47, 3) := by decide +kernel
theorem dX7_wordOfRow_7 : decode cX7_wordOfRow 7 = .ok (.if_icmp .ge 21, 3) := by decide +kernel
theorem dX7_wordOfRow_10 : decode cX7_wordOfRow 10 = .ok (.aload_n 0, 1) := by decide +kernel
theorem dX7_wordOfRow_11 : decode cX7_wordOfRow 11 = .ok (.getfield 15, 3) := by decide +kernel
theorem dX7_wordOfRow_14 : decode cX7_wordOfRow 14 = .ok (.iload_n 2, 1) := by decide +kernel
theorem dX7_wordOfRow_15 : decode cX7_wordOfRow 15 = .ok (.iaload, 1) := by decide +kernel
theorem dX7_wordOfRow_16 : decode cX7_wordOfRow 16 = .ok (.iload_n 1, 1) := by decide +kernel
theorem dX7_wordOfRow_17 : decode cX7_wordOfRow 17 = .ok (.if_icmp .ne 5, 3) := by decide +kernel
theorem dX7_wordOfRow_20 : decode cX7_wordOfRow 20 = .ok (.iload_n 2, 1) := by decide +kernel
theorem dX7_wordOfRow_21 : decode cX7_wordOfRow 21 = .ok (.ireturn, 1) := by decide +kernel
theorem dX7_wordOfRow_22 : decode cX7_wordOfRow 22 = .ok (.iinc 2 1, 3) := by decide +kernel
theorem dX7_wordOfRow_25 : decode cX7_wordOfRow 25 = .ok (.goto (-23), 3) := by decide +kernel
theorem dX7_wordOfRow_28 : decode cX7_wordOfRow 28 = .ok (.iconst (-1), 1) := by decide +kernel
theorem dX7_wordOfRow_29 : decode cX7_wordOfRow 29 = .ok (.ireturn, 1) := by decide +kernel
theorem dX7_addWord_0 : decode cX7_addWord 0 = .ok (.aload_n 0, 1) := by decide +kernel
theorem dX7_addWord_1 : decode cX7_addWord 1 = .ok (.getfield 47, 3) := by decide +kernel
theorem dX7_addWord_4 : decode cX7_addWord 4 = .ok (.bipush 10, 2) := by decide +kernel
theorem dX7_addWord_6 : decode cX7_addWord 6 = .ok (.if_icmp .ge 44, 3) := by decide +kernel
theorem dX7_addWord_9 : decode cX7_addWord 9 = .ok (.aload_n 0, 1) := by decide +kernel
theorem dX7_addWord_10 : decode cX7_addWord 10 = .ok (.getfield 9, 3) := by decide +kernel
theorem dX7_addWord_13 : decode cX7_addWord 13 = .ok (.aload_n 0, 1) := by decide +kernel
theorem dX7_addWord_14 : decode cX7_addWord 14 = .ok (.getfield 47, 3) := by decide +kernel
theorem dX7_addWord_17 : decode cX7_addWord 17 = .ok (.lload_n 1, 1) := by decide +kernel
theorem dX7_addWord_18 : decode cX7_addWord 18 = .ok (.lastore, 1) := by decide +kernel
theorem dX7_addWord_19 : decode cX7_addWord 19 = .ok (.aload_n 0, 1) := by decide +kernel
theorem dX7_addWord_20 : decode cX7_addWord 20 = .ok (.getfield 15, 3) := by decide +kernel
theorem dX7_addWord_23 : decode cX7_addWord 23 = .ok (.aload_n 0, 1) := by decide +kernel
theorem dX7_addWord_24 : decode cX7_addWord 24 = .ok (.getfield 47, 3) := by decide +kernel
theorem dX7_addWord_27 : decode cX7_addWord 27 = .ok (.iload_n 3, 1) := by decide +kernel
theorem dX7_addWord_28 : decode cX7_addWord 28 = .ok (.iastore, 1) := by decide +kernel
theorem dX7_addWord_29 : decode cX7_addWord 29 = .ok (.aload_n 0, 1) := by decide +kernel
theorem dX7_addWord_30 : decode cX7_addWord 30 = .ok (.getfield 19, 3) := by decide +kernel
theorem dX7_addWord_33 : decode cX7_addWord 33 = .ok (.aload_n 0, 1) := by decide +kernel
theorem dX7_addWord_34 : decode cX7_addWord 34 = .ok (.getfield 47, 3) := by decide +kernel
theorem dX7_addWord_37 : decode cX7_addWord 37 = .ok (.iload 4, 2) := by decide +kernel
theorem dX7_addWord_39 : decode cX7_addWord 39 = .ok (.iastore, 1) := by decide +kernel
theorem dX7_addWord_40 : decode cX7_addWord 40 = .ok (.aload_n 0, 1) := by decide +kernel
theorem dX7_addWord_41 : decode cX7_addWord 41 = .ok (.dup, 1) := by decide +kernel
theorem dX7_addWord_42 : decode cX7_addWord 42 = .ok (.getfield 47, 3) := by decide +kernel
theorem dX7_addWord_45 : decode cX7_addWord 45 = .ok (.iconst 1, 1) := by decide +kernel
theorem dX7_addWord_46 : decode cX7_addWord 46 = .ok (.iadd, 1) := by decide +kernel
theorem dX7_addWord_47 : decode cX7_addWord 47 = .ok (.putfield 47, 3) := by decide +kernel
theorem dX7_addWord_50 : decode cX7_addWord 50 = .ok (.return_, 1) := by decide +kernel
theorem dX7_addLike_0 : decode cX7_addLike 0 = .ok (.aload_n 0, 1) := by decide +kernel
theorem dX7_addLike_1 : decode cX7_addLike 1 = .ok (.getfield 22, 3) := by decide +kernel
theorem dX7_addLike_4 : decode cX7_addLike 4 = .ok (.iload_n 1, 1) := by decide +kernel
theorem dX7_addLike_5 : decode cX7_addLike 5 = .ok (.iaload, 1) := by decide +kernel
theorem dX7_addLike_6 : decode cX7_addLike 6 = .ok (.aload_n 0, 1) := by decide +kernel
theorem dX7_addLike_7 : decode cX7_addLike 7 = .ok (.getfield 22, 3) := by decide +kernel
theorem dX7_addLike_10 : decode cX7_addLike 10 = .ok (.iload_n 2, 1) := by decide +kernel
theorem dX7_addLike_11 : decode cX7_addLike 11 = .ok (.iaload, 1) := by decide +kernel
theorem dX7_addLike_12 : decode cX7_addLike 12 = .ok (.invokestatic 63, 3) := by decide +kernel
theorem dX7_addLike_15 : decode cX7_addLike 15 = .ok (.istore_n 3, 1) := by decide +kernel
theorem dX7_addLike_16 : decode cX7_addLike 16 = .ok (.aload_n 0, 1) := by decide +kernel
theorem dX7_addLike_17 : decode cX7_addLike 17 = .ok (.getfield 22, 3) := by decide +kernel
theorem dX7_addLike_20 : decode cX7_addLike 20 = .ok (.iload_n 1, 1) := by decide +kernel
theorem dX7_addLike_21 : decode cX7_addLike 21 = .ok (.iaload, 1) := by decide +kernel
theorem dX7_addLike_22 : decode cX7_addLike 22 = .ok (.aload_n 0, 1) := by decide +kernel
theorem dX7_addLike_23 : decode cX7_addLike 23 = .ok (.getfield 22, 3) := by decide +kernel
theorem dX7_addLike_26 : decode cX7_addLike 26 = .ok (.iload_n 2, 1) := by decide +kernel
theorem dX7_addLike_27 : decode cX7_addLike 27 = .ok (.iaload, 1) := by decide +kernel
theorem dX7_addLike_28 : decode cX7_addLike 28 = .ok (.invokestatic 69, 3) := by decide +kernel
theorem dX7_addLike_31 : decode cX7_addLike 31 = .ok (.istore 4, 2) := by decide +kernel
theorem dX7_addLike_33 : decode cX7_addLike 33 = .ok (.iconst 0, 1) := by decide +kernel
theorem dX7_addLike_34 : decode cX7_addLike 34 = .ok (.istore 5, 2) := by decide +kernel
theorem dX7_addLike_36 : decode cX7_addLike 36 = .ok (.iload 5, 2) := by decide +kernel
theorem dX7_addLike_38 : decode cX7_addLike 38 = .ok (.bipush 10, 2) := by decide +kernel
theorem dX7_addLike_40 : decode cX7_addLike 40 = .ok (.if_icmp .ge 29, 3) := by decide +kernel
theorem dX7_addLike_43 : decode cX7_addLike 43 = .ok (.aload_n 0, 1) := by decide +kernel
theorem dX7_addLike_44 : decode cX7_addLike 44 = .ok (.getfield 22, 3) := by decide +kernel
theorem dX7_addLike_47 : decode cX7_addLike 47 = .ok (.iload 5, 2) := by decide +kernel
theorem dX7_addLike_49 : decode cX7_addLike 49 = .ok (.iaload, 1) := by decide +kernel
theorem dX7_addLike_50 : decode cX7_addLike 50 = .ok (.iload 4, 2) := by decide +kernel
theorem dX7_addLike_52 : decode cX7_addLike 52 = .ok (.if_icmp .ne 11, 3) := by decide +kernel
theorem dX7_addLike_55 : decode cX7_addLike 55 = .ok (.aload_n 0, 1) := by decide +kernel
theorem dX7_addLike_56 : decode cX7_addLike 56 = .ok (.getfield 22, 3) := by decide +kernel
theorem dX7_addLike_59 : decode cX7_addLike 59 = .ok (.iload 5, 2) := by decide +kernel
theorem dX7_addLike_61 : decode cX7_addLike 61 = .ok (.iload_n 3, 1) := by decide +kernel
theorem dX7_addLike_62 : decode cX7_addLike 62 = .ok (.iastore, 1) := by decide +kernel
theorem dX7_addLike_63 : decode cX7_addLike 63 = .ok (.iinc 5 1, 3) := by decide +kernel
theorem dX7_addLike_66 : decode cX7_addLike 66 = .ok (.goto (-30), 3) := by decide +kernel
theorem dX7_addLike_69 : decode cX7_addLike 69 = .ok (.aload_n 0, 1) := by decide +kernel
theorem dX7_addLike_70 : decode cX7_addLike 70 = .ok (.dup, 1) := by decide +kernel
theorem dX7_addLike_71 : decode cX7_addLike 71 = .ok (.getfield 51, 3) := by decide +kernel
theorem dX7_addLike_74 : decode cX7_addLike 74 = .ok (.iconst 1, 1) := by decide +kernel
theorem dX7_addLike_75 : decode cX7_addLike 75 = .ok (.iadd, 1) := by decide +kernel
theorem dX7_addLike_76 : decode cX7_addLike 76 = .ok (.putfield 51, 3) := by decide +kernel
theorem dX7_addLike_79 : decode cX7_addLike 79 = .ok (.return_, 1) := by decide +kernel
theorem dX7_readDimly_0 : decode cX7_readDimly 0 = .ok (.aload_n 0, 1) := by decide +kernel
theorem dX7_readDimly_1 : decode cX7_readDimly 1 = .ok (.getfield 15, 3) := by decide +kernel
theorem dX7_readDimly_4 : decode cX7_readDimly 4 = .ok (.iload_n 1, 1) := by decide +kernel
theorem dX7_readDimly_5 : decode cX7_readDimly 5 = .ok (.iaload, 1) := by decide +kernel
theorem dX7_readDimly_6 : decode cX7_readDimly 6 = .ok (.istore_n 2, 1) := by decide +kernel
theorem dX7_readDimly_7 : decode cX7_readDimly 7 = .ok (.iconst 0, 1) := by decide +kernel
theorem dX7_readDimly_8 : decode cX7_readDimly 8 = .ok (.istore_n 3, 1) := by decide +kernel
theorem dX7_readDimly_9 : decode cX7_readDimly 9 = .ok (.iconst 1, 1) := by decide +kernel
theorem dX7_readDimly_10 : decode cX7_readDimly 10 = .ok (.istore 4, 2) := by decide +kernel
theorem dX7_readDimly_12 : decode cX7_readDimly 12 = .ok (.iconst 0, 1) := by decide +kernel
theorem dX7_readDimly_13 : decode cX7_readDimly 13 = .ok (.istore 5, 2) := by decide +kernel
theorem dX7_readDimly_15 : decode cX7_readDimly 15 = .ok (.iload 5, 2) := by decide +kernel
theorem dX7_readDimly_17 : decode cX7_readDimly 17 = .ok (.iconst 5, 1) := by decide +kernel
theorem dX7_readDimly_18 : decode cX7_readDimly 18 = .ok (.if_icmp .ge 40, 3) := by decide +kernel
theorem dX7_readDimly_21 : decode cX7_readDimly 21 = .ok (.iload_n 2, 1) := by decide +kernel
theorem dX7_readDimly_22 : decode cX7_readDimly 22 = .ok (.ifCond .le 36, 3) := by decide +kernel
theorem dX7_readDimly_25 : decode cX7_readDimly 25 = .ok (.iload_n 3, 1) := by decide +kernel
theorem dX7_readDimly_26 : decode cX7_readDimly 26 = .ok (.aload_n 0, 1) := by decide +kernel
theorem dX7_readDimly_27 : decode cX7_readDimly 27 = .ok (.getfield 22, 3) := by decide +kernel
theorem dX7_readDimly_30 : decode cX7_readDimly 30 = .ok (.iload_n 2, 1) := by decide +kernel
theorem dX7_readDimly_31 : decode cX7_readDimly 31 = .ok (.bipush 10, 2) := by decide +kernel
theorem dX7_readDimly_33 : decode cX7_readDimly 33 = .ok (.irem, 1) := by decide +kernel
theorem dX7_readDimly_34 : decode cX7_readDimly 34 = .ok (.iaload, 1) := by decide +kernel
theorem dX7_readDimly_35 : decode cX7_readDimly 35 = .ok (.iload 4, 2) := by decide +kernel
theorem dX7_readDimly_37 : decode cX7_readDimly 37 = .ok (.imul, 1) := by decide +kernel
theorem dX7_readDimly_38 : decode cX7_readDimly 38 = .ok (.iadd, 1) := by decide +kernel
theorem dX7_readDimly_39 : decode cX7_readDimly 39 = .ok (.istore_n 3, 1) := by decide +kernel
theorem dX7_readDimly_40 : decode cX7_readDimly 40 = .ok (.iload 4, 2) := by decide +kernel
theorem dX7_readDimly_42 : decode cX7_readDimly 42 = .ok (.bipush 10, 2) := by decide +kernel
theorem dX7_readDimly_44 : decode cX7_readDimly 44 = .ok (.imul, 1) := by decide +kernel
theorem dX7_readDimly_45 : decode cX7_readDimly 45 = .ok (.istore 4, 2) := by decide +kernel
theorem dX7_readDimly_47 : decode cX7_readDimly 47 = .ok (.iload_n 2, 1) := by decide +kernel
theorem dX7_readDimly_48 : decode cX7_readDimly 48 = .ok (.bipush 10, 2) := by decide +kernel
theorem dX7_readDimly_50 : decode cX7_readDimly 50 = .ok (.idiv, 1) := by decide +kernel
theorem dX7_readDimly_51 : decode cX7_readDimly 51 = .ok (.istore_n 2, 1) := by decide +kernel
theorem dX7_readDimly_52 : decode cX7_readDimly 52 = .ok (.iinc 5 1, 3) := by decide +kernel
theorem dX7_readDimly_55 : decode cX7_readDimly 55 = .ok (.goto (-40), 3) := by decide +kernel
theorem dX7_readDimly_58 : decode cX7_readDimly 58 = .ok (.aload_n 0, 1) := by decide +kernel
theorem dX7_readDimly_59 : decode cX7_readDimly 59 = .ok (.iload_n 3, 1) := by decide +kernel
theorem dX7_readDimly_60 : decode cX7_readDimly 60 = .ok (.invokevirtual 72, 3) := by decide +kernel
theorem dX7_readDimly_63 : decode cX7_readDimly 63 = .ok (.ireturn, 1) := by decide +kernel
theorem dX7_minutesToSend_0 : decode cX7_minutesToSend 0 = .ok (.aload_n 0, 1) := by decide +kernel
theorem dX7_minutesToSend_1 : decode cX7_minutesToSend 1 = .ok (.getfield 60, 3) := by decide +kernel
theorem dX7_minutesToSend_4 : decode cX7_minutesToSend 4 = .ok (.aload_n 0, 1) := by decide +kernel
theorem dX7_minutesToSend_5 : decode cX7_minutesToSend 5 = .ok (.getfield 57, 3) := by decide +kernel
theorem dX7_minutesToSend_8 : decode cX7_minutesToSend 8 = .ok (.aload_n 0, 1) := by decide +kernel
theorem dX7_minutesToSend_9 : decode cX7_minutesToSend 9 = .ok (.getfield 19, 3) := by decide +kernel
theorem dX7_minutesToSend_12 : decode cX7_minutesToSend 12 = .ok (.iload_n 1, 1) := by decide +kernel
theorem dX7_minutesToSend_13 : decode cX7_minutesToSend 13 = .ok (.iaload, 1) := by decide +kernel
theorem dX7_minutesToSend_14 : decode cX7_minutesToSend 14 = .ok (.imul, 1) := by decide +kernel
theorem dX7_minutesToSend_15 : decode cX7_minutesToSend 15 = .ok (.iadd, 1) := by decide +kernel
theorem dX7_minutesToSend_16 : decode cX7_minutesToSend 16 = .ok (.ireturn, 1) := by decide +kernel
theorem dX8_init_0 : decode cX8_init 0 = .ok (.aload_n 0, 1) := by decide +kernel
theorem dX8_init_1 : decode cX8_init 1 = .ok (.invokespecial 3, 3) := by decide +kernel
theorem dX8_init_4 : decode cX8_init 4 = .ok (.aload_n 0, 1) := by decide +kernel
theorem dX8_init_5 : decode cX8_init 5 = .ok (.aload_n 1, 1) := by decide +kernel
theorem dX8_init_6 : decode cX8_init 6 = .ok (.putfield 9, 3) := by decide +kernel
theorem dX8_init_9 : decode cX8_init 9 = .ok (.aload_n 0, 1) := by decide +kernel
theorem dX8_init_10 : decode cX8_init 10 = .ok (.aload_n 2, 1) := by decide +kernel
theorem dX8_init_11 : decode cX8_init 11 = .ok (.putfield 15, 3) := by decide +kernel
theorem dX8_init_14 : decode cX8_init 14 = .ok (.return_, 1) := by decide +kernel
theorem dX8_span_0 : decode cX8_span 0 = .ok (.aload_n 0, 1) := by decide +kernel
theorem dX8_span_1 : decode cX8_span 1 = .ok (.getfield 15, 3) := by decide +kernel
theorem dX8_span_4 : decode cX8_span 4 = .ok (.getfield 19, 3) := by decide +kernel
theorem dX8_span_7 : decode cX8_span 7 = .ok (.iload_n 2, 1) := by decide +kernel
theorem dX8_span_8 : decode cX8_span 8 = .ok (.iaload, 1) := by decide +kernel
theorem dX8_span_9 : decode cX8_span 9 = .ok (.aload_n 0, 1) := by decide +kernel
theorem dX8_span_10 : decode cX8_span 10 = .ok (.getfield 15, 3) := by decide +kernel
theorem dX8_span_13 : decode cX8_span 13 = .ok (.getfield 19, 3) := by decide +kernel
theorem dX8_span_16 : decode cX8_span 16 = .ok (.iload_n 1, 1) := by decide +kernel
theorem dX8_span_17 : decode cX8_span 17 = .ok (.iaload, 1) := by decide +kernel
theorem dX8_span_18 : decode cX8_span 18 = .ok (.isub, 1) := by decide +kernel
theorem dX8_span_19 : decode cX8_span 19 = .ok (.invokestatic 25, 3) := by decide +kernel
theorem dX8_span_22 : decode cX8_span 22 = .ok (.istore_n 3, 1) := by decide +kernel
theorem dX8_span_23 : decode cX8_span 23 = .ok (.aload_n 0, 1) := by decide +kernel
theorem dX8_span_24 : decode cX8_span 24 = .ok (.getfield 15, 3) := by decide +kernel
theorem dX8_span_27 : decode cX8_span 27 = .ok (.getfield 31, 3) := by decide +kernel
theorem dX8_span_30 : decode cX8_span 30 = .ok (.iload_n 2, 1) := by decide +kernel
theorem dX8_span_31 : decode cX8_span 31 = .ok (.iaload, 1) := by decide +kernel
theorem dX8_span_32 : decode cX8_span 32 = .ok (.aload_n 0, 1) := by decide +kernel
theorem dX8_span_33 : decode cX8_span 33 = .ok (.getfield 15, 3) := by decide +kernel
theorem dX8_span_36 : decode cX8_span 36 = .ok (.getfield 31, 3) := by decide +kernel
theorem dX8_span_39 : decode cX8_span 39 = .ok (.iload_n 1, 1) := by decide +kernel
theorem dX8_span_40 : decode cX8_span 40 = .ok (.iaload, 1) := by decide +kernel
theorem dX8_span_41 : decode cX8_span 41 = .ok (.isub, 1) := by decide +kernel
theorem dX8_span_42 : decode cX8_span 42 = .ok (.invokestatic 25, 3) := by decide +kernel
theorem dX8_span_45 : decode cX8_span 45 = .ok (.istore 4, 2) := by decide +kernel
theorem dX8_span_47 : decode cX8_span 47 = .ok (.iload_n 3, 1) := by decide +kernel
theorem dX8_span_48 : decode cX8_span 48 = .ok (.iload 4, 2) := by decide +kernel
theorem dX8_span_50 : decode cX8_span 50 = .ok (.invokestatic 34, 3) := by decide +kernel
theorem dX8_span_53 : decode cX8_span 53 = .ok (.ireturn, 1) := by decide +kernel
theorem dX8_numberAt_0 : decode cX8_numberAt 0 = .ok (.aload_n 0, 1) := by decide +kernel
theorem dX8_numberAt_1 : decode cX8_numberAt 1 = .ok (.iload_n 1, 1) := by decide +kernel
theorem dX8_numberAt_2 : decode cX8_numberAt 2 = .ok (.iload_n 2, 1) := by decide +kernel
theorem dX8_numberAt_3 : decode cX8_numberAt 3 = .ok (.invokevirtual 38, 3) := by decide +kernel
theorem dX8_numberAt_6 : decode cX8_numberAt 6 = .ok (.istore 4, 2) := by decide +kernel
theorem dX8_numberAt_8 : decode cX8_numberAt 8 = .ok (.aload_n 0, 1) := by decide +kernel
theorem dX8_numberAt_9 : decode cX8_numberAt 9 = .ok (.getfield 15, 3) := by decide +kernel
theorem dX8_numberAt_12 : decode cX8_numberAt 12 = .ok (.getfield 19, 3) := by decide +kernel
theorem dX8_numberAt_15 : decode cX8_numberAt 15 = .ok (.iload_n 1, 1) := by decide +kernel
theorem dX8_numberAt_16 : decode cX8_numberAt 16 = .ok (.iaload, 1) := by decide +kernel
theorem dX8_numberAt_17 : decode cX8_numberAt 17 = .ok (.aload_n 0, 1) := by decide +kernel
theorem dX8_numberAt_18 : decode cX8_numberAt 18 = .ok (.getfield 15, 3) := by decide +kernel
theorem dX8_numberAt_21 : decode cX8_numberAt 21 = .ok (.getfield 19, 3) := by decide +kernel
theorem dX8_numberAt_24 : decode cX8_numberAt 24 = .ok (.iload_n 2, 1) := by decide +kernel
theorem dX8_numberAt_25 : decode cX8_numberAt 25 = .ok (.iaload, 1) := by decide +kernel
theorem dX8_numberAt_26 : decode cX8_numberAt 26 = .ok (.iload_n 3, 1) := by decide +kernel
theorem dX8_numberAt_27 : decode cX8_numberAt 27 = .ok (.iload 4, 2) := by decide +kernel
theorem dX8_numberAt_29 : decode cX8_numberAt 29 = .ok (.invokestatic 41, 3) := by decide +kernel
theorem dX8_numberAt_32 : decode cX8_numberAt 32 = .ok (.istore 5, 2) := by decide +kernel
theorem dX8_numberAt_34 : decode cX8_numberAt 34 = .ok (.aload_n 0, 1) := by decide +kernel
theorem dX8_numberAt_35 : decode cX8_numberAt 35 = .ok (.getfield 15, 3) := by decide +kernel
theorem dX8_numberAt_38 : decode cX8_numberAt 38 = .ok (.getfield 31, 3) := by decide +kernel
theorem dX8_numberAt_41 : decode cX8_numberAt 41 = .ok (.iload_n 1, 1) := by decide +kernel
theorem dX8_numberAt_42 : decode cX8_numberAt 42 = .ok (.iaload, 1) := by decide +kernel
theorem dX8_numberAt_43 : decode cX8_numberAt 43 = .ok (.aload_n 0, 1) := by decide +kernel
theorem dX8_numberAt_44 : decode cX8_numberAt 44 = .ok (.getfield 15, 3) := by decide +kernel
theorem dX8_numberAt_47 : decode cX8_numberAt 47 = .ok (.getfield 31, 3) := by decide +kernel
theorem dX8_numberAt_50 : decode cX8_numberAt 50 = .ok (.iload_n 2, 1) := by decide +kernel
theorem dX8_numberAt_51 : decode cX8_numberAt 51 = .ok (.iaload, 1) := by decide +kernel
theorem dX8_numberAt_52 : decode cX8_numberAt 52 = .ok (.iload_n 3, 1) := by decide +kernel
theorem dX8_numberAt_53 : decode cX8_numberAt 53 = .ok (.iload 4, 2) := by decide +kernel
theorem dX8_numberAt_55 : decode cX8_numberAt 55 = .ok (.invokestatic 41, 3) := by decide +kernel
theorem dX8_numberAt_58 : decode cX8_numberAt 58 = .ok (.istore 6, 2) := by decide +kernel
theorem dX8_numberAt_60 : decode cX8_numberAt 60 = .ok (.aload_n 0, 1) := by decide +kernel
theorem dX8_numberAt_61 : decode cX8_numberAt 61 = .ok (.getfield 9, 3) := by decide +kernel
theorem dX8_numberAt_64 : decode cX8_numberAt 64 = .ok (.getfield 45, 3) := by decide +kernel
theorem dX8_numberAt_67 : decode cX8_numberAt 67 = .ok (.iload 6, 2) := by decide +kernel
theorem dX8_numberAt_69 : decode cX8_numberAt 69 = .ok (.imul, 1) := by decide +kernel
theorem dX8_numberAt_70 : decode cX8_numberAt 70 = .ok (.iload 5, 2) := by decide +kernel
theorem dX8_numberAt_72 : decode cX8_numberAt 72 = .ok (.iadd, 1) := by decide +kernel
theorem dX8_numberAt_73 : decode cX8_numberAt 73 = .ok (.ireturn, 1) := by decide +kernel
theorem dX8_between_0 : decode cX8_between 0 = .ok (.iload_n 3, 1) := by decide +kernel
theorem dX8_between_1 : decode cX8_between 1 = .ok (.iconst 1, 1) := by decide +kernel
theorem dX8_between_2 : decode cX8_between 2 = .ok (.if_icmp .ge 7, 3) := by decide +kernel
theorem dX8_between_5 : decode cX8_between 5 = .ok (.iload_n 0, 1) := by decide +kernel
theorem dX8_between_6 : decode cX8_between 6 = .ok (.goto 20, 3) := by decide +kernel
theorem dX8_between_9 : decode cX8_between 9 = .ok (.iconst 2, 1) := by decide +kernel
theorem dX8_between_10 : decode cX8_between 10 = .ok (.iload_n 0, 1) := by decide +kernel
theorem dX8_between_11 : decode cX8_between 11 = .ok (.iload_n 3, 1) := by decide +kernel
theorem dX8_between_12 : decode cX8_between 12 = .ok (.iload_n 2, 1) := by decide +kernel
theorem dX8_between_13 : decode cX8_between 13 = .ok (.isub, 1) := by decide +kernel
theorem dX8_between_14 : decode cX8_between 14 = .ok (.imul, 1) := by decide +kernel
theorem dX8_between_15 : decode cX8_between 15 = .ok (.iload_n 1, 1) := by decide +kernel
theorem dX8_between_16 : decode cX8_between 16 = .ok (.iload_n 2, 1) := by decide +kernel
theorem dX8_between_17 : decode cX8_between 17 = .ok (.imul, 1) := by decide +kernel
theorem dX8_between_18 : decode cX8_between 18 = .ok (.iadd, 1) := by decide +kernel
theorem dX8_between_19 : decode cX8_between 19 = .ok (.imul, 1) := by decide +kernel
theorem dX8_between_20 : decode cX8_between 20 = .ok (.iload_n 3, 1) := by decide +kernel
theorem dX8_between_21 : decode cX8_between 21 = .ok (.iadd, 1) := by decide +kernel
theorem dX8_between_22 : decode cX8_between 22 = .ok (.iconst 2, 1) := by decide +kernel
theorem dX8_between_23 : decode cX8_between 23 = .ok (.iload_n 3, 1) := by decide +kernel
theorem dX8_between_24 : decode cX8_between 24 = .ok (.imul, 1) := by decide +kernel
theorem dX8_between_25 : decode cX8_between 25 = .ok (.idiv, 1) := by decide +kernel
theorem dX8_between_26 : decode cX8_between 26 = .ok (.ireturn, 1) := by decide +kernel
theorem dX8_excess_0 : decode cX8_excess 0 = .ok (.aload_n 0, 1) := by decide +kernel
theorem dX8_excess_1 : decode cX8_excess 1 = .ok (.getfield 15, 3) := by decide +kernel
theorem dX8_excess_4 : decode cX8_excess 4 = .ok (.getfield 19, 3) := by decide +kernel
theorem dX8_excess_7 : decode cX8_excess 7 = .ok (.iload_n 1, 1) := by decide +kernel
theorem dX8_excess_8 : decode cX8_excess 8 = .ok (.iaload, 1) := by decide +kernel
theorem dX8_excess_9 : decode cX8_excess 9 = .ok (.aload_n 0, 1) := by decide +kernel
theorem dX8_excess_10 : decode cX8_excess 10 = .ok (.getfield 15, 3) := by decide +kernel
theorem dX8_excess_13 : decode cX8_excess 13 = .ok (.getfield 19, 3) := by decide +kernel
theorem dX8_excess_16 : decode cX8_excess 16 = .ok (.iload_n 2, 1) := by decide +kernel
theorem dX8_excess_17 : decode cX8_excess 17 = .ok (.iaload, 1) := by decide +kernel
theorem dX8_excess_18 : decode cX8_excess 18 = .ok (.iload_n 3, 1) := by decide +kernel
theorem dX8_excess_19 : decode cX8_excess 19 = .ok (.iload 4, 2) := by decide +kernel
theorem dX8_excess_21 : decode cX8_excess 21 = .ok (.invokestatic 41, 3) := by decide +kernel
theorem dX8_excess_24 : decode cX8_excess 24 = .ok (.istore 6, 2) := by decide +kernel
theorem dX8_excess_26 : decode cX8_excess 26 = .ok (.aload_n 0, 1) := by decide +kernel
theorem dX8_excess_27 : decode cX8_excess 27 = .ok (.getfield 15, 3) := by decide +kernel
theorem dX8_excess_30 : decode cX8_excess 30 = .ok (.getfield 31, 3) := by decide +kernel
theorem dX8_excess_33 : decode cX8_excess 33 = .ok (.iload_n 1, 1) := by decide +kernel
theorem dX8_excess_34 : decode cX8_excess 34 = .ok (.iaload, 1) := by decide +kernel
theorem dX8_excess_35 : decode cX8_excess 35 = .ok (.aload_n 0, 1) := by decide +kernel
theorem dX8_excess_36 : decode cX8_excess 36 = .ok (.getfield 15, 3) := by decide +kernel
theorem dX8_excess_39 : decode cX8_excess 39 = .ok (.getfield 31, 3) := by decide +kernel
theorem dX8_excess_42 : decode cX8_excess 42 = .ok (.iload_n 2, 1) := by decide +kernel
theorem dX8_excess_43 : decode cX8_excess 43 = .ok (.iaload, 1) := by decide +kernel
theorem dX8_excess_44 : decode cX8_excess 44 = .ok (.iload_n 3, 1) := by decide +kernel
theorem dX8_excess_45 : decode cX8_excess 45 = .ok (.iload 4, 2) := by decide +kernel
theorem dX8_excess_47 : decode cX8_excess 47 = .ok (.invokestatic 41, 3) := by decide +kernel
theorem dX8_excess_50 : decode cX8_excess 50 = .ok (.istore 7, 2) := by decide +kernel
theorem dX8_excess_52 : decode cX8_excess 52 = .ok (.aload_n 0, 1) := by decide +kernel
theorem dX8_excess_53 : decode cX8_excess 53 = .ok (.getfield 9, 3) := by decide +kernel
theorem dX8_excess_56 : decode cX8_excess 56 = .ok (.iload 6, 2) := by decide +kernel
theorem dX8_excess_58 : decode cX8_excess 58 = .ok (.iload 7, 2) := by decide +kernel
theorem dX8_excess_60 : decode cX8_excess 60 = .ok (.invokestatic 51, 3) := by decide +kernel
theorem dX8_excess_63 : decode cX8_excess 63 = .ok (.iload 5, 2) := by decide +kernel
theorem dX8_excess_65 : decode cX8_excess 65 = .ok (.invokevirtual 54, 3) := by decide +kernel
theorem dX8_excess_68 : decode cX8_excess 68 = .ok (.istore 8, 2) := by decide +kernel
theorem dX8_excess_70 : decode cX8_excess 70 = .ok (.sipush 1000, 3) := by decide +kernel
theorem dX8_excess_73 : decode cX8_excess 73 = .ok (.iload 8, 2) := by decide +kernel
theorem dX8_excess_75 : decode cX8_excess 75 = .ok (.imul, 1) := by decide +kernel
theorem dX8_excess_76 : decode cX8_excess 76 = .ok (.aload_n 0, 1) := by decide +kernel
theorem dX8_excess_77 : decode cX8_excess 77 = .ok (.getfield 9, 3) := by decide +kernel
theorem dX8_excess_80 : decode cX8_excess 80 = .ok (.getfield 58, 3) := by decide +kernel
theorem dX8_excess_83 : decode cX8_excess 83 = .ok (.iload_n 3, 1) := by decide +kernel
theorem dX8_excess_84 : decode cX8_excess 84 = .ok (.imul, 1) := by decide +kernel
theorem dX8_excess_85 : decode cX8_excess 85 = .ok (.iload 4, 2) := by decide +kernel
theorem dX8_excess_87 : decode cX8_excess 87 = .ok (.iload_n 3, 1) := by decide +kernel
theorem dX8_excess_88 : decode cX8_excess 88 = .ok (.isub, 1) := by decide +kernel
theorem dX8_excess_89 : decode cX8_excess 89 = .ok (.imul, 1) := by decide +kernel
theorem dX8_excess_90 : decode cX8_excess 90 = .ok (.iadd, 1) := by decide +kernel
theorem dX8_excess_91 : decode cX8_excess 91 = .ok (.istore 9, 2) := by decide +kernel
theorem dX8_excess_93 : decode cX8_excess 93 = .ok (.aload_n 0, 1) := by decide +kernel
theorem dX8_excess_94 : decode cX8_excess 94 = .ok (.getfield 15, 3) := by decide +kernel
theorem dX8_excess_97 : decode cX8_excess 97 = .ok (.iload_n 1, 1) := by decide +kernel
theorem dX8_excess_98 : decode cX8_excess 98 = .ok (.iload 5, 2) := by decide +kernel
theorem dX8_excess_100 : decode cX8_excess 100 = .ok (.invokevirtual 61, 3) := by decide +kernel
theorem dX8_excess_103 : decode cX8_excess 103 = .ok (.iload 4, 2) := by decide +kernel
theorem dX8_excess_105 : decode cX8_excess 105 = .ok (.iload_n 3, 1) := by decide +kernel
theorem dX8_excess_106 : decode cX8_excess 106 = .ok (.isub, 1) := by decide +kernel
theorem dX8_excess_107 : decode cX8_excess 107 = .ok (.imul, 1) := by decide +kernel
theorem dX8_excess_108 : decode cX8_excess 108 = .ok (.aload_n 0, 1) := by decide +kernel
theorem dX8_excess_109 : decode cX8_excess 109 = .ok (.getfield 15, 3) := by decide +kernel
theorem dX8_excess_112 : decode cX8_excess 112 = .ok (.iload_n 2, 1) := by decide +kernel
theorem dX8_excess_113 : decode cX8_excess 113 = .ok (.iload 5, 2) := by decide +kernel
theorem dX8_excess_115 : decode cX8_excess 115 = .ok (.invokevirtual 61, 3) := by decide +kernel
theorem dX8_excess_118 : decode cX8_excess 118 = .ok (.iload_n 3, 1) := by decide +kernel
theorem dX8_excess_119 : decode cX8_excess 119 = .ok (.imul, 1) := by decide +kernel
theorem dX8_excess_120 : decode cX8_excess 120 = .ok (.iadd, 1) := by decide +kernel
theorem dX8_excess_121 : decode cX8_excess 121 = .ok (.istore 10, 2) := by decide +kernel
theorem dX8_excess_123 : decode cX8_excess 123 = .ok (.iload 9, 2) := by decide +kernel
theorem dX8_excess_125 : decode cX8_excess 125 = .ok (.iload 4, 2) := by decide +kernel
theorem dX8_excess_127 : decode cX8_excess 127 = .ok (.imul, 1) := by decide +kernel
theorem dX8_excess_128 : decode cX8_excess 128 = .ok (.sipush 1000, 3) := by decide +kernel
theorem dX8_excess_131 : decode cX8_excess 131 = .ok (.iload 10, 2) := by decide +kernel
theorem dX8_excess_133 : decode cX8_excess 133 = .ok (.imul, 1) := by decide +kernel
theorem dX8_excess_134 : decode cX8_excess 134 = .ok (.isub, 1) := by decide +kernel
theorem dX8_excess_135 : decode cX8_excess 135 = .ok (.ireturn, 1) := by decide +kernel
theorem dX8_firstShut_0 : decode cX8_firstShut 0 = .ok (.aload_n 0, 1) := by decide +kernel
theorem dX8_firstShut_1 : decode cX8_firstShut 1 = .ok (.iload_n 1, 1) := by decide +kernel
theorem dX8_firstShut_2 : decode cX8_firstShut 2 = .ok (.iload_n 2, 1) := by decide +kernel
theorem dX8_firstShut_3 : decode cX8_firstShut 3 = .ok (.invokevirtual 38, 3) := by decide +kernel
theorem dX8_firstShut_6 : decode cX8_firstShut 6 = .ok (.istore 4, 2) := by decide +kernel
theorem dX8_firstShut_8 : decode cX8_firstShut 8 = .ok (.iconst 1, 1) := by decide +kernel
theorem dX8_firstShut_9 : decode cX8_firstShut 9 = .ok (.istore 5, 2) := by decide +kernel
theorem dX8_firstShut_11 : decode cX8_firstShut 11 = .ok (.iload 5, 2) := by decide +kernel
theorem dX8_firstShut_13 : decode cX8_firstShut 13 = .ok (.iload 4, 2) := by decide +kernel
theorem dX8_firstShut_15 : decode cX8_firstShut 15 = .ok (.if_icmp .ge 26, 3) := by decide +kernel
theorem dX8_firstShut_18 : decode cX8_firstShut 18 = .ok (.aload_n 0, 1) := by decide +kernel
theorem dX8_firstShut_19 : decode cX8_firstShut 19 = .ok (.iload_n 1, 1) := by decide +kernel
theorem dX8_firstShut_20 : decode cX8_firstShut 20 = .ok (.iload_n 2, 1) := by decide +kernel
theorem dX8_firstShut_21 : decode cX8_firstShut 21 = .ok (.iload 5, 2) := by decide +kernel
theorem dX8_firstShut_23 : decode cX8_firstShut 23 = .ok (.iload 4, 2) := by decide +kernel
theorem dX8_firstShut_25 : decode cX8_firstShut 25 = .ok (.iload_n 3, 1) := by decide +kernel
theorem dX8_firstShut_26 : decode cX8_firstShut 26 = .ok (.invokevirtual 64, 3) := by decide +kernel
theorem dX8_firstShut_29 : decode cX8_firstShut 29 = .ok (.ifCond .le 6, 3) := by decide +kernel
theorem dX8_firstShut_32 : decode cX8_firstShut 32 = .ok (.iload 5, 2) := by decide +kernel
theorem dX8_firstShut_34 : decode cX8_firstShut 34 = .ok (.ireturn, 1) := by decide +kernel
theorem dX8_firstShut_35 : decode cX8_firstShut 35 = .ok (.iinc 5 1, 3) := by decide +kernel
theorem dX8_firstShut_38 : decode cX8_firstShut 38 = .ok (.goto (-27), 3) := by decide +kernel
theorem dX8_firstShut_41 : decode cX8_firstShut 41 = .ok (.iconst 0, 1) := by decide +kernel
theorem dX8_firstShut_42 : decode cX8_firstShut 42 = .ok (.ireturn, 1) := by decide +kernel
theorem dX8_metresLacking_0 : decode cX8_metresLacking 0 = .ok (.aload_n 0, 1) := by decide +kernel
theorem dX8_metresLacking_1 : decode cX8_metresLacking 1 = .ok (.iload_n 1, 1) := by decide +kernel
theorem dX8_metresLacking_2 : decode cX8_metresLacking 2 = .ok (.iload_n 2, 1) := by decide +kernel
theorem dX8_metresLacking_3 : decode cX8_metresLacking 3 = .ok (.invokevirtual 38, 3) := by decide +kernel
theorem dX8_metresLacking_6 : decode cX8_metresLacking 6 = .ok (.istore_n 3, 1) := by decide +kernel
theorem dX8_metresLacking_7 : decode cX8_metresLacking 7 = .ok (.iconst 0, 1) := by decide +kernel
theorem dX8_metresLacking_8 : decode cX8_metresLacking 8 = .ok (.istore 4, 2) := by decide +kernel
theorem dX8_metresLacking_10 : decode cX8_metresLacking 10 = .ok (.iconst 1, 1) := by decide +kernel
theorem dX8_metresLacking_11 : decode cX8_metresLacking 11 = .ok (.istore 5, 2) := by decide +kernel
theorem dX8_metresLacking_13 : decode cX8_metresLacking 13 = .ok (.iload 5, 2) := by decide +kernel
theorem dX8_metresLacking_15 : decode cX8_metresLacking 15 = .ok (.iload_n 3, 1) := by decide +kernel
theorem dX8_metresLacking_16 : decode cX8_metresLacking 16 = .ok (.if_icmp .ge 52, 3) := by decide +kernel
theorem dX8_metresLacking_19 : decode cX8_metresLacking 19 = .ok (.sipush 1000, 3) := by decide +kernel
theorem dX8_metresLacking_22 : decode cX8_metresLacking 22 = .ok (.iload_n 3, 1) := by decide +kernel
theorem dX8_metresLacking_23 : decode cX8_metresLacking 23 = .ok (.iload 5, 2) := by decide +kernel
theorem dX8_metresLacking_25 : decode cX8_metresLacking 25 = .ok (.isub, 1) := by decide +kernel
theorem dX8_metresLacking_26 : decode cX8_metresLacking 26 = .ok (.imul, 1) := by decide +kernel
theorem dX8_metresLacking_27 : decode cX8_metresLacking 27 = .ok (.istore 6, 2) := by decide +kernel
theorem dX8_metresLacking_29 : decode cX8_metresLacking 29 = .ok (.iconst 0, 1) := by decide +kernel
theorem dX8_metresLacking_30 : decode cX8_metresLacking 30 = .ok (.aload_n 0, 1) := by decide +kernel
theorem dX8_metresLacking_31 : decode cX8_metresLacking 31 = .ok (.iload_n 1, 1) := by decide +kernel
theorem dX8_metresLacking_32 : decode cX8_metresLacking 32 = .ok (.iload_n 2, 1) := by decide +kernel
theorem dX8_metresLacking_33 : decode cX8_metresLacking 33 = .ok (.iload 5, 2) := by decide +kernel
theorem dX8_metresLacking_35 : decode cX8_metresLacking 35 = .ok (.iload_n 3, 1) := by decide +kernel
theorem dX8_metresLacking_36 : decode cX8_metresLacking 36 = .ok (.iconst 1, 1) := by decide +kernel
theorem dX8_metresLacking_37 : decode cX8_metresLacking 37 = .ok (.invokevirtual 64, 3) := by decide +kernel
theorem dX8_metresLacking_40 : decode cX8_metresLacking 40 = .ok (.invokestatic 34, 3) := by decide +kernel
theorem dX8_metresLacking_43 : decode cX8_metresLacking 43 = .ok (.istore 7, 2) := by decide +kernel
theorem dX8_metresLacking_45 : decode cX8_metresLacking 45 = .ok (.iload 4, 2) := by decide +kernel
theorem dX8_metresLacking_47 : decode cX8_metresLacking 47 = .ok (.iload 7, 2) := by decide +kernel
theorem dX8_metresLacking_49 : decode cX8_metresLacking 49 = .ok (.iload 6, 2) := by decide +kernel
theorem dX8_metresLacking_51 : decode cX8_metresLacking 51 = .ok (.iadd, 1) := by decide +kernel
theorem dX8_metresLacking_52 : decode cX8_metresLacking 52 = .ok (.iconst 1, 1) := by decide +kernel
theorem dX8_metresLacking_53 : decode cX8_metresLacking 53 = .ok (.isub, 1) := by decide +kernel
theorem dX8_metresLacking_54 : decode cX8_metresLacking 54 = .ok (.iload 6, 2) := by decide +kernel
theorem dX8_metresLacking_56 : decode cX8_metresLacking 56 = .ok (.idiv, 1) := by decide +kernel
theorem dX8_metresLacking_57 : decode cX8_metresLacking 57 = .ok (.invokestatic 34, 3) := by decide +kernel
theorem dX8_metresLacking_60 : decode cX8_metresLacking 60 = .ok (.istore 4, 2) := by decide +kernel
theorem dX8_metresLacking_62 : decode cX8_metresLacking 62 = .ok (.iinc 5 1, 3) := by decide +kernel
theorem dX8_metresLacking_65 : decode cX8_metresLacking 65 = .ok (.goto (-52), 3) := by decide +kernel
theorem dX8_metresLacking_68 : decode cX8_metresLacking 68 = .ok (.iload 4, 2) := by decide +kernel
theorem dX8_metresLacking_70 : decode cX8_metresLacking 70 = .ok (.ireturn, 1) := by decide +kernel
theorem dX8_levelOf_0 : decode cX8_levelOf 0 = .ok (.iload_n 3, 1) := by decide +kernel
theorem dX8_levelOf_1 : decode cX8_levelOf 1 = .ok (.iconst 2, 1) := by decide +kernel
theorem dX8_levelOf_2 : decode cX8_levelOf 2 = .ok (.imul, 1) := by decide +kernel
theorem dX8_levelOf_3 : decode cX8_levelOf 3 = .ok (.iload 4, 2) := by decide +kernel
theorem dX8_levelOf_5 : decode cX8_levelOf 5 = .ok (.iadd, 1) := by decide +kernel
theorem dX8_levelOf_6 : decode cX8_levelOf 6 = .ok (.istore 5, 2) := by decide +kernel
theorem dX8_levelOf_8 : decode cX8_levelOf 8 = .ok (.aload_n 0, 1) := by decide +kernel
theorem dX8_levelOf_9 : decode cX8_levelOf 9 = .ok (.iload_n 1, 1) := by decide +kernel
theorem dX8_levelOf_10 : decode cX8_levelOf 10 = .ok (.iload_n 2, 1) := by decide +kernel
theorem dX8_levelOf_11 : decode cX8_levelOf 11 = .ok (.aload_n 0, 1) := by decide +kernel
theorem dX8_levelOf_12 : decode cX8_levelOf 12 = .ok (.getfield 9, 3) := by decide +kernel
theorem dX8_levelOf_15 : decode cX8_levelOf 15 = .ok (.getfield 68, 3) := by decide +kernel
theorem dX8_levelOf_18 : decode cX8_levelOf 18 = .ok (.iload 5, 2) := by decide +kernel
theorem dX8_levelOf_20 : decode cX8_levelOf 20 = .ok (.iaload, 1) := by decide +kernel
theorem dX8_levelOf_21 : decode cX8_levelOf 21 = .ok (.invokevirtual 71, 3) := by decide +kernel
theorem dX8_levelOf_24 : decode cX8_levelOf 24 = .ok (.ifCond .eq 15, 3) := by decide +kernel
theorem dX8_levelOf_27 : decode cX8_levelOf 27 = .ok (.aload_n 0, 1) := by decide +kernel
theorem dX8_levelOf_28 : decode cX8_levelOf 28 = .ok (.iload_n 1, 1) := by decide +kernel
theorem dX8_levelOf_29 : decode cX8_levelOf 29 = .ok (.iload_n 2, 1) := by decide +kernel
theorem dX8_levelOf_30 : decode cX8_levelOf 30 = .ok (.iconst 1, 1) := by decide +kernel
theorem dX8_levelOf_31 : decode cX8_levelOf 31 = .ok (.invokevirtual 75, 3) := by decide +kernel
theorem dX8_levelOf_34 : decode cX8_levelOf 34 = .ok (.ifCond .ne 5, 3) := by decide +kernel
theorem dX8_levelOf_37 : decode cX8_levelOf 37 = .ok (.iconst 2, 1) := by decide +kernel
theorem dX8_levelOf_38 : decode cX8_levelOf 38 = .ok (.ireturn, 1) := by decide +kernel
theorem dX8_levelOf_39 : decode cX8_levelOf 39 = .ok (.aload_n 0, 1) := by decide +kernel
theorem dX8_levelOf_40 : decode cX8_levelOf 40 = .ok (.iload_n 1, 1) := by decide +kernel
theorem dX8_levelOf_41 : decode cX8_levelOf 41 = .ok (.iload_n 2, 1) := by decide +kernel
theorem dX8_levelOf_42 : decode cX8_levelOf 42 = .ok (.aload_n 0, 1) := by decide +kernel
theorem dX8_levelOf_43 : decode cX8_levelOf 43 = .ok (.getfield 9, 3) := by decide +kernel
theorem dX8_levelOf_46 : decode cX8_levelOf 46 = .ok (.getfield 79, 3) := by decide +kernel
theorem dX8_levelOf_49 : decode cX8_levelOf 49 = .ok (.iload 5, 2) := by decide +kernel
theorem dX8_levelOf_51 : decode cX8_levelOf 51 = .ok (.iaload, 1) := by decide +kernel
theorem dX8_levelOf_52 : decode cX8_levelOf 52 = .ok (.invokevirtual 71, 3) := by decide +kernel
theorem dX8_levelOf_55 : decode cX8_levelOf 55 = .ok (.ifCond .eq 17, 3) := by decide +kernel
theorem dX8_levelOf_58 : decode cX8_levelOf 58 = .ok (.aload_n 0, 1) := by decide +kernel
theorem dX8_levelOf_59 : decode cX8_levelOf 59 = .ok (.iload_n 1, 1) := by decide +kernel
theorem dX8_levelOf_60 : decode cX8_levelOf 60 = .ok (.iload_n 2, 1) := by decide +kernel
theorem dX8_levelOf_61 : decode cX8_levelOf 61 = .ok (.iconst 0, 1) := by decide +kernel
theorem dX8_levelOf_62 : decode cX8_levelOf 62 = .ok (.invokevirtual 75, 3) := by decide +kernel
theorem dX8_levelOf_65 : decode cX8_levelOf 65 = .ok (.ifCond .ne 7, 3) := by decide +kernel
theorem dX8_levelOf_68 : decode cX8_levelOf 68 = .ok (.iconst 1, 1) := by decide +kernel
theorem dX8_levelOf_69 : decode cX8_levelOf 69 = .ok (.goto 4, 3) := by decide +kernel
theorem dX8_levelOf_72 : decode cX8_levelOf 72 = .ok (.iconst 0, 1) := by decide +kernel
theorem dX8_levelOf_73 : decode cX8_levelOf 73 = .ok (.ireturn, 1) := by decide +kernel
theorem dX8_reaches_0 : decode cX8_reaches 0 = .ok (.aload_n 0, 1) := by decide +kernel
theorem dX8_reaches_1 : decode cX8_reaches 1 = .ok (.getfield 15, 3) := by decide +kernel
theorem dX8_reaches_4 : decode cX8_reaches 4 = .ok (.getfield 19, 3) := by decide +kernel
theorem dX8_reaches_7 : decode cX8_reaches 7 = .ok (.iload_n 2, 1) := by decide +kernel
theorem dX8_reaches_8 : decode cX8_reaches 8 = .ok (.iaload, 1) := by decide +kernel
theorem dX8_reaches_9 : decode cX8_reaches 9 = .ok (.aload_n 0, 1) := by decide +kernel
theorem dX8_reaches_10 : decode cX8_reaches 10 = .ok (.getfield 15, 3) := by decide +kernel
theorem dX8_reaches_13 : decode cX8_reaches 13 = .ok (.getfield 19, 3) := by decide +kernel
theorem dX8_reaches_16 : decode cX8_reaches 16 = .ok (.iload_n 1, 1) := by decide +kernel
theorem dX8_reaches_17 : decode cX8_reaches 17 = .ok (.iaload, 1) := by decide +kernel
theorem dX8_reaches_18 : decode cX8_reaches 18 = .ok (.isub, 1) := by decide +kernel
theorem dX8_reaches_19 : decode cX8_reaches 19 = .ok (.istore 4, 2) := by decide +kernel
theorem dX8_reaches_21 : decode cX8_reaches 21 = .ok (.aload_n 0, 1) := by decide +kernel
theorem dX8_reaches_22 : decode cX8_reaches 22 = .ok (.getfield 15, 3) := by decide +kernel
theorem dX8_reaches_25 : decode cX8_reaches 25 = .ok (.getfield 31, 3) := by decide +kernel
theorem dX8_reaches_28 : decode cX8_reaches 28 = .ok (.iload_n 2, 1) := by decide +kernel
theorem dX8_reaches_29 : decode cX8_reaches 29 = .ok (.iaload, 1) := by decide +kernel
theorem dX8_reaches_30 : decode cX8_reaches 30 = .ok (.aload_n 0, 1) := by decide +kernel
theorem dX8_reaches_31 : decode cX8_reaches 31 = .ok (.getfield 15, 3) := by decide +kernel
theorem dX8_reaches_34 : decode cX8_reaches 34 = .ok (.getfield 31, 3) := by decide +kernel
theorem dX8_reaches_37 : decode cX8_reaches 37 = .ok (.iload_n 1, 1) := by decide +kernel
theorem dX8_reaches_38 : decode cX8_reaches 38 = .ok (.iaload, 1) := by decide +kernel
theorem dX8_reaches_39 : decode cX8_reaches 39 = .ok (.isub, 1) := by decide +kernel
theorem dX8_reaches_40 : decode cX8_reaches 40 = .ok (.istore 5, 2) := by decide +kernel
theorem dX8_reaches_42 : decode cX8_reaches 42 = .ok (.iload 4, 2) := by decide +kernel
theorem dX8_reaches_44 : decode cX8_reaches 44 = .ok (.iload 4, 2) := by decide +kernel
theorem dX8_reaches_46 : decode cX8_reaches 46 = .ok (.imul, 1) := by decide +kernel
theorem dX8_reaches_47 : decode cX8_reaches 47 = .ok (.iload 5, 2) := by decide +kernel
theorem dX8_reaches_49 : decode cX8_reaches 49 = .ok (.iload 5, 2) := by decide +kernel
theorem dX8_reaches_51 : decode cX8_reaches 51 = .ok (.imul, 1) := by decide +kernel
theorem dX8_reaches_52 : decode cX8_reaches 52 = .ok (.iadd, 1) := by decide +kernel
theorem dX8_reaches_53 : decode cX8_reaches 53 = .ok (.iload_n 3, 1) := by decide +kernel
theorem dX8_reaches_54 : decode cX8_reaches 54 = .ok (.iload_n 3, 1) := by decide +kernel
theorem dX8_reaches_55 : decode cX8_reaches 55 = .ok (.imul, 1) := by decide +kernel
theorem dX8_reaches_56 : decode cX8_reaches 56 = .ok (.if_icmp .gt 7, 3) := by decide +kernel
theorem dX8_reaches_59 : decode cX8_reaches 59 = .ok (.iconst 1, 1) := by decide +kernel
theorem dX8_reaches_60 : decode cX8_reaches 60 = .ok (.goto 4, 3) := by decide +kernel
theorem dX8_reaches_63 : decode cX8_reaches 63 = .ok (.iconst 0, 1) := by decide +kernel
theorem dX8_reaches_64 : decode cX8_reaches 64 = .ok (.ireturn, 1) := by decide +kernel
theorem dX8_linkOf_0 : decode cX8_linkOf 0 = .ok (.aload_n 0, 1) := by decide +kernel
theorem dX8_linkOf_1 : decode cX8_linkOf 1 = .ok (.iload_n 1, 1) := by decide +kernel
theorem dX8_linkOf_2 : decode cX8_linkOf 2 = .ok (.iload_n 2, 1) := by decide +kernel
theorem dX8_linkOf_3 : decode cX8_linkOf 3 = .ok (.iload_n 3, 1) := by decide +kernel
theorem dX8_linkOf_4 : decode cX8_linkOf 4 = .ok (.iload 4, 2) := by decide +kernel
theorem dX8_linkOf_6 : decode cX8_linkOf 6 = .ok (.invokevirtual 82, 3) := by decide +kernel
theorem dX8_linkOf_9 : decode cX8_linkOf 9 = .ok (.istore 5, 2) := by decide +kernel
theorem dX8_linkOf_11 : decode cX8_linkOf 11 = .ok (.iload 5, 2) := by decide +kernel
theorem dX8_linkOf_13 : decode cX8_linkOf 13 = .ok (.ifCond .ne 7, 3) := by decide +kernel
theorem dX8_linkOf_16 : decode cX8_linkOf 16 = .ok (.iconst 0, 1) := by decide +kernel
theorem dX8_linkOf_17 : decode cX8_linkOf 17 = .ok (.goto 17, 3) := by decide +kernel
theorem dX8_linkOf_20 : decode cX8_linkOf 20 = .ok (.iload 5, 2) := by decide +kernel
theorem dX8_linkOf_22 : decode cX8_linkOf 22 = .ok (.aload_n 0, 1) := by decide +kernel
theorem dX8_linkOf_23 : decode cX8_linkOf 23 = .ok (.iload_n 2, 1) := by decide +kernel
theorem dX8_linkOf_24 : decode cX8_linkOf 24 = .ok (.iload_n 1, 1) := by decide +kernel
theorem dX8_linkOf_25 : decode cX8_linkOf 25 = .ok (.iload_n 3, 1) := by decide +kernel
theorem dX8_linkOf_26 : decode cX8_linkOf 26 = .ok (.iload 4, 2) := by decide +kernel
theorem dX8_linkOf_28 : decode cX8_linkOf 28 = .ok (.invokevirtual 82, 3) := by decide +kernel
theorem dX8_linkOf_31 : decode cX8_linkOf 31 = .ok (.invokestatic 85, 3) := by decide +kernel
theorem dX8_linkOf_34 : decode cX8_linkOf 34 = .ok (.ireturn, 1) := by decide +kernel
theorem dX9_init_0 : decode cX9_init 0 = .ok (.aload_n 0, 1) := by decide +kernel
theorem dX9_init_1 : decode cX9_init 1 = .ok (.invokespecial 3, 3) := by decide +kernel
theorem dX9_init_4 : decode cX9_init 4 = .ok (.aload_n 0, 1) := by decide +kernel
theorem dX9_init_5 : decode cX9_init 5 = .ok (.sipush 256, 3) := by decide +kernel
theorem dX9_init_8 : decode cX9_init 8 = .ok (.newarray .int, 2) := by decide +kernel
theorem dX9_init_10 : decode cX9_init 10 = .ok (.putfield 11, 3) := by decide +kernel
theorem dX9_init_13 : decode cX9_init 13 = .ok (.aload_n 0, 1) := by decide +kernel
theorem dX9_init_14 : decode cX9_init 14 = .ok (.sipush 256, 3) := by decide +kernel
theorem dX9_init_17 : decode cX9_init 17 = .ok (.newarray .int, 2) := by decide +kernel
theorem dX9_init_19 : decode cX9_init 19 = .ok (.putfield 15, 3) := by decide +kernel
theorem dX9_init_22 : decode cX9_init 22 = .ok (.aload_n 0, 1) := by decide +kernel
theorem dX9_init_23 : decode cX9_init 23 = .ok (.iconst 4, 1) := by decide +kernel
theorem dX9_init_24 : decode cX9_init 24 = .ok (.newarray .int, 2) := by decide +kernel
theorem dX9_init_26 : decode cX9_init 26 = .ok (.putfield 18, 3) := by decide +kernel
theorem dX9_init_29 : decode cX9_init 29 = .ok (.aload_n 0, 1) := by decide +kernel
theorem dX9_init_30 : decode cX9_init 30 = .ok (.iconst 4, 1) := by decide +kernel
theorem dX9_init_31 : decode cX9_init 31 = .ok (.newarray .int, 2) := by decide +kernel
theorem dX9_init_33 : decode cX9_init 33 = .ok (.putfield 21, 3) := by decide +kernel
theorem dX9_init_36 : decode cX9_init 36 = .ok (.aload_n 0, 1) := by decide +kernel
theorem dX9_init_37 : decode cX9_init 37 = .ok (.bipush 24, 2) := by decide +kernel
theorem dX9_init_39 : decode cX9_init 39 = .ok (.newarray .int, 2) := by decide +kernel
theorem dX9_init_41 : decode cX9_init 41 = .ok (.putfield 24, 3) := by decide +kernel
theorem dX9_init_44 : decode cX9_init 44 = .ok (.aload_n 0, 1) := by decide +kernel
theorem dX9_init_45 : decode cX9_init 45 = .ok (.bipush 24, 2) := by decide +kernel
theorem dX9_init_47 : decode cX9_init 47 = .ok (.newarray .int, 2) := by decide +kernel
theorem dX9_init_49 : decode cX9_init 49 = .ok (.putfield 27, 3) := by decide +kernel
theorem dX9_init_52 : decode cX9_init 52 = .ok (.aload_n 0, 1) := by decide +kernel
theorem dX9_init_53 : decode cX9_init 53 = .ok (.iconst 4, 1) := by decide +kernel
theorem dX9_init_54 : decode cX9_init 54 = .ok (.putfield 30, 3) := by decide +kernel
theorem dX9_init_57 : decode cX9_init 57 = .ok (.aload_n 0, 1) := by decide +kernel
theorem dX9_init_58 : decode cX9_init 58 = .ok (.iconst 4, 1) := by decide +kernel
theorem dX9_init_59 : decode cX9_init 59 = .ok (.putfield 34, 3) := by decide +kernel
theorem dX9_init_62 : decode cX9_init 62 = .ok (.aload_n 0, 1) := by decide +kernel
theorem dX9_init_63 : decode cX9_init 63 = .ok (.iconst 0, 1) := by decide +kernel
theorem dX9_init_64 : decode cX9_init 64 = .ok (.putfield 37, 3) := by decide +kernel
theorem dX9_init_67 : decode cX9_init 67 = .ok (.aload_n 0, 1) := by decide +kernel
theorem dX9_init_68 : decode cX9_init 68 = .ok (.getfield 24, 3) := by decide +kernel
theorem dX9_init_71 : decode cX9_init 71 = .ok (.bipush 30, 2) := by decide +kernel
theorem dX9_init_73 : decode cX9_init 73 = .ok (.invokestatic 40, 3) := by decide +kernel
theorem dX9_init_76 : decode cX9_init 76 = .ok (.aload_n 0, 1) := by decide +kernel
theorem dX9_init_77 : decode cX9_init 77 = .ok (.getfield 27, 3) := by decide +kernel
theorem dX9_init_80 : decode cX9_init 80 = .ok (.bipush 30, 2) := by decide +kernel
theorem dX9_init_82 : decode cX9_init 82 = .ok (.invokestatic 40, 3) := by decide +kernel
theorem dX9_init_85 : decode cX9_init 85 = .ok (.return_, 1) := by decide +kernel
theorem dX9_renew_0 : decode cX9_renew 0 = .ok (.iload_n 1, 1) := by decide +kernel
theorem dX9_renew_1 : decode cX9_renew 1 = .ok (.iconst 4, 1) := by decide +kernel
theorem dX9_renew_2 : decode cX9_renew 2 = .ok (.if_icmp .lt 20, 3) := by decide +kernel
theorem dX9_renew_5 : decode cX9_renew 5 = .ok (.iload_n 1, 1) := by decide +kernel
theorem dX9_renew_6 : decode cX9_renew 6 = .ok (.bipush 16, 2) := by decide +kernel
theorem dX9_renew_8 : decode cX9_renew 8 = .ok (.if_icmp .gt 14, 3) := by decide +kernel
