theorem dX12_ground_38 : decode cX12_ground 38 = .ok (.if_icmp .ge 27, 3) := by decide +kernel
theorem dX12_ground_41 : decode cX12_ground 41 = .ok (.iload 5, 2) := by decide +kernel
theorem dX12_ground_43 : decode cX12_ground 43 = .ok (.ifCond .lt 22, 3) := by decide +kernel
theorem dX12_ground_46 : decode cX12_ground 46 = .ok (.iload 5, 2) := by decide +kernel
theorem dX12_ground_48 : decode cX12_ground 48 = .ok (.sipush 999, 3) := by decide +kernel
theorem dX12_ground_51 : decode cX12_ground 51 = .ok (.if_icmp .gt 14, 3) := by decide +kernel
theorem dX12_ground_54 : decode cX12_ground 54 = .ok (.iload 6, 2) := by decide +kernel
theorem dX12_ground_56 : decode cX12_ground 56 = .ok (.ifCond .lt 9, 3) := by decide +kernel
theorem dX12_ground_59 : decode cX12_ground 59 = .ok (.iload 6, 2) := by decide +kernel
theorem dX12_ground_61 : decode cX12_ground 61 = .ok (.iconst 3, 1) := by decide +kernel
theorem dX12_ground_62 : decode cX12_ground 62 = .ok (.if_icmp .le 5, 3) := by decide +kernel
theorem dX12_ground_65 : decode cX12_ground 65 = .ok (.iconst 0, 1) := by decide +kernel
theorem dX12_ground_66 : decode cX12_ground 66 = .ok (.ireturn, 1) := by decide +kernel
theorem dX12_ground_67 : decode cX12_ground 67 = .ok (.iload_n 2, 1) := by decide +kernel
theorem dX12_ground_68 : decode cX12_ground 68 = .ok (.istore 7, 2) := by decide +kernel
theorem dX12_ground_70 : decode cX12_ground 70 = .ok (.iload 7, 2) := by decide +kernel
theorem dX12_ground_72 : decode cX12_ground 72 = .ok (.iload 4, 2) := by decide +kernel
theorem dX12_ground_74 : decode cX12_ground 74 = .ok (.if_icmp .gt 58, 3) := by decide +kernel
theorem dX12_ground_77 : decode cX12_ground 77 = .ok (.iload_n 1, 1) := by decide +kernel
theorem dX12_ground_78 : decode cX12_ground 78 = .ok (.istore 8, 2) := by decide +kernel
theorem dX12_ground_80 : decode cX12_ground 80 = .ok (.iload 8, 2) := by decide +kernel
theorem dX12_ground_82 : decode cX12_ground 82 = .ok (.iload_n 3, 1) := by decide +kernel
theorem dX12_ground_83 : decode cX12_ground 83 = .ok (.if_icmp .gt 43, 3) := by decide +kernel
theorem dX12_ground_86 : decode cX12_ground 86 = .ok (.aload_n 0, 1) := by decide +kernel
theorem dX12_ground_87 : decode cX12_ground 87 = .ok (.getfield 16, 3) := by decide +kernel
theorem dX12_ground_90 : decode cX12_ground 90 = .ok (.aload_n 0, 1) := by decide +kernel
theorem dX12_ground_91 : decode cX12_ground 91 = .ok (.getfield 7, 3) := by decide +kernel
theorem dX12_ground_94 : decode cX12_ground 94 = .ok (.iload 7, 2) := by decide +kernel
theorem dX12_ground_96 : decode cX12_ground 96 = .ok (.imul, 1) := by decide +kernel
theorem dX12_ground_97 : decode cX12_ground 97 = .ok (.iload 8, 2) := by decide +kernel
theorem dX12_ground_99 : decode cX12_ground 99 = .ok (.iadd, 1) := by decide +kernel
theorem dX12_ground_100 : decode cX12_ground 100 = .ok (.iload 5, 2) := by decide +kernel
theorem dX12_ground_102 : decode cX12_ground 102 = .ok (.iastore, 1) := by decide +kernel
theorem dX12_ground_103 : decode cX12_ground 103 = .ok (.aload_n 0, 1) := by decide +kernel
theorem dX12_ground_104 : decode cX12_ground 104 = .ok (.getfield 20, 3) := by decide +kernel
theorem dX12_ground_107 : decode cX12_ground 107 = .ok (.aload_n 0, 1) := by decide +kernel
theorem dX12_ground_108 : decode cX12_ground 108 = .ok (.getfield 7, 3) := by decide +kernel
theorem dX12_ground_111 : decode cX12_ground 111 = .ok (.iload 7, 2) := by decide +kernel
theorem dX12_ground_113 : decode cX12_ground 113 = .ok (.imul, 1) := by decide +kernel
theorem dX12_ground_114 : decode cX12_ground 114 = .ok (.iload 8, 2) := by decide +kernel
theorem dX12_ground_116 : decode cX12_ground 116 = .ok (.iadd, 1) := by decide +kernel
theorem dX12_ground_117 : decode cX12_ground 117 = .ok (.iload 6, 2) := by decide +kernel
theorem dX12_ground_119 : decode cX12_ground 119 = .ok (.iastore, 1) := by decide +kernel
theorem dX12_ground_120 : decode cX12_ground 120 = .ok (.iinc 8 1, 3) := by decide +kernel
theorem dX12_ground_123 : decode cX12_ground 123 = .ok (.goto (-43), 3) := by decide +kernel
theorem dX12_ground_126 : decode cX12_ground 126 = .ok (.iinc 7 1, 3) := by decide +kernel
theorem dX12_ground_129 : decode cX12_ground 129 = .ok (.goto (-59), 3) := by decide +kernel
theorem dX12_ground_132 : decode cX12_ground 132 = .ok (.iconst 1, 1) := by decide +kernel
theorem dX12_ground_133 : decode cX12_ground 133 = .ok (.ireturn, 1) := by decide +kernel
theorem dX12_trees_0 : decode cX12_trees 0 = .ok (.aload_n 0, 1) := by decide +kernel
theorem dX12_trees_1 : decode cX12_trees 1 = .ok (.iconst 0, 1) := by decide +kernel
theorem dX12_trees_2 : decode cX12_trees 2 = .ok (.putfield 224, 3) := by decide +kernel
theorem dX12_trees_5 : decode cX12_trees 5 = .ok (.iload_n 1, 1) := by decide +kernel
theorem dX12_trees_6 : decode cX12_trees 6 = .ok (.iconst 1, 1) := by decide +kernel
theorem dX12_trees_7 : decode cX12_trees 7 = .ok (.if_icmp .lt 23, 3) := by decide +kernel
theorem dX12_trees_10 : decode cX12_trees 10 = .ok (.iload_n 1, 1) := by decide +kernel
theorem dX12_trees_11 : decode cX12_trees 11 = .ok (.iconst 3, 1) := by decide +kernel
theorem dX12_trees_12 : decode cX12_trees 12 = .ok (.if_icmp .gt 18, 3) := by decide +kernel
theorem dX12_trees_15 : decode cX12_trees 15 = .ok (.iload_n 2, 1) := by decide +kernel
theorem dX12_trees_16 : decode cX12_trees 16 = .ok (.ifCond .lt 14, 3) := by decide +kernel
theorem dX12_trees_19 : decode cX12_trees 19 = .ok (.iload_n 2, 1) := by decide +kernel
theorem dX12_trees_20 : decode cX12_trees 20 = .ok (.iload_n 3, 1) := by decide +kernel
theorem dX12_trees_21 : decode cX12_trees 21 = .ok (.if_icmp .gt 9, 3) := by decide +kernel
theorem dX12_trees_24 : decode cX12_trees 24 = .ok (.iload_n 3, 1) := by decide +kernel
theorem dX12_trees_25 : decode cX12_trees 25 = .ok (.bipush 60, 2) := by decide +kernel
theorem dX12_trees_27 : decode cX12_trees 27 = .ok (.if_icmp .le 5, 3) := by decide +kernel
theorem dX12_trees_30 : decode cX12_trees 30 = .ok (.iconst 0, 1) := by decide +kernel
theorem dX12_trees_31 : decode cX12_trees 31 = .ok (.ireturn, 1) := by decide +kernel
theorem dX12_trees_32 : decode cX12_trees 32 = .ok (.aload_n 0, 1) := by decide +kernel
theorem dX12_trees_33 : decode cX12_trees 33 = .ok (.getfield 23, 3) := by decide +kernel
theorem dX12_trees_36 : decode cX12_trees 36 = .ok (.iload_n 1, 1) := by decide +kernel
theorem dX12_trees_37 : decode cX12_trees 37 = .ok (.iload_n 2, 1) := by decide +kernel
theorem dX12_trees_38 : decode cX12_trees 38 = .ok (.iastore, 1) := by decide +kernel
theorem dX12_trees_39 : decode cX12_trees 39 = .ok (.aload_n 0, 1) := by decide +kernel
theorem dX12_trees_40 : decode cX12_trees 40 = .ok (.getfield 26, 3) := by decide +kernel
theorem dX12_trees_43 : decode cX12_trees 43 = .ok (.iload_n 1, 1) := by decide +kernel
theorem dX12_trees_44 : decode cX12_trees 44 = .ok (.iload_n 3, 1) := by decide +kernel
theorem dX12_trees_45 : decode cX12_trees 45 = .ok (.iastore, 1) := by decide +kernel
theorem dX12_trees_46 : decode cX12_trees 46 = .ok (.iconst 1, 1) := by decide +kernel
theorem dX12_trees_47 : decode cX12_trees 47 = .ok (.ireturn, 1) := by decide +kernel
theorem dX12_bend_0 : decode cX12_bend 0 = .ok (.aload_n 0, 1) := by decide +kernel
theorem dX12_bend_1 : decode cX12_bend 1 = .ok (.iconst 0, 1) := by decide +kernel
theorem dX12_bend_2 : decode cX12_bend 2 = .ok (.putfield 224, 3) := by decide +kernel
theorem dX12_bend_5 : decode cX12_bend 5 = .ok (.iload_n 1, 1) := by decide +kernel
theorem dX12_bend_6 : decode cX12_bend 6 = .ok (.ifCond .lt 10, 3) := by decide +kernel
theorem dX12_bend_9 : decode cX12_bend 9 = .ok (.iload_n 1, 1) := by decide +kernel
theorem dX12_bend_10 : decode cX12_bend 10 = .ok (.sipush 999, 3) := by decide +kernel
theorem dX12_bend_13 : decode cX12_bend 13 = .ok (.if_icmp .le 5, 3) := by decide +kernel
theorem dX12_bend_16 : decode cX12_bend 16 = .ok (.iconst 0, 1) := by decide +kernel
theorem dX12_bend_17 : decode cX12_bend 17 = .ok (.ireturn, 1) := by decide +kernel
theorem dX12_bend_18 : decode cX12_bend 18 = .ok (.aload_n 0, 1) := by decide +kernel
theorem dX12_bend_19 : decode cX12_bend 19 = .ok (.iload_n 1, 1) := by decide +kernel
theorem dX12_bend_20 : decode cX12_bend 20 = .ok (.putfield 243, 3) := by decide +kernel
theorem dX12_bend_23 : decode cX12_bend 23 = .ok (.iconst 1, 1) := by decide +kernel
theorem dX12_bend_24 : decode cX12_bend 24 = .ok (.ireturn, 1) := by decide +kernel
theorem dX12_isTime_0 : decode cX12_isTime 0 = .ok (.iload_n 0, 1) := by decide +kernel
theorem dX12_isTime_1 : decode cX12_isTime 1 = .ok (.ifCond .lt 22, 3) := by decide +kernel
theorem dX12_isTime_4 : decode cX12_isTime 4 = .ok (.iload_n 0, 1) := by decide +kernel
theorem dX12_isTime_5 : decode cX12_isTime 5 = .ok (.bipush 11, 2) := by decide +kernel
theorem dX12_isTime_7 : decode cX12_isTime 7 = .ok (.if_icmp .gt 16, 3) := by decide +kernel
theorem dX12_isTime_10 : decode cX12_isTime 10 = .ok (.iload_n 1, 1) := by decide +kernel
theorem dX12_isTime_11 : decode cX12_isTime 11 = .ok (.ifCond .lt 12, 3) := by decide +kernel
theorem dX12_isTime_14 : decode cX12_isTime 14 = .ok (.iload_n 1, 1) := by decide +kernel
theorem dX12_isTime_15 : decode cX12_isTime 15 = .ok (.iconst 1, 1) := by decide +kernel
theorem dX12_isTime_16 : decode cX12_isTime 16 = .ok (.if_icmp .gt 7, 3) := by decide +kernel
theorem dX12_isTime_19 : decode cX12_isTime 19 = .ok (.iconst 1, 1) := by decide +kernel
theorem dX12_isTime_20 : decode cX12_isTime 20 = .ok (.goto 4, 3) := by decide +kernel
theorem dX12_isTime_23 : decode cX12_isTime 23 = .ok (.iconst 0, 1) := by decide +kernel
theorem dX12_isTime_24 : decode cX12_isTime 24 = .ok (.ireturn, 1) := by decide +kernel
theorem dX12_haze_0 : decode cX12_haze 0 = .ok (.aload_n 0, 1) := by decide +kernel
theorem dX12_haze_1 : decode cX12_haze 1 = .ok (.iconst 0, 1) := by decide +kernel
theorem dX12_haze_2 : decode cX12_haze 2 = .ok (.putfield 224, 3) := by decide +kernel
theorem dX12_haze_5 : decode cX12_haze 5 = .ok (.iload_n 1, 1) := by decide +kernel
theorem dX12_haze_6 : decode cX12_haze 6 = .ok (.iload_n 2, 1) := by decide +kernel
theorem dX12_haze_7 : decode cX12_haze 7 = .ok (.invokestatic 246, 3) := by decide +kernel
theorem dX12_haze_10 : decode cX12_haze 10 = .ok (.ifCond .eq 20, 3) := by decide +kernel
theorem dX12_haze_13 : decode cX12_haze 13 = .ok (.iload_n 3, 1) := by decide +kernel
theorem dX12_haze_14 : decode cX12_haze 14 = .ok (.ifCond .lt 16, 3) := by decide +kernel
theorem dX12_haze_17 : decode cX12_haze 17 = .ok (.iload_n 3, 1) := by decide +kernel
theorem dX12_haze_18 : decode cX12_haze 18 = .ok (.iload 4, 2) := by decide +kernel
theorem dX12_haze_20 : decode cX12_haze 20 = .ok (.if_icmp .gt 10, 3) := by decide +kernel
theorem dX12_haze_23 : decode cX12_haze 23 = .ok (.iload 4, 2) := by decide +kernel
theorem dX12_haze_25 : decode cX12_haze 25 = .ok (.bipush 30, 2) := by decide +kernel
theorem dX12_haze_27 : decode cX12_haze 27 = .ok (.if_icmp .le 5, 3) := by decide +kernel
theorem dX12_haze_30 : decode cX12_haze 30 = .ok (.iconst 0, 1) := by decide +kernel
theorem dX12_haze_31 : decode cX12_haze 31 = .ok (.ireturn, 1) := by decide +kernel
theorem dX12_haze_32 : decode cX12_haze 32 = .ok (.aload_n 0, 1) := by decide +kernel
theorem dX12_haze_33 : decode cX12_haze 33 = .ok (.getfield 29, 3) := by decide +kernel
theorem dX12_haze_36 : decode cX12_haze 36 = .ok (.iconst 2, 1) := by decide +kernel
theorem dX12_haze_37 : decode cX12_haze 37 = .ok (.iload_n 1, 1) := by decide +kernel
theorem dX12_haze_38 : decode cX12_haze 38 = .ok (.imul, 1) := by decide +kernel
theorem dX12_haze_39 : decode cX12_haze 39 = .ok (.iload_n 2, 1) := by decide +kernel
theorem dX12_haze_40 : decode cX12_haze 40 = .ok (.iadd, 1) := by decide +kernel
theorem dX12_haze_41 : decode cX12_haze 41 = .ok (.iload_n 3, 1) := by decide +kernel
theorem dX12_haze_42 : decode cX12_haze 42 = .ok (.iastore, 1) := by decide +kernel
theorem dX12_haze_43 : decode cX12_haze 43 = .ok (.aload_n 0, 1) := by decide +kernel
theorem dX12_haze_44 : decode cX12_haze 44 = .ok (.getfield 32, 3) := by decide +kernel
theorem dX12_haze_47 : decode cX12_haze 47 = .ok (.iconst 2, 1) := by decide +kernel
theorem dX12_haze_48 : decode cX12_haze 48 = .ok (.iload_n 1, 1) := by decide +kernel
theorem dX12_haze_49 : decode cX12_haze 49 = .ok (.imul, 1) := by decide +kernel
theorem dX12_haze_50 : decode cX12_haze 50 = .ok (.iload_n 2, 1) := by decide +kernel
theorem dX12_haze_51 : decode cX12_haze 51 = .ok (.iadd, 1) := by decide +kernel
theorem dX12_haze_52 : decode cX12_haze 52 = .ok (.iload 4, 2) := by decide +kernel
theorem dX12_haze_54 : decode cX12_haze 54 = .ok (.iastore, 1) := by decide +kernel
theorem dX12_haze_55 : decode cX12_haze 55 = .ok (.iconst 1, 1) := by decide +kernel
theorem dX12_haze_56 : decode cX12_haze 56 = .ok (.ireturn, 1) := by decide +kernel
theorem dX12_post_0 : decode cX12_post 0 = .ok (.aload_n 0, 1) := by decide +kernel
theorem dX12_post_1 : decode cX12_post 1 = .ok (.iconst 0, 1) := by decide +kernel
theorem dX12_post_2 : decode cX12_post 2 = .ok (.putfield 224, 3) := by decide +kernel
theorem dX12_post_5 : decode cX12_post 5 = .ok (.iload_n 1, 1) := by decide +kernel
theorem dX12_post_6 : decode cX12_post 6 = .ok (.ifCond .lt 62, 3) := by decide +kernel
theorem dX12_post_9 : decode cX12_post 9 = .ok (.iload_n 1, 1) := by decide +kernel
theorem dX12_post_10 : decode cX12_post 10 = .ok (.aload_n 0, 1) := by decide +kernel
theorem dX12_post_11 : decode cX12_post 11 = .ok (.getfield 7, 3) := by decide +kernel
theorem dX12_post_14 : decode cX12_post 14 = .ok (.if_icmp .ge 54, 3) := by decide +kernel
theorem dX12_post_17 : decode cX12_post 17 = .ok (.iload_n 2, 1) := by decide +kernel
theorem dX12_post_18 : decode cX12_post 18 = .ok (.ifCond .lt 50, 3) := by decide +kernel
theorem dX12_post_21 : decode cX12_post 21 = .ok (.iload_n 2, 1) := by decide +kernel
theorem dX12_post_22 : decode cX12_post 22 = .ok (.aload_n 0, 1) := by decide +kernel
theorem dX12_post_23 : decode cX12_post 23 = .ok (.getfield 13, 3) := by decide +kernel
theorem dX12_post_26 : decode cX12_post 26 = .ok (.if_icmp .ge 42, 3) := by decide +kernel
theorem dX12_post_29 : decode cX12_post 29 = .ok (.iload_n 3, 1) := by decide +kernel
theorem dX12_post_30 : decode cX12_post 30 = .ok (.iconst 1, 1) := by decide +kernel
theorem dX12_post_31 : decode cX12_post 31 = .ok (.if_icmp .lt 37, 3) := by decide +kernel
theorem dX12_post_34 : decode cX12_post 34 = .ok (.iload_n 3, 1) := by decide +kernel
theorem dX12_post_35 : decode cX12_post 35 = .ok (.iload 4, 2) := by decide +kernel
theorem dX12_post_37 : decode cX12_post 37 = .ok (.if_icmp .gt 31, 3) := by decide +kernel
theorem dX12_post_40 : decode cX12_post 40 = .ok (.iload 4, 2) := by decide +kernel
theorem dX12_post_42 : decode cX12_post 42 = .ok (.bipush 40, 2) := by decide +kernel
theorem dX12_post_44 : decode cX12_post 44 = .ok (.if_icmp .gt 24, 3) := by decide +kernel
theorem dX12_post_47 : decode cX12_post 47 = .ok (.iload 6, 2) := by decide +kernel
theorem dX12_post_49 : decode cX12_post 49 = .ok (.ifCond .lt 19, 3) := by decide +kernel
theorem dX12_post_52 : decode cX12_post 52 = .ok (.iload 6, 2) := by decide +kernel
theorem dX12_post_54 : decode cX12_post 54 = .ok (.bipush 50, 2) := by decide +kernel
theorem dX12_post_56 : decode cX12_post 56 = .ok (.if_icmp .gt 12, 3) := by decide +kernel
theorem dX12_post_59 : decode cX12_post 59 = .ok (.aload_n 0, 1) := by decide +kernel
theorem dX12_post_60 : decode cX12_post 60 = .ok (.getfield 227, 3) := by decide +kernel
theorem dX12_post_63 : decode cX12_post 63 = .ok (.bipush 12, 2) := by decide +kernel
theorem dX12_post_65 : decode cX12_post 65 = .ok (.if_icmp .ne 5, 3) := by decide +kernel
theorem dX12_post_68 : decode cX12_post 68 = .ok (.iconst (-1), 1) := by decide +kernel
theorem dX12_post_69 : decode cX12_post 69 = .ok (.ireturn, 1) := by decide +kernel
theorem dX12_post_70 : decode cX12_post 70 = .ok (.iconst 0, 1) := by decide +kernel
theorem dX12_post_71 : decode cX12_post 71 = .ok (.istore 7, 2) := by decide +kernel
theorem dX12_post_73 : decode cX12_post 73 = .ok (.iload 7, 2) := by decide +kernel
theorem dX12_post_75 : decode cX12_post 75 = .ok (.aload_n 0, 1) := by decide +kernel
theorem dX12_post_76 : decode cX12_post 76 = .ok (.getfield 227, 3) := by decide +kernel
theorem dX12_post_79 : decode cX12_post 79 = .ok (.if_icmp .ge 33, 3) := by decide +kernel
theorem dX12_post_82 : decode cX12_post 82 = .ok (.aload_n 0, 1) := by decide +kernel
theorem dX12_post_83 : decode cX12_post 83 = .ok (.getfield 35, 3) := by decide +kernel
theorem dX12_post_86 : decode cX12_post 86 = .ok (.iload 7, 2) := by decide +kernel
theorem dX12_post_88 : decode cX12_post 88 = .ok (.iaload, 1) := by decide +kernel
theorem dX12_post_89 : decode cX12_post 89 = .ok (.iload_n 1, 1) := by decide +kernel
theorem dX12_post_90 : decode cX12_post 90 = .ok (.if_icmp .ne 16, 3) := by decide +kernel
theorem dX12_post_93 : decode cX12_post 93 = .ok (.aload_n 0, 1) := by decide +kernel
theorem dX12_post_94 : decode cX12_post 94 = .ok (.getfield 38, 3) := by decide +kernel
theorem dX12_post_97 : decode cX12_post 97 = .ok (.iload 7, 2) := by decide +kernel
theorem dX12_post_99 : decode cX12_post 99 = .ok (.iaload, 1) := by decide +kernel
theorem dX12_post_100 : decode cX12_post 100 = .ok (.iload_n 2, 1) := by decide +kernel
theorem dX12_post_101 : decode cX12_post 101 = .ok (.if_icmp .ne 5, 3) := by decide +kernel
theorem dX12_post_104 : decode cX12_post 104 = .ok (.iconst (-1), 1) := by decide +kernel
theorem dX12_post_105 : decode cX12_post 105 = .ok (.ireturn, 1) := by decide +kernel
theorem dX12_post_106 : decode cX12_post 106 = .ok (.iinc 7 1, 3) := by decide +kernel
theorem dX12_post_109 : decode cX12_post 109 = .ok (.goto (-36), 3) := by decide +kernel
theorem dX12_post_112 : decode cX12_post 112 = .ok (.aload_n 0, 1) := by decide +kernel
theorem dX12_post_113 : decode cX12_post 113 = .ok (.getfield 35, 3) := by decide +kernel
theorem dX12_post_116 : decode cX12_post 116 = .ok (.aload_n 0, 1) := by decide +kernel
theorem dX12_post_117 : decode cX12_post 117 = .ok (.getfield 227, 3) := by decide +kernel
theorem dX12_post_120 : decode cX12_post 120 = .ok (.iload_n 1, 1) := by decide +kernel
theorem dX12_post_121 : decode cX12_post 121 = .ok (.iastore, 1) := by decide +kernel
theorem dX12_post_122 : decode cX12_post 122 = .ok (.aload_n 0, 1) := by decide +kernel
theorem dX12_post_123 : decode cX12_post 123 = .ok (.getfield 38, 3) := by decide +kernel
theorem dX12_post_126 : decode cX12_post 126 = .ok (.aload_n 0, 1) := by decide +kernel
theorem dX12_post_127 : decode cX12_post 127 = .ok (.getfield 227, 3) := by decide +kernel
theorem dX12_post_130 : decode cX12_post 130 = .ok (.iload_n 2, 1) := by decide +kernel
theorem dX12_post_131 : decode cX12_post 131 = .ok (.iastore, 1) := by decide +kernel
theorem dX12_post_132 : decode cX12_post 132 = .ok (.aload_n 0, 1) := by decide +kernel
theorem dX12_post_133 : decode cX12_post 133 = .ok (.getfield 41, 3) := by decide +kernel
theorem dX12_post_136 : decode cX12_post 136 = .ok (.aload_n 0, 1) := by decide +kernel
theorem dX12_post_137 : decode cX12_post 137 = .ok (.getfield 227, 3) := by decide +kernel
theorem dX12_post_140 : decode cX12_post 140 = .ok (.iload_n 3, 1) := by decide +kernel
theorem dX12_post_141 : decode cX12_post 141 = .ok (.iastore, 1) := by decide +kernel
theorem dX12_post_142 : decode cX12_post 142 = .ok (.aload_n 0, 1) := by decide +kernel
theorem dX12_post_143 : decode cX12_post 143 = .ok (.getfield 44, 3) := by decide +kernel
theorem dX12_post_146 : decode cX12_post 146 = .ok (.aload_n 0, 1) := by decide +kernel
theorem dX12_post_147 : decode cX12_post 147 = .ok (.getfield 227, 3) := by decide +kernel
theorem dX12_post_150 : decode cX12_post 150 = .ok (.iload 4, 2) := by decide +kernel
theorem dX12_post_152 : decode cX12_post 152 = .ok (.iastore, 1) := by decide +kernel
theorem dX12_post_153 : decode cX12_post 153 = .ok (.aload_n 0, 1) := by decide +kernel
theorem dX12_post_154 : decode cX12_post 154 = .ok (.getfield 47, 3) := by decide +kernel
theorem dX12_post_157 : decode cX12_post 157 = .ok (.aload_n 0, 1) := by decide +kernel
theorem dX12_post_158 : decode cX12_post 158 = .ok (.getfield 227, 3) := by decide +kernel
theorem dX12_post_161 : decode cX12_post 161 = .ok (.iload 5, 2) := by decide +kernel
theorem dX12_post_163 : decode cX12_post 163 = .ok (.ifCond .eq 7, 3) := by decide +kernel
theorem dX12_post_166 : decode cX12_post 166 = .ok (.iconst 0, 1) := by decide +kernel
theorem dX12_post_167 : decode cX12_post 167 = .ok (.goto 4, 3) := by decide +kernel
theorem dX12_post_170 : decode cX12_post 170 = .ok (.iconst 1, 1) := by decide +kernel
theorem dX12_post_171 : decode cX12_post 171 = .ok (.iastore, 1) := by decide +kernel
theorem dX12_post_172 : decode cX12_post 172 = .ok (.aload_n 0, 1) := by decide +kernel
theorem dX12_post_173 : decode cX12_post 173 = .ok (.getfield 50, 3) := by decide +kernel
theorem dX12_post_176 : decode cX12_post 176 = .ok (.aload_n 0, 1) := by decide +kernel
theorem dX12_post_177 : decode cX12_post 177 = .ok (.getfield 227, 3) := by decide +kernel
theorem dX12_post_180 : decode cX12_post 180 = .ok (.iload 6, 2) := by decide +kernel
theorem dX12_post_182 : decode cX12_post 182 = .ok (.iastore, 1) := by decide +kernel
theorem dX12_post_183 : decode cX12_post 183 = .ok (.aload_n 0, 1) := by decide +kernel
theorem dX12_post_184 : decode cX12_post 184 = .ok (.getfield 53, 3) := by decide +kernel
theorem dX12_post_187 : decode cX12_post 187 = .ok (.aload_n 0, 1) := by decide +kernel
theorem dX12_post_188 : decode cX12_post 188 = .ok (.getfield 227, 3) := by decide +kernel
theorem dX12_post_191 : decode cX12_post 191 = .ok (.iconst 0, 1) := by decide +kernel
theorem dX12_post_192 : decode cX12_post 192 = .ok (.iastore, 1) := by decide +kernel
theorem dX12_post_193 : decode cX12_post 193 = .ok (.aload_n 0, 1) := by decide +kernel
theorem dX12_post_194 : decode cX12_post 194 = .ok (.dup, 1) := by decide +kernel
theorem dX12_post_195 : decode cX12_post 195 = .ok (.getfield 227, 3) := by decide +kernel
theorem dX12_post_198 : decode cX12_post 198 = .ok (.iconst 1, 1) := by decide +kernel
theorem dX12_post_199 : decode cX12_post 199 = .ok (.iadd, 1) := by decide +kernel
theorem dX12_post_200 : decode cX12_post 200 = .ok (.putfield 227, 3) := by decide +kernel
theorem dX12_post_203 : decode cX12_post 203 = .ok (.aload_n 0, 1) := by decide +kernel
theorem dX12_post_204 : decode cX12_post 204 = .ok (.getfield 227, 3) := by decide +kernel
theorem dX12_post_207 : decode cX12_post 207 = .ok (.iconst 1, 1) := by decide +kernel
theorem dX12_post_208 : decode cX12_post 208 = .ok (.isub, 1) := by decide +kernel
theorem dX12_post_209 : decode cX12_post 209 = .ok (.ireturn, 1) := by decide +kernel
theorem dX12_isPost_0 : decode cX12_isPost 0 = .ok (.iload_n 1, 1) := by decide +kernel
theorem dX12_isPost_1 : decode cX12_isPost 1 = .ok (.ifCond .lt 15, 3) := by decide +kernel
theorem dX12_isPost_4 : decode cX12_isPost 4 = .ok (.iload_n 1, 1) := by decide +kernel
theorem dX12_isPost_5 : decode cX12_isPost 5 = .ok (.aload_n 0, 1) := by decide +kernel
theorem dX12_isPost_6 : decode cX12_isPost 6 = .ok (.getfield 227, 3) := by decide +kernel
theorem dX12_isPost_9 : decode cX12_isPost 9 = .ok (.if_icmp .ge 7, 3) := by decide +kernel
theorem dX12_isPost_12 : decode cX12_isPost 12 = .ok (.iconst 1, 1) := by decide +kernel
theorem dX12_isPost_13 : decode cX12_isPost 13 = .ok (.goto 4, 3) := by decide +kernel
theorem dX12_isPost_16 : decode cX12_isPost 16 = .ok (.iconst 0, 1) := by decide +kernel
theorem dX12_isPost_17 : decode cX12_isPost 17 = .ok (.ireturn, 1) := by decide +kernel
theorem dX12_stands_0 : decode cX12_stands 0 = .ok (.aload_n 0, 1) := by decide +kernel
theorem dX12_stands_1 : decode cX12_stands 1 = .ok (.iload_n 1, 1) := by decide +kernel
theorem dX12_stands_2 : decode cX12_stands 2 = .ok (.invokevirtual 250, 3) := by decide +kernel
theorem dX12_stands_5 : decode cX12_stands 5 = .ok (.ifCond .eq 17, 3) := by decide +kernel
theorem dX12_stands_8 : decode cX12_stands 8 = .ok (.aload_n 0, 1) := by decide +kernel
theorem dX12_stands_9 : decode cX12_stands 9 = .ok (.getfield 47, 3) := by decide +kernel
theorem dX12_stands_12 : decode cX12_stands 12 = .ok (.iload_n 1, 1) := by decide +kernel
theorem dX12_stands_13 : decode cX12_stands 13 = .ok (.iaload, 1) := by decide +kernel
theorem dX12_stands_14 : decode cX12_stands 14 = .ok (.iconst 2, 1) := by decide +kernel
theorem dX12_stands_15 : decode cX12_stands 15 = .ok (.if_icmp .eq 7, 3) := by decide +kernel
theorem dX12_stands_18 : decode cX12_stands 18 = .ok (.iconst 1, 1) := by decide +kernel
theorem dX12_stands_19 : decode cX12_stands 19 = .ok (.goto 4, 3) := by decide +kernel
theorem dX12_stands_22 : decode cX12_stands 22 = .ok (.iconst 0, 1) := by decide +kernel
theorem dX12_stands_23 : decode cX12_stands 23 = .ok (.ireturn, 1) := by decide +kernel
theorem dX12_cut_0 : decode cX12_cut 0 = .ok (.iload_n 0, 1) := by decide +kernel
theorem dX12_cut_1 : decode cX12_cut 1 = .ok (.iload_n 1, 1) := by decide +kernel
theorem dX12_cut_2 : decode cX12_cut 2 = .ok (.idiv, 1) := by decide +kernel
theorem dX12_cut_3 : decode cX12_cut 3 = .ok (.istore_n 2, 1) := by decide +kernel
theorem dX12_cut_4 : decode cX12_cut 4 = .ok (.iload_n 0, 1) := by decide +kernel
theorem dX12_cut_5 : decode cX12_cut 5 = .ok (.iload_n 1, 1) := by decide +kernel
theorem dX12_cut_6 : decode cX12_cut 6 = .ok (.irem, 1) := by decide +kernel
theorem dX12_cut_7 : decode cX12_cut 7 = .ok (.ifCond .ge 9, 3) := by decide +kernel
theorem dX12_cut_10 : decode cX12_cut 10 = .ok (.iload_n 2, 1) := by decide +kernel
theorem dX12_cut_11 : decode cX12_cut 11 = .ok (.iconst 1, 1) := by decide +kernel
theorem dX12_cut_12 : decode cX12_cut 12 = .ok (.isub, 1) := by decide +kernel
theorem dX12_cut_13 : decode cX12_cut 13 = .ok (.goto 4, 3) := by decide +kernel
theorem dX12_cut_16 : decode cX12_cut 16 = .ok (.iload_n 2, 1) := by decide +kernel
theorem dX12_cut_17 : decode cX12_cut 17 = .ok (.ireturn, 1) := by decide +kernel
theorem dX12_cellOf_0 : decode cX12_cellOf 0 = .ok (.aload_n 0, 1) := by decide +kernel
theorem dX12_cellOf_1 : decode cX12_cellOf 1 = .ok (.getfield 7, 3) := by decide +kernel
theorem dX12_cellOf_4 : decode cX12_cellOf 4 = .ok (.aload_n 0, 1) := by decide +kernel
theorem dX12_cellOf_5 : decode cX12_cellOf 5 = .ok (.getfield 38, 3) := by decide +kernel
theorem dX12_cellOf_8 : decode cX12_cellOf 8 = .ok (.iload_n 1, 1) := by decide +kernel
theorem dX12_cellOf_9 : decode cX12_cellOf 9 = .ok (.iaload, 1) := by decide +kernel
theorem dX12_cellOf_10 : decode cX12_cellOf 10 = .ok (.imul, 1) := by decide +kernel
theorem dX12_cellOf_11 : decode cX12_cellOf 11 = .ok (.aload_n 0, 1) := by decide +kernel
theorem dX12_cellOf_12 : decode cX12_cellOf 12 = .ok (.getfield 35, 3) := by decide +kernel
theorem dX12_cellOf_15 : decode cX12_cellOf 15 = .ok (.iload_n 1, 1) := by decide +kernel
theorem dX12_cellOf_16 : decode cX12_cellOf 16 = .ok (.iaload, 1) := by decide +kernel
theorem dX12_cellOf_17 : decode cX12_cellOf 17 = .ok (.iadd, 1) := by decide +kernel
theorem dX12_cellOf_18 : decode cX12_cellOf 18 = .ok (.ireturn, 1) := by decide +kernel
theorem dX12_spanOf_0 : decode cX12_spanOf 0 = .ok (.aload_n 0, 1) := by decide +kernel
theorem dX12_spanOf_1 : decode cX12_spanOf 1 = .ok (.getfield 35, 3) := by decide +kernel
theorem dX12_spanOf_4 : decode cX12_spanOf 4 = .ok (.iload_n 2, 1) := by decide +kernel
theorem dX12_spanOf_5 : decode cX12_spanOf 5 = .ok (.iaload, 1) := by decide +kernel
theorem dX12_spanOf_6 : decode cX12_spanOf 6 = .ok (.aload_n 0, 1) := by decide +kernel
theorem dX12_spanOf_7 : decode cX12_spanOf 7 = .ok (.getfield 35, 3) := by decide +kernel
theorem dX12_spanOf_10 : decode cX12_spanOf 10 = .ok (.iload_n 1, 1) := by decide +kernel
theorem dX12_spanOf_11 : decode cX12_spanOf 11 = .ok (.iaload, 1) := by decide +kernel
theorem dX12_spanOf_12 : decode cX12_spanOf 12 = .ok (.isub, 1) := by decide +kernel
theorem dX12_spanOf_13 : decode cX12_spanOf 13 = .ok (.invokestatic 254, 3) := by decide +kernel
theorem dX12_spanOf_16 : decode cX12_spanOf 16 = .ok (.aload_n 0, 1) := by decide +kernel
theorem dX12_spanOf_17 : decode cX12_spanOf 17 = .ok (.getfield 38, 3) := by decide +kernel
theorem dX12_spanOf_20 : decode cX12_spanOf 20 = .ok (.iload_n 2, 1) := by decide +kernel
theorem dX12_spanOf_21 : decode cX12_spanOf 21 = .ok (.iaload, 1) := by decide +kernel
theorem dX12_spanOf_22 : decode cX12_spanOf 22 = .ok (.aload_n 0, 1) := by decide +kernel
theorem dX12_spanOf_23 : decode cX12_spanOf 23 = .ok (.getfield 38, 3) := by decide +kernel
theorem dX12_spanOf_26 : decode cX12_spanOf 26 = .ok (.iload_n 1, 1) := by decide +kernel
theorem dX12_spanOf_27 : decode cX12_spanOf 27 = .ok (.iaload, 1) := by decide +kernel
theorem dX12_spanOf_28 : decode cX12_spanOf 28 = .ok (.isub, 1) := by decide +kernel
theorem dX12_spanOf_29 : decode cX12_spanOf 29 = .ok (.invokestatic 254, 3) := by decide +kernel
theorem dX12_spanOf_32 : decode cX12_spanOf 32 = .ok (.invokestatic 260, 3) := by decide +kernel
theorem dX12_spanOf_35 : decode cX12_spanOf 35 = .ok (.ireturn, 1) := by decide +kernel
theorem dX12_cellAt_0 : decode cX12_cellAt 0 = .ok (.aload_n 0, 1) := by decide +kernel
theorem dX12_cellAt_1 : decode cX12_cellAt 1 = .ok (.iload_n 1, 1) := by decide +kernel
theorem dX12_cellAt_2 : decode cX12_cellAt 2 = .ok (.iload_n 2, 1) := by decide +kernel
theorem dX12_cellAt_3 : decode cX12_cellAt 3 = .ok (.invokevirtual 264, 3) := by decide +kernel
theorem dX12_cellAt_6 : decode cX12_cellAt 6 = .ok (.istore 4, 2) := by decide +kernel
theorem dX12_cellAt_8 : decode cX12_cellAt 8 = .ok (.aload_n 0, 1) := by decide +kernel
theorem dX12_cellAt_9 : decode cX12_cellAt 9 = .ok (.getfield 35, 3) := by decide +kernel
theorem dX12_cellAt_12 : decode cX12_cellAt 12 = .ok (.iload_n 1, 1) := by decide +kernel
theorem dX12_cellAt_13 : decode cX12_cellAt 13 = .ok (.iaload, 1) := by decide +kernel
theorem dX12_cellAt_14 : decode cX12_cellAt 14 = .ok (.iconst 2, 1) := by decide +kernel
theorem dX12_cellAt_15 : decode cX12_cellAt 15 = .ok (.aload_n 0, 1) := by decide +kernel
theorem dX12_cellAt_16 : decode cX12_cellAt 16 = .ok (.getfield 35, 3) := by decide +kernel
theorem dX12_cellAt_19 : decode cX12_cellAt 19 = .ok (.iload_n 2, 1) := by decide +kernel
theorem dX12_cellAt_20 : decode cX12_cellAt 20 = .ok (.iaload, 1) := by decide +kernel
theorem dX12_cellAt_21 : decode cX12_cellAt 21 = .ok (.aload_n 0, 1) := by decide +kernel
theorem dX12_cellAt_22 : decode cX12_cellAt 22 = .ok (.getfield 35, 3) := by decide +kernel
theorem dX12_cellAt_25 : decode cX12_cellAt 25 = .ok (.iload_n 1, 1) := by decide +kernel
theorem dX12_cellAt_26 : decode cX12_cellAt 26 = .ok (.iaload, 1) := by decide +kernel
theorem dX12_cellAt_27 : decode cX12_cellAt 27 = .ok (.isub, 1) := by decide +kernel
theorem dX12_cellAt_28 : decode cX12_cellAt 28 = .ok (.imul, 1) := by decide +kernel
theorem dX12_cellAt_29 : decode cX12_cellAt 29 = .ok (.iload_n 3, 1) := by decide +kernel
theorem dX12_cellAt_30 : decode cX12_cellAt 30 = .ok (.imul, 1) := by decide +kernel
theorem dX12_cellAt_31 : decode cX12_cellAt 31 = .ok (.iload 4, 2) := by decide +kernel
theorem dX12_cellAt_33 : decode cX12_cellAt 33 = .ok (.iadd, 1) := by decide +kernel
theorem dX12_cellAt_34 : decode cX12_cellAt 34 = .ok (.iconst 2, 1) := by decide +kernel
theorem dX12_cellAt_35 : decode cX12_cellAt 35 = .ok (.iload 4, 2) := by decide +kernel
theorem dX12_cellAt_37 : decode cX12_cellAt 37 = .ok (.imul, 1) := by decide +kernel
theorem dX12_cellAt_38 : decode cX12_cellAt 38 = .ok (.invokestatic 267, 3) := by decide +kernel
theorem dX12_cellAt_41 : decode cX12_cellAt 41 = .ok (.iadd, 1) := by decide +kernel
theorem dX12_cellAt_42 : decode cX12_cellAt 42 = .ok (.istore 5, 2) := by decide +kernel
theorem dX12_cellAt_44 : decode cX12_cellAt 44 = .ok (.aload_n 0, 1) := by decide +kernel
theorem dX12_cellAt_45 : decode cX12_cellAt 45 = .ok (.getfield 38, 3) := by decide +kernel
theorem dX12_cellAt_48 : decode cX12_cellAt 48 = .ok (.iload_n 1, 1) := by decide +kernel
theorem dX12_cellAt_49 : decode cX12_cellAt 49 = .ok (.iaload, 1) := by decide +kernel
theorem dX12_cellAt_50 : decode cX12_cellAt 50 = .ok (.iconst 2, 1) := by decide +kernel
theorem dX12_cellAt_51 : decode cX12_cellAt 51 = .ok (.aload_n 0, 1) := by decide +kernel
theorem dX12_cellAt_52 : decode cX12_cellAt 52 = .ok (.getfield 38, 3) := by decide +kernel
theorem dX12_cellAt_55 : decode cX12_cellAt 55 = .ok (.iload_n 2, 1) := by decide +kernel
theorem dX12_cellAt_56 : decode cX12_cellAt 56 = .ok (.iaload, 1) := by decide +kernel
theorem dX12_cellAt_57 : decode cX12_cellAt 57 = .ok (.aload_n 0, 1) := by decide +kernel
theorem dX12_cellAt_58 : decode cX12_cellAt 58 = .ok (.getfield 38, 3) := by decide +kernel
theorem dX12_cellAt_61 : decode cX12_cellAt 61 = .ok (.iload_n 1, 1) := by decide +kernel
theorem dX12_cellAt_62 : decode cX12_cellAt 62 = .ok (.iaload, 1) := by decide +kernel
theorem dX12_cellAt_63 : decode cX12_cellAt 63 = .ok (.isub, 1) := by decide +kernel
theorem dX12_cellAt_64 : decode cX12_cellAt 64 = .ok (.imul, 1) := by decide +kernel
theorem dX12_cellAt_65 : decode cX12_cellAt 65 = .ok (.iload_n 3, 1) := by decide +kernel
theorem dX12_cellAt_66 : decode cX12_cellAt 66 = .ok (.imul, 1) := by decide +kernel
theorem dX12_cellAt_67 : decode cX12_cellAt 67 = .ok (.iload 4, 2) := by decide +kernel
theorem dX12_cellAt_69 : decode cX12_cellAt 69 = .ok (.iadd, 1) := by decide +kernel
theorem dX12_cellAt_70 : decode cX12_cellAt 70 = .ok (.iconst 2, 1) := by decide +kernel
theorem dX12_cellAt_71 : decode cX12_cellAt 71 = .ok (.iload 4, 2) := by decide +kernel
theorem dX12_cellAt_73 : decode cX12_cellAt 73 = .ok (.imul, 1) := by decide +kernel
theorem dX12_cellAt_74 : decode cX12_cellAt 74 = .ok (.invokestatic 267, 3) := by decide +kernel
theorem dX12_cellAt_77 : decode cX12_cellAt 77 = .ok (.iadd, 1) := by decide +kernel
theorem dX12_cellAt_78 : decode cX12_cellAt 78 = .ok (.istore 6, 2) := by decide +kernel
theorem dX12_cellAt_80 : decode cX12_cellAt 80 = .ok (.aload_n 0, 1) := by decide +kernel
theorem dX12_cellAt_81 : decode cX12_cellAt 81 = .ok (.getfield 7, 3) := by decide +kernel
theorem dX12_cellAt_84 : decode cX12_cellAt 84 = .ok (.iload 6, 2) := by decide +kernel
theorem dX12_cellAt_86 : decode cX12_cellAt 86 = .ok (.imul, 1) := by decide +kernel
theorem dX12_cellAt_87 : decode cX12_cellAt 87 = .ok (.iload 5, 2) := by decide +kernel
theorem dX12_cellAt_89 : decode cX12_cellAt 89 = .ok (.iadd, 1) := by decide +kernel
theorem dX12_cellAt_90 : decode cX12_cellAt 90 = .ok (.ireturn, 1) := by decide +kernel
theorem dX12_topAt_0 : decode cX12_topAt 0 = .ok (.aload_n 0, 1) := by decide +kernel
theorem dX12_topAt_1 : decode cX12_topAt 1 = .ok (.iload_n 1, 1) := by decide +kernel
theorem dX12_topAt_2 : decode cX12_topAt 2 = .ok (.iload_n 2, 1) := by decide +kernel
theorem dX12_topAt_3 : decode cX12_topAt 3 = .ok (.iload_n 3, 1) := by decide +kernel
theorem dX12_topAt_4 : decode cX12_topAt 4 = .ok (.invokevirtual 270, 3) := by decide +kernel
theorem dX12_topAt_7 : decode cX12_topAt 7 = .ok (.istore 5, 2) := by decide +kernel
theorem dX12_topAt_9 : decode cX12_topAt 9 = .ok (.sipush 1000, 3) := by decide +kernel
theorem dX12_topAt_12 : decode cX12_topAt 12 = .ok (.aload_n 0, 1) := by decide +kernel
theorem dX12_topAt_13 : decode cX12_topAt 13 = .ok (.getfield 16, 3) := by decide +kernel
theorem dX12_topAt_16 : decode cX12_topAt 16 = .ok (.iload 5, 2) := by decide +kernel
theorem dX12_topAt_18 : decode cX12_topAt 18 = .ok (.iaload, 1) := by decide +kernel
theorem dX12_topAt_19 : decode cX12_topAt 19 = .ok (.iload 4, 2) := by decide +kernel
theorem dX12_topAt_21 : decode cX12_topAt 21 = .ok (.ifCond .eq 18, 3) := by decide +kernel
theorem dX12_topAt_24 : decode cX12_topAt 24 = .ok (.aload_n 0, 1) := by decide +kernel
theorem dX12_topAt_25 : decode cX12_topAt 25 = .ok (.getfield 26, 3) := by decide +kernel
theorem dX12_topAt_28 : decode cX12_topAt 28 = .ok (.aload_n 0, 1) := by decide +kernel
theorem dX12_topAt_29 : decode cX12_topAt 29 = .ok (.getfield 20, 3) := by decide +kernel
theorem dX12_topAt_32 : decode cX12_topAt 32 = .ok (.iload 5, 2) := by decide +kernel
theorem dX12_topAt_34 : decode cX12_topAt 34 = .ok (.iaload, 1) := by decide +kernel
theorem dX12_topAt_35 : decode cX12_topAt 35 = .ok (.iaload, 1) := by decide +kernel
theorem dX12_topAt_36 : decode cX12_topAt 36 = .ok (.goto 15, 3) := by decide +kernel
theorem dX12_topAt_39 : decode cX12_topAt 39 = .ok (.aload_n 0, 1) := by decide +kernel
theorem dX12_topAt_40 : decode cX12_topAt 40 = .ok (.getfield 23, 3) := by decide +kernel
theorem dX12_topAt_43 : decode cX12_topAt 43 = .ok (.aload_n 0, 1) := by decide +kernel
theorem dX12_topAt_44 : decode cX12_topAt 44 = .ok (.getfield 20, 3) := by decide +kernel
theorem dX12_topAt_47 : decode cX12_topAt 47 = .ok (.iload 5, 2) := by decide +kernel
theorem dX12_topAt_49 : decode cX12_topAt 49 = .ok (.iaload, 1) := by decide +kernel
theorem dX12_topAt_50 : decode cX12_topAt 50 = .ok (.iaload, 1) := by decide +kernel
theorem dX12_topAt_51 : decode cX12_topAt 51 = .ok (.iadd, 1) := by decide +kernel
theorem dX12_topAt_52 : decode cX12_topAt 52 = .ok (.imul, 1) := by decide +kernel
theorem dX12_topAt_53 : decode cX12_topAt 53 = .ok (.aload_n 0, 1) := by decide +kernel
theorem dX12_topAt_54 : decode cX12_topAt 54 = .ok (.getfield 243, 3) := by decide +kernel
theorem dX12_topAt_57 : decode cX12_topAt 57 = .ok (.iload_n 3, 1) := by decide +kernel
theorem dX12_topAt_58 : decode cX12_topAt 58 = .ok (.imul, 1) := by decide +kernel
theorem dX12_topAt_59 : decode cX12_topAt 59 = .ok (.aload_n 0, 1) := by decide +kernel
theorem dX12_topAt_60 : decode cX12_topAt 60 = .ok (.iload_n 1, 1) := by decide +kernel
theorem dX12_topAt_61 : decode cX12_topAt 61 = .ok (.iload_n 2, 1) := by decide +kernel
theorem dX12_topAt_62 : decode cX12_topAt 62 = .ok (.invokevirtual 264, 3) := by decide +kernel
theorem dX12_topAt_65 : decode cX12_topAt 65 = .ok (.iload_n 3, 1) := by decide +kernel
theorem dX12_topAt_66 : decode cX12_topAt 66 = .ok (.isub, 1) := by decide +kernel
theorem dX12_topAt_67 : decode cX12_topAt 67 = .ok (.imul, 1) := by decide +kernel
theorem dX12_topAt_68 : decode cX12_topAt 68 = .ok (.iadd, 1) := by decide +kernel
theorem dX12_topAt_69 : decode cX12_topAt 69 = .ok (.ireturn, 1) := by decide +kernel
theorem dX12_eye_0 : decode cX12_eye 0 = .ok (.aload_n 0, 1) := by decide +kernel
theorem dX12_eye_1 : decode cX12_eye 1 = .ok (.getfield 16, 3) := by decide +kernel
theorem dX12_eye_4 : decode cX12_eye 4 = .ok (.aload_n 0, 1) := by decide +kernel
theorem dX12_eye_5 : decode cX12_eye 5 = .ok (.iload_n 1, 1) := by decide +kernel
theorem dX12_eye_6 : decode cX12_eye 6 = .ok (.invokevirtual 274, 3) := by decide +kernel
theorem dX12_eye_9 : decode cX12_eye 9 = .ok (.iaload, 1) := by decide +kernel
theorem dX12_eye_10 : decode cX12_eye 10 = .ok (.iload_n 2, 1) := by decide +kernel
theorem dX12_eye_11 : decode cX12_eye 11 = .ok (.ifCond .eq 12, 3) := by decide +kernel
theorem dX12_eye_14 : decode cX12_eye 14 = .ok (.aload_n 0, 1) := by decide +kernel
theorem dX12_eye_15 : decode cX12_eye 15 = .ok (.getfield 41, 3) := by decide +kernel
theorem dX12_eye_18 : decode cX12_eye 18 = .ok (.iload_n 1, 1) := by decide +kernel
theorem dX12_eye_19 : decode cX12_eye 19 = .ok (.iaload, 1) := by decide +kernel
theorem dX12_eye_20 : decode cX12_eye 20 = .ok (.goto 9, 3) := by decide +kernel
theorem dX12_eye_23 : decode cX12_eye 23 = .ok (.aload_n 0, 1) := by decide +kernel
theorem dX12_eye_24 : decode cX12_eye 24 = .ok (.getfield 44, 3) := by decide +kernel
theorem dX12_eye_27 : decode cX12_eye 27 = .ok (.iload_n 1, 1) := by decide +kernel
theorem dX12_eye_28 : decode cX12_eye 28 = .ok (.iaload, 1) := by decide +kernel
theorem dX12_eye_29 : decode cX12_eye 29 = .ok (.iadd, 1) := by decide +kernel
theorem dX12_eye_30 : decode cX12_eye 30 = .ok (.ireturn, 1) := by decide +kernel
theorem dX12_blockOf_0 : decode cX12_blockOf 0 = .ok (.aload_n 0, 1) := by decide +kernel
theorem dX12_blockOf_1 : decode cX12_blockOf 1 = .ok (.iload_n 1, 1) := by decide +kernel
theorem dX12_blockOf_2 : decode cX12_blockOf 2 = .ok (.iload_n 2, 1) := by decide +kernel
theorem dX12_blockOf_3 : decode cX12_blockOf 3 = .ok (.invokevirtual 264, 3) := by decide +kernel
theorem dX12_blockOf_6 : decode cX12_blockOf 6 = .ok (.istore 4, 2) := by decide +kernel
theorem dX12_blockOf_8 : decode cX12_blockOf 8 = .ok (.iconst 1, 1) := by decide +kernel
theorem dX12_blockOf_9 : decode cX12_blockOf 9 = .ok (.istore 5, 2) := by decide +kernel
theorem dX12_blockOf_11 : decode cX12_blockOf 11 = .ok (.iload 5, 2) := by decide +kernel
theorem dX12_blockOf_13 : decode cX12_blockOf 13 = .ok (.iload 4, 2) := by decide +kernel
theorem dX12_blockOf_15 : decode cX12_blockOf 15 = .ok (.if_icmp .ge 67, 3) := by decide +kernel
theorem dX12_blockOf_18 : decode cX12_blockOf 18 = .ok (.ldc2_w 277, 3) := by decide +kernel
theorem dX12_blockOf_21 : decode cX12_blockOf 21 = .ok (.aload_n 0, 1) := by decide +kernel
theorem dX12_blockOf_22 : decode cX12_blockOf 22 = .ok (.iload_n 1, 1) := by decide +kernel
theorem dX12_blockOf_23 : decode cX12_blockOf 23 = .ok (.iload_n 3, 1) := by decide +kernel
theorem dX12_blockOf_24 : decode cX12_blockOf 24 = .ok (.invokevirtual 279, 3) := by decide +kernel
theorem dX12_blockOf_27 : decode cX12_blockOf 27 = .ok (.iload 4, 2) := by decide +kernel
theorem dX12_blockOf_29 : decode cX12_blockOf 29 = .ok (.iload 5, 2) := by decide +kernel
theorem dX12_blockOf_31 : decode cX12_blockOf 31 = .ok (.isub, 1) := by decide +kernel
theorem dX12_blockOf_32 : decode cX12_blockOf 32 = .ok (.imul, 1) := by decide +kernel
theorem dX12_blockOf_33 : decode cX12_blockOf 33 = .ok (.aload_n 0, 1) := by decide +kernel
theorem dX12_blockOf_34 : decode cX12_blockOf 34 = .ok (.iload_n 2, 1) := by decide +kernel
theorem dX12_blockOf_35 : decode cX12_blockOf 35 = .ok (.iload_n 3, 1) := by decide +kernel
theorem dX12_blockOf_36 : decode cX12_blockOf 36 = .ok (.invokevirtual 279, 3) := by decide +kernel
theorem dX12_blockOf_39 : decode cX12_blockOf 39 = .ok (.iload 5, 2) := by decide +kernel
theorem dX12_blockOf_41 : decode cX12_blockOf 41 = .ok (.imul, 1) := by decide +kernel
theorem dX12_blockOf_42 : decode cX12_blockOf 42 = .ok (.iadd, 1) := by decide +kernel
theorem dX12_blockOf_43 : decode cX12_blockOf 43 = .ok (.i2l, 1) := by decide +kernel
theorem dX12_blockOf_44 : decode cX12_blockOf 44 = .ok (.lmul, 1) := by decide +kernel
theorem dX12_blockOf_45 : decode cX12_blockOf 45 = .ok (.lstore 6, 2) := by decide +kernel
theorem dX12_blockOf_47 : decode cX12_blockOf 47 = .ok (.aload_n 0, 1) := by decide +kernel
theorem dX12_blockOf_48 : decode cX12_blockOf 48 = .ok (.iload_n 1, 1) := by decide +kernel
theorem dX12_blockOf_49 : decode cX12_blockOf 49 = .ok (.iload_n 2, 1) := by decide +kernel
theorem dX12_blockOf_50 : decode cX12_blockOf 50 = .ok (.iload 5, 2) := by decide +kernel
theorem dX12_blockOf_52 : decode cX12_blockOf 52 = .ok (.iload_n 3, 1) := by decide +kernel
theorem dX12_blockOf_53 : decode cX12_blockOf 53 = .ok (.invokevirtual 283, 3) := by decide +kernel
theorem dX12_blockOf_56 : decode cX12_blockOf 56 = .ok (.i2l, 1) := by decide +kernel
theorem dX12_blockOf_57 : decode cX12_blockOf 57 = .ok (.iload 4, 2) := by decide +kernel
theorem dX12_blockOf_59 : decode cX12_blockOf 59 = .ok (.i2l, 1) := by decide +kernel
theorem dX12_blockOf_60 : decode cX12_blockOf 60 = .ok (.lmul, 1) := by decide +kernel
theorem dX12_blockOf_61 : decode cX12_blockOf 61 = .ok (.lload 6, 2) := by decide +kernel
theorem dX12_blockOf_63 : decode cX12_blockOf 63 = .ok (.lcmp, 1) := by decide +kernel
theorem dX12_blockOf_64 : decode cX12_blockOf 64 = .ok (.ifCond .le 12, 3) := by decide +kernel
theorem dX12_blockOf_67 : decode cX12_blockOf 67 = .ok (.aload_n 0, 1) := by decide +kernel
theorem dX12_blockOf_68 : decode cX12_blockOf 68 = .ok (.iload_n 1, 1) := by decide +kernel
theorem dX12_blockOf_69 : decode cX12_blockOf 69 = .ok (.iload_n 2, 1) := by decide +kernel
theorem dX12_blockOf_70 : decode cX12_blockOf 70 = .ok (.iload 5, 2) := by decide +kernel
theorem dX12_blockOf_72 : decode cX12_blockOf 72 = .ok (.invokevirtual 270, 3) := by decide +kernel
theorem dX12_blockOf_75 : decode cX12_blockOf 75 = .ok (.ireturn, 1) := by decide +kernel
theorem dX12_blockOf_76 : decode cX12_blockOf 76 = .ok (.iinc 5 1, 3) := by decide +kernel
theorem dX12_blockOf_79 : decode cX12_blockOf 79 = .ok (.goto (-68), 3) := by decide +kernel
theorem dX12_blockOf_82 : decode cX12_blockOf 82 = .ok (.iconst (-1), 1) := by decide +kernel
theorem dX12_blockOf_83 : decode cX12_blockOf 83 = .ok (.ireturn, 1) := by decide +kernel
theorem dX12_isNear_0 : decode cX12_isNear 0 = .ok (.aload_n 0, 1) := by decide +kernel
theorem dX12_isNear_1 : decode cX12_isNear 1 = .ok (.getfield 35, 3) := by decide +kernel
theorem dX12_isNear_4 : decode cX12_isNear 4 = .ok (.iload_n 2, 1) := by decide +kernel
theorem dX12_isNear_5 : decode cX12_isNear 5 = .ok (.iaload, 1) := by decide +kernel
theorem dX12_isNear_6 : decode cX12_isNear 6 = .ok (.aload_n 0, 1) := by decide +kernel
theorem dX12_isNear_7 : decode cX12_isNear 7 = .ok (.getfield 35, 3) := by decide +kernel
theorem dX12_isNear_10 : decode cX12_isNear 10 = .ok (.iload_n 1, 1) := by decide +kernel
theorem dX12_isNear_11 : decode cX12_isNear 11 = .ok (.iaload, 1) := by decide +kernel
theorem dX12_isNear_12 : decode cX12_isNear 12 = .ok (.isub, 1) := by decide +kernel
theorem dX12_isNear_13 : decode cX12_isNear 13 = .ok (.istore 4, 2) := by decide +kernel
theorem dX12_isNear_15 : decode cX12_isNear 15 = .ok (.aload_n 0, 1) := by decide +kernel
theorem dX12_isNear_16 : decode cX12_isNear 16 = .ok (.getfield 38, 3) := by decide +kernel
theorem dX12_isNear_19 : decode cX12_isNear 19 = .ok (.iload_n 2, 1) := by decide +kernel
theorem dX12_isNear_20 : decode cX12_isNear 20 = .ok (.iaload, 1) := by decide +kernel
theorem dX12_isNear_21 : decode cX12_isNear 21 = .ok (.aload_n 0, 1) := by decide +kernel
theorem dX12_isNear_22 : decode cX12_isNear 22 = .ok (.getfield 38, 3) := by decide +kernel
theorem dX12_isNear_25 : decode cX12_isNear 25 = .ok (.iload_n 1, 1) := by decide +kernel
theorem dX12_isNear_26 : decode cX12_isNear 26 = .ok (.iaload, 1) := by decide +kernel
theorem dX12_isNear_27 : decode cX12_isNear 27 = .ok (.isub, 1) := by decide +kernel
theorem dX12_isNear_28 : decode cX12_isNear 28 = .ok (.istore 5, 2) := by decide +kernel
theorem dX12_isNear_30 : decode cX12_isNear 30 = .ok (.iload 4, 2) := by decide +kernel
theorem dX12_isNear_32 : decode cX12_isNear 32 = .ok (.iload 4, 2) := by decide +kernel
theorem dX12_isNear_34 : decode cX12_isNear 34 = .ok (.imul, 1) := by decide +kernel
theorem dX12_isNear_35 : decode cX12_isNear 35 = .ok (.iload 5, 2) := by decide +kernel
theorem dX12_isNear_37 : decode cX12_isNear 37 = .ok (.iload 5, 2) := by decide +kernel
theorem dX12_isNear_39 : decode cX12_isNear 39 = .ok (.imul, 1) := by decide +kernel
theorem dX12_isNear_40 : decode cX12_isNear 40 = .ok (.iadd, 1) := by decide +kernel
theorem dX12_isNear_41 : decode cX12_isNear 41 = .ok (.iload_n 3, 1) := by decide +kernel
theorem dX12_isNear_42 : decode cX12_isNear 42 = .ok (.iload_n 3, 1) := by decide +kernel
theorem dX12_isNear_43 : decode cX12_isNear 43 = .ok (.imul, 1) := by decide +kernel
theorem dX12_isNear_44 : decode cX12_isNear 44 = .ok (.if_icmp .gt 7, 3) := by decide +kernel
theorem dX12_isNear_47 : decode cX12_isNear 47 = .ok (.iconst 1, 1) := by decide +kernel
theorem dX12_isNear_48 : decode cX12_isNear 48 = .ok (.goto 4, 3) := by decide +kernel
theorem dX12_isNear_51 : decode cX12_isNear 51 = .ok (.iconst 0, 1) := by decide +kernel
theorem dX12_isNear_52 : decode cX12_isNear 52 = .ok (.ireturn, 1) := by decide +kernel
theorem dX12_sightOf_0 : decode cX12_sightOf 0 = .ok (.aload_n 0, 1) := by decide +kernel
theorem dX12_sightOf_1 : decode cX12_sightOf 1 = .ok (.iload_n 1, 1) := by decide +kernel
theorem dX12_sightOf_2 : decode cX12_sightOf 2 = .ok (.iload_n 2, 1) := by decide +kernel
theorem dX12_sightOf_3 : decode cX12_sightOf 3 = .ok (.aload_n 0, 1) := by decide +kernel
theorem dX12_sightOf_4 : decode cX12_sightOf 4 = .ok (.getfield 29, 3) := by decide +kernel
theorem dX12_sightOf_7 : decode cX12_sightOf 7 = .ok (.iconst 2, 1) := by decide +kernel
theorem dX12_sightOf_8 : decode cX12_sightOf 8 = .ok (.iload_n 3, 1) := by decide +kernel
theorem dX12_sightOf_9 : decode cX12_sightOf 9 = .ok (.imul, 1) := by decide +kernel
theorem dX12_sightOf_10 : decode cX12_sightOf 10 = .ok (.iload 4, 2) := by decide +kernel
theorem dX12_sightOf_12 : decode cX12_sightOf 12 = .ok (.iadd, 1) := by decide +kernel
theorem dX12_sightOf_13 : decode cX12_sightOf 13 = .ok (.iaload, 1) := by decide +kernel
theorem dX12_sightOf_14 : decode cX12_sightOf 14 = .ok (.invokevirtual 287, 3) := by decide +kernel
theorem dX12_sightOf_17 : decode cX12_sightOf 17 = .ok (.ifCond .eq 16, 3) := by decide +kernel
theorem dX12_sightOf_20 : decode cX12_sightOf 20 = .ok (.aload_n 0, 1) := by decide +kernel
theorem dX12_sightOf_21 : decode cX12_sightOf 21 = .ok (.iload_n 1, 1) := by decide +kernel
theorem dX12_sightOf_22 : decode cX12_sightOf 22 = .ok (.iload_n 2, 1) := by decide +kernel
theorem dX12_sightOf_23 : decode cX12_sightOf 23 = .ok (.iconst 1, 1) := by decide +kernel
theorem dX12_sightOf_24 : decode cX12_sightOf 24 = .ok (.invokevirtual 291, 3) := by decide +kernel
theorem dX12_sightOf_27 : decode cX12_sightOf 27 = .ok (.iconst (-1), 1) := by decide +kernel
theorem dX12_sightOf_28 : decode cX12_sightOf 28 = .ok (.if_icmp .ne 5, 3) := by decide +kernel
theorem dX12_sightOf_31 : decode cX12_sightOf 31 = .ok (.iconst 2, 1) := by decide +kernel
theorem dX12_sightOf_32 : decode cX12_sightOf 32 = .ok (.ireturn, 1) := by decide +kernel
theorem dX12_sightOf_33 : decode cX12_sightOf 33 = .ok (.aload_n 0, 1) := by decide +kernel
theorem dX12_sightOf_34 : decode cX12_sightOf 34 = .ok (.iload_n 1, 1) := by decide +kernel
theorem dX12_sightOf_35 : decode cX12_sightOf 35 = .ok (.iload_n 2, 1) := by decide +kernel
theorem dX12_sightOf_36 : decode cX12_sightOf 36 = .ok (.aload_n 0, 1) := by decide +kernel
theorem dX12_sightOf_37 : decode cX12_sightOf 37 = .ok (.getfield 32, 3) := by decide +kernel
theorem dX12_sightOf_40 : decode cX12_sightOf 40 = .ok (.iconst 2, 1) := by decide +kernel
theorem dX12_sightOf_41 : decode cX12_sightOf 41 = .ok (.iload_n 3, 1) := by decide +kernel
theorem dX12_sightOf_42 : decode cX12_sightOf 42 = .ok (.imul, 1) := by decide +kernel
theorem dX12_sightOf_43 : decode cX12_sightOf 43 = .ok (.iload 4, 2) := by decide +kernel
theorem dX12_sightOf_45 : decode cX12_sightOf 45 = .ok (.iadd, 1) := by decide +kernel
theorem dX12_sightOf_46 : decode cX12_sightOf 46 = .ok (.iaload, 1) := by decide +kernel
theorem dX12_sightOf_47 : decode cX12_sightOf 47 = .ok (.invokevirtual 287, 3) := by decide +kernel
theorem dX12_sightOf_50 : decode cX12_sightOf 50 = .ok (.ifCond .eq 18, 3) := by decide +kernel
theorem dX12_sightOf_53 : decode cX12_sightOf 53 = .ok (.aload_n 0, 1) := by decide +kernel
theorem dX12_sightOf_54 : decode cX12_sightOf 54 = .ok (.iload_n 1, 1) := by decide +kernel
theorem dX12_sightOf_55 : decode cX12_sightOf 55 = .ok (.iload_n 2, 1) := by decide +kernel
theorem dX12_sightOf_56 : decode cX12_sightOf 56 = .ok (.iconst 0, 1) := by decide +kernel
theorem dX12_sightOf_57 : decode cX12_sightOf 57 = .ok (.invokevirtual 291, 3) := by decide +kernel
theorem dX12_sightOf_60 : decode cX12_sightOf 60 = .ok (.iconst (-1), 1) := by decide +kernel
theorem dX12_sightOf_61 : decode cX12_sightOf 61 = .ok (.if_icmp .ne 7, 3) := by decide +kernel
theorem dX12_sightOf_64 : decode cX12_sightOf 64 = .ok (.iconst 1, 1) := by decide +kernel
theorem dX12_sightOf_65 : decode cX12_sightOf 65 = .ok (.goto 4, 3) := by decide +kernel
theorem dX12_sightOf_68 : decode cX12_sightOf 68 = .ok (.iconst 0, 1) := by decide +kernel
theorem dX12_sightOf_69 : decode cX12_sightOf 69 = .ok (.ireturn, 1) := by decide +kernel
theorem dX12_areTwo_0 : decode cX12_areTwo 0 = .ok (.aload_n 0, 1) := by decide +kernel
theorem dX12_areTwo_1 : decode cX12_areTwo 1 = .ok (.iload_n 1, 1) := by decide +kernel
theorem dX12_areTwo_2 : decode cX12_areTwo 2 = .ok (.invokevirtual 295, 3) := by decide +kernel
theorem dX12_areTwo_5 : decode cX12_areTwo 5 = .ok (.ifCond .eq 20, 3) := by decide +kernel
theorem dX12_areTwo_8 : decode cX12_areTwo 8 = .ok (.aload_n 0, 1) := by decide +kernel
theorem dX12_areTwo_9 : decode cX12_areTwo 9 = .ok (.iload_n 2, 1) := by decide +kernel
theorem dX12_areTwo_10 : decode cX12_areTwo 10 = .ok (.invokevirtual 295, 3) := by decide +kernel
theorem dX12_areTwo_13 : decode cX12_areTwo 13 = .ok (.ifCond .eq 12, 3) := by decide +kernel
theorem dX12_areTwo_16 : decode cX12_areTwo 16 = .ok (.iload_n 1, 1) := by decide +kernel
theorem dX12_areTwo_17 : decode cX12_areTwo 17 = .ok (.iload_n 2, 1) := by decide +kernel
theorem dX12_areTwo_18 : decode cX12_areTwo 18 = .ok (.if_icmp .eq 7, 3) := by decide +kernel
theorem dX12_areTwo_21 : decode cX12_areTwo 21 = .ok (.iconst 1, 1) := by decide +kernel
theorem dX12_areTwo_22 : decode cX12_areTwo 22 = .ok (.goto 4, 3) := by decide +kernel
theorem dX12_areTwo_25 : decode cX12_areTwo 25 = .ok (.iconst 0, 1) := by decide +kernel
theorem dX12_areTwo_26 : decode cX12_areTwo 26 = .ok (.ireturn, 1) := by decide +kernel
theorem dX12_sight_0 : decode cX12_sight 0 = .ok (.aload_n 0, 1) := by decide +kernel
theorem dX12_sight_1 : decode cX12_sight 1 = .ok (.iconst 0, 1) := by decide +kernel
theorem dX12_sight_2 : decode cX12_sight 2 = .ok (.putfield 224, 3) := by decide +kernel
theorem dX12_sight_5 : decode cX12_sight 5 = .ok (.aload_n 0, 1) := by decide +kernel
theorem dX12_sight_6 : decode cX12_sight 6 = .ok (.iload_n 1, 1) := by decide +kernel
theorem dX12_sight_7 : decode cX12_sight 7 = .ok (.iload_n 2, 1) := by decide +kernel
theorem dX12_sight_8 : decode cX12_sight 8 = .ok (.invokevirtual 298, 3) := by decide +kernel
theorem dX12_sight_11 : decode cX12_sight 11 = .ok (.ifCond .eq 24, 3) := by decide +kernel
theorem dX12_sight_14 : decode cX12_sight 14 = .ok (.iload_n 3, 1) := by decide +kernel
theorem dX12_sight_15 : decode cX12_sight 15 = .ok (.iload 4, 2) := by decide +kernel
theorem dX12_sight_17 : decode cX12_sight 17 = .ok (.invokestatic 246, 3) := by decide +kernel
theorem dX12_sight_20 : decode cX12_sight 20 = .ok (.ifCond .eq 15, 3) := by decide +kernel
theorem dX12_sight_23 : decode cX12_sight 23 = .ok (.aload_n 0, 1) := by decide +kernel
theorem dX12_sight_24 : decode cX12_sight 24 = .ok (.iload_n 1, 1) := by decide +kernel
theorem dX12_sight_25 : decode cX12_sight 25 = .ok (.iload_n 2, 1) := by decide +kernel
theorem dX12_sight_26 : decode cX12_sight 26 = .ok (.iload_n 3, 1) := by decide +kernel
theorem dX12_sight_27 : decode cX12_sight 27 = .ok (.iload 4, 2) := by decide +kernel
theorem dX12_sight_29 : decode cX12_sight 29 = .ok (.invokevirtual 301, 3) := by decide +kernel
theorem dX12_sight_32 : decode cX12_sight 32 = .ok (.goto 4, 3) := by decide +kernel
theorem dX12_sight_35 : decode cX12_sight 35 = .ok (.iconst (-1), 1) := by decide +kernel
theorem dX12_sight_36 : decode cX12_sight 36 = .ok (.ireturn, 1) := by decide +kernel
theorem dX12_block_0 : decode cX12_block 0 = .ok (.aload_n 0, 1) := by decide +kernel
theorem dX12_block_1 : decode cX12_block 1 = .ok (.iconst 0, 1) := by decide +kernel
theorem dX12_block_2 : decode cX12_block 2 = .ok (.putfield 224, 3) := by decide +kernel
theorem dX12_block_5 : decode cX12_block 5 = .ok (.aload_n 0, 1) := by decide +kernel
theorem dX12_block_6 : decode cX12_block 6 = .ok (.iload_n 1, 1) := by decide +kernel
theorem dX12_block_7 : decode cX12_block 7 = .ok (.iload_n 2, 1) := by decide +kernel
theorem dX12_block_8 : decode cX12_block 8 = .ok (.invokevirtual 298, 3) := by decide +kernel
theorem dX12_block_11 : decode cX12_block 11 = .ok (.ifCond .eq 13, 3) := by decide +kernel
theorem dX12_block_14 : decode cX12_block 14 = .ok (.aload_n 0, 1) := by decide +kernel
theorem dX12_block_15 : decode cX12_block 15 = .ok (.iload_n 1, 1) := by decide +kernel
theorem dX12_block_16 : decode cX12_block 16 = .ok (.iload_n 2, 1) := by decide +kernel
theorem dX12_block_17 : decode cX12_block 17 = .ok (.iload_n 3, 1) := by decide +kernel
theorem dX12_block_18 : decode cX12_block 18 = .ok (.invokevirtual 291, 3) := by decide +kernel
theorem dX12_block_21 : decode cX12_block 21 = .ok (.goto 4, 3) := by decide +kernel
theorem dX12_block_24 : decode cX12_block 24 = .ok (.iconst (-1), 1) := by decide +kernel
theorem dX12_block_25 : decode cX12_block 25 = .ok (.ireturn, 1) := by decide +kernel
theorem dX12_raise_0 : decode cX12_raise 0 = .ok (.aload_n 0, 1) := by decide +kernel
theorem dX12_raise_1 : decode cX12_raise 1 = .ok (.iconst 0, 1) := by decide +kernel
theorem dX12_raise_2 : decode cX12_raise 2 = .ok (.putfield 224, 3) := by decide +kernel
theorem dX12_raise_5 : decode cX12_raise 5 = .ok (.aload_n 0, 1) := by decide +kernel
theorem dX12_raise_6 : decode cX12_raise 6 = .ok (.iload_n 1, 1) := by decide +kernel
theorem dX12_raise_7 : decode cX12_raise 7 = .ok (.iload_n 2, 1) := by decide +kernel
theorem dX12_raise_8 : decode cX12_raise 8 = .ok (.invokevirtual 298, 3) := by decide +kernel
theorem dX12_raise_11 : decode cX12_raise 11 = .ok (.ifCond .ne 5, 3) := by decide +kernel
theorem dX12_raise_14 : decode cX12_raise 14 = .ok (.iconst (-1), 1) := by decide +kernel
theorem dX12_raise_15 : decode cX12_raise 15 = .ok (.ireturn, 1) := by decide +kernel
theorem dX12_raise_16 : decode cX12_raise 16 = .ok (.aload_n 0, 1) := by decide +kernel
theorem dX12_raise_17 : decode cX12_raise 17 = .ok (.iload_n 1, 1) := by decide +kernel
theorem dX12_raise_18 : decode cX12_raise 18 = .ok (.iload_n 2, 1) := by decide +kernel
theorem dX12_raise_19 : decode cX12_raise 19 = .ok (.invokevirtual 264, 3) := by decide +kernel
theorem dX12_raise_22 : decode cX12_raise 22 = .ok (.istore_n 3, 1) := by decide +kernel
theorem dX12_raise_23 : decode cX12_raise 23 = .ok (.iconst 0, 1) := by decide +kernel
theorem dX12_raise_24 : decode cX12_raise 24 = .ok (.istore 4, 2) := by decide +kernel
theorem dX12_raise_26 : decode cX12_raise 26 = .ok (.iconst 1, 1) := by decide +kernel
theorem dX12_raise_27 : decode cX12_raise 27 = .ok (.istore 5, 2) := by decide +kernel
theorem dX12_raise_29 : decode cX12_raise 29 = .ok (.iload 5, 2) := by decide +kernel
theorem dX12_raise_31 : decode cX12_raise 31 = .ok (.iload_n 3, 1) := by decide +kernel
theorem dX12_raise_32 : decode cX12_raise 32 = .ok (.if_icmp .ge 93, 3) := by decide +kernel
theorem dX12_raise_35 : decode cX12_raise 35 = .ok (.aload_n 0, 1) := by decide +kernel
theorem dX12_raise_36 : decode cX12_raise 36 = .ok (.iload_n 1, 1) := by decide +kernel
theorem dX12_raise_37 : decode cX12_raise 37 = .ok (.iload_n 2, 1) := by decide +kernel
theorem dX12_raise_38 : decode cX12_raise 38 = .ok (.iload 5, 2) := by decide +kernel
theorem dX12_raise_40 : decode cX12_raise 40 = .ok (.iconst 1, 1) := by decide +kernel
theorem dX12_raise_41 : decode cX12_raise 41 = .ok (.invokevirtual 283, 3) := by decide +kernel
theorem dX12_raise_44 : decode cX12_raise 44 = .ok (.i2l, 1) := by decide +kernel
theorem dX12_raise_45 : decode cX12_raise 45 = .ok (.iload_n 3, 1) := by decide +kernel
theorem dX12_raise_46 : decode cX12_raise 46 = .ok (.i2l, 1) := by decide +kernel
theorem dX12_raise_47 : decode cX12_raise 47 = .ok (.lmul, 1) := by decide +kernel
theorem dX12_raise_48 : decode cX12_raise 48 = .ok (.ldc2_w 277, 3) := by decide +kernel
theorem dX12_raise_51 : decode cX12_raise 51 = .ok (.aload_n 0, 1) := by decide +kernel
theorem dX12_raise_52 : decode cX12_raise 52 = .ok (.iload_n 2, 1) := by decide +kernel
theorem dX12_raise_53 : decode cX12_raise 53 = .ok (.iconst 1, 1) := by decide +kernel
theorem dX12_raise_54 : decode cX12_raise 54 = .ok (.invokevirtual 279, 3) := by decide +kernel
theorem dX12_raise_57 : decode cX12_raise 57 = .ok (.i2l, 1) := by decide +kernel
theorem dX12_raise_58 : decode cX12_raise 58 = .ok (.lmul, 1) := by decide +kernel
theorem dX12_raise_59 : decode cX12_raise 59 = .ok (.iload 5, 2) := by decide +kernel
theorem dX12_raise_61 : decode cX12_raise 61 = .ok (.i2l, 1) := by decide +kernel
theorem dX12_raise_62 : decode cX12_raise 62 = .ok (.lmul, 1) := by decide +kernel
theorem dX12_raise_63 : decode cX12_raise 63 = .ok (.lsub, 1) := by decide +kernel
theorem dX12_raise_64 : decode cX12_raise 64 = .ok (.lstore 6, 2) := by decide +kernel
theorem dX12_raise_66 : decode cX12_raise 66 = .ok (.ldc2_w 277, 3) := by decide +kernel
theorem dX12_raise_69 : decode cX12_raise 69 = .ok (.iload_n 3, 1) := by decide +kernel
theorem dX12_raise_70 : decode cX12_raise 70 = .ok (.iload 5, 2) := by decide +kernel
theorem dX12_raise_72 : decode cX12_raise 72 = .ok (.isub, 1) := by decide +kernel
theorem dX12_raise_73 : decode cX12_raise 73 = .ok (.i2l, 1) := by decide +kernel
theorem dX12_raise_74 : decode cX12_raise 74 = .ok (.lmul, 1) := by decide +kernel
theorem dX12_raise_75 : decode cX12_raise 75 = .ok (.lstore 8, 2) := by decide +kernel
theorem dX12_raise_77 : decode cX12_raise 77 = .ok (.lload 6, 2) := by decide +kernel
theorem dX12_raise_79 : decode cX12_raise 79 = .ok (.lconst 0, 1) := by decide +kernel
theorem dX12_raise_80 : decode cX12_raise 80 = .ok (.lcmp, 1) := by decide +kernel
theorem dX12_raise_81 : decode cX12_raise 81 = .ok (.ifCond .gt 7, 3) := by decide +kernel
theorem dX12_raise_84 : decode cX12_raise 84 = .ok (.lconst 0, 1) := by decide +kernel
theorem dX12_raise_85 : decode cX12_raise 85 = .ok (.goto 13, 3) := by decide +kernel
theorem dX12_raise_88 : decode cX12_raise 88 = .ok (.lload 6, 2) := by decide +kernel
theorem dX12_raise_90 : decode cX12_raise 90 = .ok (.lload 8, 2) := by decide +kernel
theorem dX12_raise_92 : decode cX12_raise 92 = .ok (.ladd, 1) := by decide +kernel
theorem dX12_raise_93 : decode cX12_raise 93 = .ok (.lconst 1, 1) := by decide +kernel
theorem dX12_raise_94 : decode cX12_raise 94 = .ok (.lsub, 1) := by decide +kernel
theorem dX12_raise_95 : decode cX12_raise 95 = .ok (.lload 8, 2) := by decide +kernel
theorem dX12_raise_97 : decode cX12_raise 97 = .ok (.ldiv, 1) := by decide +kernel
theorem dX12_raise_98 : decode cX12_raise 98 = .ok (.lstore 10, 2) := by decide +kernel
theorem dX12_raise_100 : decode cX12_raise 100 = .ok (.iload 4, 2) := by decide +kernel
theorem dX12_raise_102 : decode cX12_raise 102 = .ok (.i2l, 1) := by decide +kernel
theorem dX12_raise_103 : decode cX12_raise 103 = .ok (.lload 10, 2) := by decide +kernel
theorem dX12_raise_105 : decode cX12_raise 105 = .ok (.aload_n 0, 1) := by decide +kernel
theorem dX12_raise_106 : decode cX12_raise 106 = .ok (.iload_n 1, 1) := by decide +kernel
theorem dX12_raise_107 : decode cX12_raise 107 = .ok (.iconst 1, 1) := by decide +kernel
theorem dX12_raise_108 : decode cX12_raise 108 = .ok (.invokevirtual 279, 3) := by decide +kernel
theorem dX12_raise_111 : decode cX12_raise 111 = .ok (.i2l, 1) := by decide +kernel
theorem dX12_raise_112 : decode cX12_raise 112 = .ok (.lsub, 1) := by decide +kernel
theorem dX12_raise_113 : decode cX12_raise 113 = .ok (.invokestatic 305, 3) := by decide +kernel
theorem dX12_raise_116 : decode cX12_raise 116 = .ok (.l2i, 1) := by decide +kernel
theorem dX12_raise_117 : decode cX12_raise 117 = .ok (.istore 4, 2) := by decide +kernel
theorem dX12_raise_119 : decode cX12_raise 119 = .ok (.iinc 5 1, 3) := by decide +kernel
theorem dX12_raise_122 : decode cX12_raise 122 = .ok (.goto (-93), 3) := by decide +kernel
theorem dX12_raise_125 : decode cX12_raise 125 = .ok (.iload 4, 2) := by decide +kernel
theorem dX12_raise_127 : decode cX12_raise 127 = .ok (.ireturn, 1) := by decide +kernel
theorem dX12_linkOf_0 : decode cX12_linkOf 0 = .ok (.aload_n 0, 1) := by decide +kernel
theorem dX12_linkOf_1 : decode cX12_linkOf 1 = .ok (.iload_n 1, 1) := by decide +kernel
theorem dX12_linkOf_2 : decode cX12_linkOf 2 = .ok (.iload_n 2, 1) := by decide +kernel
theorem dX12_linkOf_3 : decode cX12_linkOf 3 = .ok (.iload_n 3, 1) := by decide +kernel
theorem dX12_linkOf_4 : decode cX12_linkOf 4 = .ok (.iload 4, 2) := by decide +kernel
theorem dX12_linkOf_6 : decode cX12_linkOf 6 = .ok (.invokevirtual 301, 3) := by decide +kernel
theorem dX12_linkOf_9 : decode cX12_linkOf 9 = .ok (.aload_n 0, 1) := by decide +kernel
theorem dX12_linkOf_10 : decode cX12_linkOf 10 = .ok (.iload_n 2, 1) := by decide +kernel
theorem dX12_linkOf_11 : decode cX12_linkOf 11 = .ok (.iload_n 1, 1) := by decide +kernel
theorem dX12_linkOf_12 : decode cX12_linkOf 12 = .ok (.iload_n 3, 1) := by decide +kernel
theorem dX12_linkOf_13 : decode cX12_linkOf 13 = .ok (.iload 4, 2) := by decide +kernel
theorem dX12_linkOf_15 : decode cX12_linkOf 15 = .ok (.invokevirtual 301, 3) := by decide +kernel
theorem dX12_linkOf_18 : decode cX12_linkOf 18 = .ok (.invokestatic 308, 3) := by decide +kernel
theorem dX12_linkOf_21 : decode cX12_linkOf 21 = .ok (.ireturn, 1) := by decide +kernel
theorem dX12_notes_0 : decode cX12_notes 0 = .ok (.aload_n 0, 1) := by decide +kernel
theorem dX12_notes_1 : decode cX12_notes 1 = .ok (.getfield 56, 3) := by decide +kernel
theorem dX12_notes_4 : decode cX12_notes 4 = .ok (.aload_n 0, 1) := by decide +kernel
theorem dX12_notes_5 : decode cX12_notes 5 = .ok (.getfield 230, 3) := by decide +kernel
theorem dX12_notes_8 : decode cX12_notes 8 = .ok (.iload_n 1, 1) := by decide +kernel
theorem dX12_notes_9 : decode cX12_notes 9 = .ok (.iastore, 1) := by decide +kernel
theorem dX12_notes_10 : decode cX12_notes 10 = .ok (.aload_n 0, 1) := by decide +kernel
theorem dX12_notes_11 : decode cX12_notes 11 = .ok (.getfield 59, 3) := by decide +kernel
theorem dX12_notes_14 : decode cX12_notes 14 = .ok (.aload_n 0, 1) := by decide +kernel
theorem dX12_notes_15 : decode cX12_notes 15 = .ok (.getfield 230, 3) := by decide +kernel
theorem dX12_notes_18 : decode cX12_notes 18 = .ok (.iload_n 2, 1) := by decide +kernel
theorem dX12_notes_19 : decode cX12_notes 19 = .ok (.iastore, 1) := by decide +kernel
theorem dX12_notes_20 : decode cX12_notes 20 = .ok (.aload_n 0, 1) := by decide +kernel
theorem dX12_notes_21 : decode cX12_notes 21 = .ok (.getfield 62, 3) := by decide +kernel
theorem dX12_notes_24 : decode cX12_notes 24 = .ok (.aload_n 0, 1) := by decide +kernel
theorem dX12_notes_25 : decode cX12_notes 25 = .ok (.getfield 230, 3) := by decide +kernel
theorem dX12_notes_28 : decode cX12_notes 28 = .ok (.iload_n 3, 1) := by decide +kernel
theorem dX12_notes_29 : decode cX12_notes 29 = .ok (.iastore, 1) := by decide +kernel
theorem dX12_notes_30 : decode cX12_notes 30 = .ok (.aload_n 0, 1) := by decide +kernel
theorem dX12_notes_31 : decode cX12_notes 31 = .ok (.dup, 1) := by decide +kernel
theorem dX12_notes_32 : decode cX12_notes 32 = .ok (.getfield 230, 3) := by decide +kernel
theorem dX12_notes_35 : decode cX12_notes 35 = .ok (.iconst 1, 1) := by decide +kernel
theorem dX12_notes_36 : decode cX12_notes 36 = .ok (.iadd, 1) := by decide +kernel
theorem dX12_notes_37 : decode cX12_notes 37 = .ok (.putfield 230, 3) := by decide +kernel
theorem dX12_notes_40 : decode cX12_notes 40 = .ok (.aload_n 0, 1) := by decide +kernel
theorem dX12_notes_41 : decode cX12_notes 41 = .ok (.getfield 230, 3) := by decide +kernel
theorem dX12_notes_44 : decode cX12_notes 44 = .ok (.iconst 1, 1) := by decide +kernel
theorem dX12_notes_45 : decode cX12_notes 45 = .ok (.isub, 1) := by decide +kernel
theorem dX12_notes_46 : decode cX12_notes 46 = .ok (.ireturn, 1) := by decide +kernel
theorem dX12_note_0 : decode cX12_note 0 = .ok (.aload_n 0, 1) := by decide +kernel
theorem dX12_note_1 : decode cX12_note 1 = .ok (.iconst 0, 1) := by decide +kernel
theorem dX12_note_2 : decode cX12_note 2 = .ok (.putfield 224, 3) := by decide +kernel
theorem dX12_note_5 : decode cX12_note 5 = .ok (.iload_n 1, 1) := by decide +kernel
theorem dX12_note_6 : decode cX12_note 6 = .ok (.ifCond .lt 25, 3) := by decide +kernel
theorem dX12_note_9 : decode cX12_note 9 = .ok (.iload_n 1, 1) := by decide +kernel
theorem dX12_note_10 : decode cX12_note 10 = .ok (.iconst 5, 1) := by decide +kernel
theorem dX12_note_11 : decode cX12_note 11 = .ok (.if_icmp .gt 20, 3) := by decide +kernel
theorem dX12_note_14 : decode cX12_note 14 = .ok (.aload_n 0, 1) := by decide +kernel
theorem dX12_note_15 : decode cX12_note 15 = .ok (.iload_n 2, 1) := by decide +kernel
theorem dX12_note_16 : decode cX12_note 16 = .ok (.invokevirtual 250, 3) := by decide +kernel
theorem dX12_note_19 : decode cX12_note 19 = .ok (.ifCond .eq 12, 3) := by decide +kernel
theorem dX12_note_22 : decode cX12_note 22 = .ok (.aload_n 0, 1) := by decide +kernel
theorem dX12_note_23 : decode cX12_note 23 = .ok (.getfield 230, 3) := by decide +kernel
theorem dX12_note_26 : decode cX12_note 26 = .ok (.bipush 60, 2) := by decide +kernel
theorem dX12_note_28 : decode cX12_note 28 = .ok (.if_icmp .ne 5, 3) := by decide +kernel
theorem dX12_note_31 : decode cX12_note 31 = .ok (.iconst (-1), 1) := by decide +kernel
theorem dX12_note_32 : decode cX12_note 32 = .ok (.ireturn, 1) := by decide +kernel
theorem dX12_note_33 : decode cX12_note 33 = .ok (.iload_n 1, 1) := by decide +kernel
theorem dX12_note_34 : decode cX12_note 34 = .ok (.iconst 2, 1) := by decide +kernel
theorem dX12_note_35 : decode cX12_note 35 = .ok (.if_icmp .eq 8, 3) := by decide +kernel
theorem dX12_note_38 : decode cX12_note 38 = .ok (.iload_n 1, 1) := by decide +kernel
theorem dX12_note_39 : decode cX12_note 39 = .ok (.iconst 3, 1) := by decide +kernel
theorem dX12_note_40 : decode cX12_note 40 = .ok (.if_icmp .ne 7, 3) := by decide +kernel
theorem dX12_note_43 : decode cX12_note 43 = .ok (.iconst 1, 1) := by decide +kernel
theorem dX12_note_44 : decode cX12_note 44 = .ok (.goto 4, 3) := by decide +kernel
theorem dX12_note_47 : decode cX12_note 47 = .ok (.iconst 0, 1) := by decide +kernel
theorem dX12_note_48 : decode cX12_note 48 = .ok (.istore 4, 2) := by decide +kernel
theorem dX12_note_50 : decode cX12_note 50 = .ok (.iload 4, 2) := by decide +kernel
theorem dX12_note_52 : decode cX12_note 52 = .ok (.ifCond .eq 19, 3) := by decide +kernel
theorem dX12_note_55 : decode cX12_note 55 = .ok (.aload_n 0, 1) := by decide +kernel
theorem dX12_note_56 : decode cX12_note 56 = .ok (.iload_n 3, 1) := by decide +kernel
theorem dX12_note_57 : decode cX12_note 57 = .ok (.invokevirtual 250, 3) := by decide +kernel
theorem dX12_note_60 : decode cX12_note 60 = .ok (.ifCond .eq 22, 3) := by decide +kernel
theorem dX12_note_63 : decode cX12_note 63 = .ok (.iload_n 2, 1) := by decide +kernel
theorem dX12_note_64 : decode cX12_note 64 = .ok (.iload_n 3, 1) := by decide +kernel
theorem dX12_note_65 : decode cX12_note 65 = .ok (.if_icmp .ne 19, 3) := by decide +kernel
theorem dX12_note_68 : decode cX12_note 68 = .ok (.goto 14, 3) := by decide +kernel
theorem dX12_note_71 : decode cX12_note 71 = .ok (.iload_n 3, 1) := by decide +kernel
theorem dX12_note_72 : decode cX12_note 72 = .ok (.ifCond .lt 10, 3) := by decide +kernel
theorem dX12_note_75 : decode cX12_note 75 = .ok (.iload_n 3, 1) := by decide +kernel
theorem dX12_note_76 : decode cX12_note 76 = .ok (.sipush 500, 3) := by decide +kernel
theorem dX12_note_79 : decode cX12_note 79 = .ok (.if_icmp .le 5, 3) := by decide +kernel
theorem dX12_note_82 : decode cX12_note 82 = .ok (.iconst (-1), 1) := by decide +kernel
theorem dX12_note_83 : decode cX12_note 83 = .ok (.ireturn, 1) := by decide +kernel
theorem dX12_note_84 : decode cX12_note 84 = .ok (.aload_n 0, 1) := by decide +kernel
theorem dX12_note_85 : decode cX12_note 85 = .ok (.iload_n 1, 1) := by decide +kernel
theorem dX12_note_86 : decode cX12_note 86 = .ok (.iload_n 2, 1) := by decide +kernel
theorem dX12_note_87 : decode cX12_note 87 = .ok (.iload_n 3, 1) := by decide +kernel
theorem dX12_note_88 : decode cX12_note 88 = .ok (.invokevirtual 311, 3) := by decide +kernel
theorem dX12_note_91 : decode cX12_note 91 = .ok (.ireturn, 1) := by decide +kernel
theorem dX12_strike_0 : decode cX12_strike 0 = .ok (.aload_n 0, 1) := by decide +kernel
theorem dX12_strike_1 : decode cX12_strike 1 = .ok (.iconst 0, 1) := by decide +kernel
theorem dX12_strike_2 : decode cX12_strike 2 = .ok (.putfield 224, 3) := by decide +kernel
theorem dX12_strike_5 : decode cX12_strike 5 = .ok (.iload_n 1, 1) := by decide +kernel
theorem dX12_strike_6 : decode cX12_strike 6 = .ok (.ifCond .lt 20, 3) := by decide +kernel
theorem dX12_strike_9 : decode cX12_strike 9 = .ok (.iload_n 1, 1) := by decide +kernel
theorem dX12_strike_10 : decode cX12_strike 10 = .ok (.aload_n 0, 1) := by decide +kernel
theorem dX12_strike_11 : decode cX12_strike 11 = .ok (.getfield 230, 3) := by decide +kernel
theorem dX12_strike_14 : decode cX12_strike 14 = .ok (.if_icmp .ge 12, 3) := by decide +kernel
theorem dX12_strike_17 : decode cX12_strike 17 = .ok (.aload_n 0, 1) := by decide +kernel
theorem dX12_strike_18 : decode cX12_strike 18 = .ok (.getfield 230, 3) := by decide +kernel
theorem dX12_strike_21 : decode cX12_strike 21 = .ok (.bipush 60, 2) := by decide +kernel
theorem dX12_strike_23 : decode cX12_strike 23 = .ok (.if_icmp .ne 7, 3) := by decide +kernel
theorem dX12_strike_26 : decode cX12_strike 26 = .ok (.iconst (-1), 1) := by decide +kernel
theorem dX12_strike_27 : decode cX12_strike 27 = .ok (.goto 11, 3) := by decide +kernel
theorem dX12_strike_30 : decode cX12_strike 30 = .ok (.aload_n 0, 1) := by decide +kernel
theorem dX12_strike_31 : decode cX12_strike 31 = .ok (.bipush 6, 2) := by decide +kernel
theorem dX12_strike_33 : decode cX12_strike 33 = .ok (.iload_n 1, 1) := by decide +kernel
theorem dX12_strike_34 : decode cX12_strike 34 = .ok (.iconst 0, 1) := by decide +kernel
theorem dX12_strike_35 : decode cX12_strike 35 = .ok (.invokevirtual 311, 3) := by decide +kernel
theorem dX12_strike_38 : decode cX12_strike 38 = .ok (.ireturn, 1) := by decide +kernel
theorem dX12_knows_0 : decode cX12_knows 0 = .ok (.iconst 0, 1) := by decide +kernel
theorem dX12_knows_1 : decode cX12_knows 1 = .ok (.istore_n 2, 1) := by decide +kernel
theorem dX12_knows_2 : decode cX12_knows 2 = .ok (.iload_n 2, 1) := by decide +kernel
theorem dX12_knows_3 : decode cX12_knows 3 = .ok (.iload_n 1, 1) := by decide +kernel
theorem dX12_knows_4 : decode cX12_knows 4 = .ok (.if_icmp .ge 16, 3) := by decide +kernel
theorem dX12_knows_7 : decode cX12_knows 7 = .ok (.aload_n 0, 1) := by decide +kernel
theorem dX12_knows_8 : decode cX12_knows 8 = .ok (.getfield 65, 3) := by decide +kernel
theorem dX12_knows_11 : decode cX12_knows 11 = .ok (.iload_n 2, 1) := by decide +kernel
theorem dX12_knows_12 : decode cX12_knows 12 = .ok (.iconst 0, 1) := by decide +kernel
theorem dX12_knows_13 : decode cX12_knows 13 = .ok (.bastore, 1) := by decide +kernel
theorem dX12_knows_14 : decode cX12_knows 14 = .ok (.iinc 2 1, 3) := by decide +kernel
theorem dX12_knows_17 : decode cX12_knows 17 = .ok (.goto (-15), 3) := by decide +kernel
theorem dX12_knows_20 : decode cX12_knows 20 = .ok (.iload_n 1, 1) := by decide +kernel
theorem dX12_knows_21 : decode cX12_knows 21 = .ok (.iconst 1, 1) := by decide +kernel
theorem dX12_knows_22 : decode cX12_knows 22 = .ok (.isub, 1) := by decide +kernel
theorem dX12_knows_23 : decode cX12_knows 23 = .ok (.istore_n 2, 1) := by decide +kernel
theorem dX12_knows_24 : decode cX12_knows 24 = .ok (.iload_n 2, 1) := by decide +kernel
theorem dX12_knows_25 : decode cX12_knows 25 = .ok (.ifCond .lt 41, 3) := by decide +kernel
theorem dX12_knows_28 : decode cX12_knows 28 = .ok (.aload_n 0, 1) := by decide +kernel
theorem dX12_knows_29 : decode cX12_knows 29 = .ok (.getfield 56, 3) := by decide +kernel
theorem dX12_knows_32 : decode cX12_knows 32 = .ok (.iload_n 2, 1) := by decide +kernel
theorem dX12_knows_33 : decode cX12_knows 33 = .ok (.iaload, 1) := by decide +kernel
theorem dX12_knows_34 : decode cX12_knows 34 = .ok (.bipush 6, 2) := by decide +kernel
theorem dX12_knows_36 : decode cX12_knows 36 = .ok (.if_icmp .ne 24, 3) := by decide +kernel
theorem dX12_knows_39 : decode cX12_knows 39 = .ok (.aload_n 0, 1) := by decide +kernel
theorem dX12_knows_40 : decode cX12_knows 40 = .ok (.getfield 65, 3) := by decide +kernel
theorem dX12_knows_43 : decode cX12_knows 43 = .ok (.iload_n 2, 1) := by decide +kernel
theorem dX12_knows_44 : decode cX12_knows 44 = .ok (.baload, 1) := by decide +kernel
theorem dX12_knows_45 : decode cX12_knows 45 = .ok (.ifCond .ne 15, 3) := by decide +kernel
theorem dX12_knows_48 : decode cX12_knows 48 = .ok (.aload_n 0, 1) := by decide +kernel
theorem dX12_knows_49 : decode cX12_knows 49 = .ok (.getfield 65, 3) := by decide +kernel
theorem dX12_knows_52 : decode cX12_knows 52 = .ok (.aload_n 0, 1) := by decide +kernel
theorem dX12_knows_53 : decode cX12_knows 53 = .ok (.getfield 59, 3) := by decide +kernel
theorem dX12_knows_56 : decode cX12_knows 56 = .ok (.iload_n 2, 1) := by decide +kernel
theorem dX12_knows_57 : decode cX12_knows 57 = .ok (.iaload, 1) := by decide +kernel
theorem dX12_knows_58 : decode cX12_knows 58 = .ok (.iconst 1, 1) := by decide +kernel
theorem dX12_knows_59 : decode cX12_knows 59 = .ok (.bastore, 1) := by decide +kernel
theorem dX12_knows_60 : decode cX12_knows 60 = .ok (.iinc 2 (-1), 3) := by decide +kernel
theorem dX12_knows_63 : decode cX12_knows 63 = .ok (.goto (-39), 3) := by decide +kernel
theorem dX12_knows_66 : decode cX12_knows 66 = .ok (.iconst 0, 1) := by decide +kernel
theorem dX12_knows_67 : decode cX12_knows 67 = .ok (.istore_n 2, 1) := by decide +kernel
theorem dX12_knows_68 : decode cX12_knows 68 = .ok (.iload_n 2, 1) := by decide +kernel
theorem dX12_knows_69 : decode cX12_knows 69 = .ok (.iconst 2, 1) := by decide +kernel
theorem dX12_knows_70 : decode cX12_knows 70 = .ok (.aload_n 0, 1) := by decide +kernel
theorem dX12_knows_71 : decode cX12_knows 71 = .ok (.getfield 227, 3) := by decide +kernel
theorem dX12_knows_74 : decode cX12_knows 74 = .ok (.imul, 1) := by decide +kernel
theorem dX12_knows_75 : decode cX12_knows 75 = .ok (.if_icmp .ge 25, 3) := by decide +kernel
theorem dX12_knows_78 : decode cX12_knows 78 = .ok (.aload_n 0, 1) := by decide +kernel
theorem dX12_knows_79 : decode cX12_knows 79 = .ok (.getfield 69, 3) := by decide +kernel
theorem dX12_knows_82 : decode cX12_knows 82 = .ok (.iload_n 2, 1) := by decide +kernel
theorem dX12_knows_83 : decode cX12_knows 83 = .ok (.iconst 0, 1) := by decide +kernel
theorem dX12_knows_84 : decode cX12_knows 84 = .ok (.iastore, 1) := by decide +kernel
theorem dX12_knows_85 : decode cX12_knows 85 = .ok (.aload_n 0, 1) := by decide +kernel
theorem dX12_knows_86 : decode cX12_knows 86 = .ok (.getfield 72, 3) := by decide +kernel
theorem dX12_knows_89 : decode cX12_knows 89 = .ok (.iload_n 2, 1) := by decide +kernel
theorem dX12_knows_90 : decode cX12_knows 90 = .ok (.sipush 500, 3) := by decide +kernel
theorem dX12_knows_93 : decode cX12_knows 93 = .ok (.iastore, 1) := by decide +kernel
theorem dX12_knows_94 : decode cX12_knows 94 = .ok (.iinc 2 1, 3) := by decide +kernel
theorem dX12_knows_97 : decode cX12_knows 97 = .ok (.goto (-29), 3) := by decide +kernel
theorem dX12_knows_100 : decode cX12_knows 100 = .ok (.iconst 0, 1) := by decide +kernel
theorem dX12_knows_101 : decode cX12_knows 101 = .ok (.istore_n 2, 1) := by decide +kernel
theorem dX12_knows_102 : decode cX12_knows 102 = .ok (.iload_n 2, 1) := by decide +kernel
theorem dX12_knows_103 : decode cX12_knows 103 = .ok (.iload_n 1, 1) := by decide +kernel
theorem dX12_knows_104 : decode cX12_knows 104 = .ok (.if_icmp .ge 40, 3) := by decide +kernel
theorem dX12_knows_107 : decode cX12_knows 107 = .ok (.aload_n 0, 1) := by decide +kernel
theorem dX12_knows_108 : decode cX12_knows 108 = .ok (.getfield 65, 3) := by decide +kernel
theorem dX12_knows_111 : decode cX12_knows 111 = .ok (.iload_n 2, 1) := by decide +kernel
theorem dX12_knows_112 : decode cX12_knows 112 = .ok (.baload, 1) := by decide +kernel
theorem dX12_knows_113 : decode cX12_knows 113 = .ok (.ifCond .ne 25, 3) := by decide +kernel
theorem dX12_knows_116 : decode cX12_knows 116 = .ok (.aload_n 0, 1) := by decide +kernel
theorem dX12_knows_117 : decode cX12_knows 117 = .ok (.aload_n 0, 1) := by decide +kernel
theorem dX12_knows_118 : decode cX12_knows 118 = .ok (.getfield 56, 3) := by decide +kernel
theorem dX12_knows_121 : decode cX12_knows 121 = .ok (.iload_n 2, 1) := by decide +kernel
theorem dX12_knows_122 : decode cX12_knows 122 = .ok (.iaload, 1) := by decide +kernel
theorem dX12_knows_123 : decode cX12_knows 123 = .ok (.aload_n 0, 1) := by decide +kernel
theorem dX12_knows_124 : decode cX12_knows 124 = .ok (.getfield 59, 3) := by decide +kernel
theorem dX12_knows_127 : decode cX12_knows 127 = .ok (.iload_n 2, 1) := by decide +kernel
theorem dX12_knows_128 : decode cX12_knows 128 = .ok (.iaload, 1) := by decide +kernel
theorem dX12_knows_129 : decode cX12_knows 129 = .ok (.aload_n 0, 1) := by decide +kernel
theorem dX12_knows_130 : decode cX12_knows 130 = .ok (.getfield 62, 3) := by decide +kernel
theorem dX12_knows_133 : decode cX12_knows 133 = .ok (.iload_n 2, 1) := by decide +kernel
theorem dX12_knows_134 : decode cX12_knows 134 = .ok (.iaload, 1) := by decide +kernel
theorem dX12_knows_135 : decode cX12_knows 135 = .ok (.invokevirtual 313, 3) := by decide +kernel
theorem dX12_knows_138 : decode cX12_knows 138 = .ok (.iinc 2 1, 3) := by decide +kernel
theorem dX12_knows_141 : decode cX12_knows 141 = .ok (.goto (-39), 3) := by decide +kernel
theorem dX12_knows_144 : decode cX12_knows 144 = .ok (.aload_n 0, 1) := by decide +kernel
theorem dX12_knows_145 : decode cX12_knows 145 = .ok (.iconst 1, 1) := by decide +kernel
theorem dX12_knows_146 : decode cX12_knows 146 = .ok (.putfield 317, 3) := by decide +kernel
theorem dX12_knows_149 : decode cX12_knows 149 = .ok (.aload_n 0, 1) := by decide +kernel
theorem dX12_knows_150 : decode cX12_knows 150 = .ok (.getfield 317, 3) := by decide +kernel
theorem dX12_knows_153 : decode cX12_knows 153 = .ok (.ifCond .eq 83, 3) := by decide +kernel
theorem dX12_knows_156 : decode cX12_knows 156 = .ok (.aload_n 0, 1) := by decide +kernel
theorem dX12_knows_157 : decode cX12_knows 157 = .ok (.iconst 0, 1) := by decide +kernel
theorem dX12_knows_158 : decode cX12_knows 158 = .ok (.putfield 317, 3) := by decide +kernel
theorem dX12_knows_161 : decode cX12_knows 161 = .ok (.iconst 0, 1) := by decide +kernel
theorem dX12_knows_162 : decode cX12_knows 162 = .ok (.istore_n 2, 1) := by decide +kernel
theorem dX12_knows_163 : decode cX12_knows 163 = .ok (.iload_n 2, 1) := by decide +kernel
theorem dX12_knows_164 : decode cX12_knows 164 = .ok (.aload_n 0, 1) := by decide +kernel
theorem dX12_knows_165 : decode cX12_knows 165 = .ok (.getfield 227, 3) := by decide +kernel
theorem dX12_knows_168 : decode cX12_knows 168 = .ok (.if_icmp .ge 21, 3) := by decide +kernel
theorem dX12_knows_171 : decode cX12_knows 171 = .ok (.aload_n 0, 1) := by decide +kernel
theorem dX12_knows_172 : decode cX12_knows 172 = .ok (.iconst 2, 1) := by decide +kernel
theorem dX12_knows_173 : decode cX12_knows 173 = .ok (.iload_n 2, 1) := by decide +kernel
theorem dX12_knows_174 : decode cX12_knows 174 = .ok (.imul, 1) := by decide +kernel
theorem dX12_knows_175 : decode cX12_knows 175 = .ok (.iconst 2, 1) := by decide +kernel
theorem dX12_knows_176 : decode cX12_knows 176 = .ok (.iload_n 2, 1) := by decide +kernel
theorem dX12_knows_177 : decode cX12_knows 177 = .ok (.imul, 1) := by decide +kernel
theorem dX12_knows_178 : decode cX12_knows 178 = .ok (.iconst 1, 1) := by decide +kernel
theorem dX12_knows_179 : decode cX12_knows 179 = .ok (.iadd, 1) := by decide +kernel
theorem dX12_knows_180 : decode cX12_knows 180 = .ok (.invokevirtual 320, 3) := by decide +kernel
theorem dX12_knows_183 : decode cX12_knows 183 = .ok (.iinc 2 1, 3) := by decide +kernel
theorem dX12_knows_186 : decode cX12_knows 186 = .ok (.goto (-23), 3) := by decide +kernel
theorem dX12_knows_189 : decode cX12_knows 189 = .ok (.iconst 0, 1) := by decide +kernel
theorem dX12_knows_190 : decode cX12_knows 190 = .ok (.istore_n 2, 1) := by decide +kernel
theorem dX12_knows_191 : decode cX12_knows 191 = .ok (.iload_n 2, 1) := by decide +kernel
theorem dX12_knows_192 : decode cX12_knows 192 = .ok (.iload_n 1, 1) := by decide +kernel
theorem dX12_knows_193 : decode cX12_knows 193 = .ok (.if_icmp .ge 40, 3) := by decide +kernel
theorem dX12_knows_196 : decode cX12_knows 196 = .ok (.aload_n 0, 1) := by decide +kernel
theorem dX12_knows_197 : decode cX12_knows 197 = .ok (.getfield 65, 3) := by decide +kernel
theorem dX12_knows_200 : decode cX12_knows 200 = .ok (.iload_n 2, 1) := by decide +kernel
theorem dX12_knows_201 : decode cX12_knows 201 = .ok (.baload, 1) := by decide +kernel
theorem dX12_knows_202 : decode cX12_knows 202 = .ok (.ifCond .ne 25, 3) := by decide +kernel
theorem dX12_knows_205 : decode cX12_knows 205 = .ok (.aload_n 0, 1) := by decide +kernel
theorem dX12_knows_206 : decode cX12_knows 206 = .ok (.aload_n 0, 1) := by decide +kernel
theorem dX12_knows_207 : decode cX12_knows 207 = .ok (.getfield 56, 3) := by decide +kernel
theorem dX12_knows_210 : decode cX12_knows 210 = .ok (.iload_n 2, 1) := by decide +kernel
theorem dX12_knows_211 : decode cX12_knows 211 = .ok (.iaload, 1) := by decide +kernel
theorem dX12_knows_212 : decode cX12_knows 212 = .ok (.aload_n 0, 1) := by decide +kernel
theorem dX12_knows_213 : decode cX12_knows 213 = .ok (.getfield 59, 3) := by decide +kernel
theorem dX12_knows_216 : decode cX12_knows 216 = .ok (.iload_n 2, 1) := by decide +kernel
theorem dX12_knows_217 : decode cX12_knows 217 = .ok (.iaload, 1) := by decide +kernel
theorem dX12_knows_218 : decode cX12_knows 218 = .ok (.aload_n 0, 1) := by decide +kernel
theorem dX12_knows_219 : decode cX12_knows 219 = .ok (.getfield 62, 3) := by decide +kernel
theorem dX12_knows_222 : decode cX12_knows 222 = .ok (.iload_n 2, 1) := by decide +kernel
theorem dX12_knows_223 : decode cX12_knows 223 = .ok (.iaload, 1) := by decide +kernel
theorem dX12_knows_224 : decode cX12_knows 224 = .ok (.invokevirtual 324, 3) := by decide +kernel
theorem dX12_knows_227 : decode cX12_knows 227 = .ok (.iinc 2 1, 3) := by decide +kernel
theorem dX12_knows_230 : decode cX12_knows 230 = .ok (.goto (-39), 3) := by decide +kernel
theorem dX12_knows_233 : decode cX12_knows 233 = .ok (.goto (-84), 3) := by decide +kernel
theorem dX12_knows_236 : decode cX12_knows 236 = .ok (.iconst 1, 1) := by decide +kernel
theorem dX12_knows_237 : decode cX12_knows 237 = .ok (.istore_n 2, 1) := by decide +kernel
theorem dX12_knows_238 : decode cX12_knows 238 = .ok (.iconst 0, 1) := by decide +kernel
theorem dX12_knows_239 : decode cX12_knows 239 = .ok (.istore_n 3, 1) := by decide +kernel
theorem dX12_knows_240 : decode cX12_knows 240 = .ok (.iload_n 3, 1) := by decide +kernel
theorem dX12_knows_241 : decode cX12_knows 241 = .ok (.iconst 2, 1) := by decide +kernel
theorem dX12_knows_242 : decode cX12_knows 242 = .ok (.aload_n 0, 1) := by decide +kernel
theorem dX12_knows_243 : decode cX12_knows 243 = .ok (.getfield 227, 3) := by decide +kernel
theorem dX12_knows_246 : decode cX12_knows 246 = .ok (.imul, 1) := by decide +kernel
theorem dX12_knows_247 : decode cX12_knows 247 = .ok (.if_icmp .ge 32, 3) := by decide +kernel
theorem dX12_knows_250 : decode cX12_knows 250 = .ok (.iload_n 2, 1) := by decide +kernel
theorem dX12_knows_251 : decode cX12_knows 251 = .ok (.aload_n 0, 1) := by decide +kernel
theorem dX12_knows_252 : decode cX12_knows 252 = .ok (.getfield 69, 3) := by decide +kernel
theorem dX12_knows_255 : decode cX12_knows 255 = .ok (.iload_n 3, 1) := by decide +kernel
theorem dX12_knows_256 : decode cX12_knows 256 = .ok (.iaload, 1) := by decide +kernel
theorem dX12_knows_257 : decode cX12_knows 257 = .ok (.aload_n 0, 1) := by decide +kernel
theorem dX12_knows_258 : decode cX12_knows 258 = .ok (.getfield 72, 3) := by decide +kernel
theorem dX12_knows_261 : decode cX12_knows 261 = .ok (.iload_n 3, 1) := by decide +kernel
theorem dX12_knows_262 : decode cX12_knows 262 = .ok (.iaload, 1) := by decide +kernel
theorem dX12_knows_263 : decode cX12_knows 263 = .ok (.if_icmp .gt 7, 3) := by decide +kernel
theorem dX12_knows_266 : decode cX12_knows 266 = .ok (.iconst 1, 1) := by decide +kernel
theorem dX12_knows_267 : decode cX12_knows 267 = .ok (.goto 4, 3) := by decide +kernel
theorem dX12_knows_270 : decode cX12_knows 270 = .ok (.iconst 0, 1) := by decide +kernel
theorem dX12_knows_271 : decode cX12_knows 271 = .ok (.iand, 1) := by decide +kernel
theorem dX12_knows_272 : decode cX12_knows 272 = .ok (.istore_n 2, 1) := by decide +kernel
theorem dX12_knows_273 : decode cX12_knows 273 = .ok (.iinc 3 1, 3) := by decide +kernel
theorem dX12_knows_276 : decode cX12_knows 276 = .ok (.goto (-36), 3) := by decide +kernel
theorem dX12_knows_279 : decode cX12_knows 279 = .ok (.iload_n 2, 1) := by decide +kernel
theorem dX12_knows_280 : decode cX12_knows 280 = .ok (.ireturn, 1) := by decide +kernel
theorem dX12_bounds_0 : decode cX12_bounds 0 = .ok (.iload_n 1, 1) := by decide +kernel
theorem dX12_bounds_1 : decode cX12_bounds 1 = .ok (.ifCond .ne 23, 3) := by decide +kernel
theorem dX12_bounds_4 : decode cX12_bounds 4 = .ok (.aload_n 0, 1) := by decide +kernel
theorem dX12_bounds_5 : decode cX12_bounds 5 = .ok (.getfield 72, 3) := by decide +kernel
theorem dX12_bounds_8 : decode cX12_bounds 8 = .ok (.iconst 2, 1) := by decide +kernel
theorem dX12_bounds_9 : decode cX12_bounds 9 = .ok (.iload_n 2, 1) := by decide +kernel
theorem dX12_bounds_10 : decode cX12_bounds 10 = .ok (.imul, 1) := by decide +kernel
theorem dX12_bounds_11 : decode cX12_bounds 11 = .ok (.aload_n 0, 1) := by decide +kernel
theorem dX12_bounds_12 : decode cX12_bounds 12 = .ok (.getfield 72, 3) := by decide +kernel
theorem dX12_bounds_15 : decode cX12_bounds 15 = .ok (.iconst 2, 1) := by decide +kernel
theorem dX12_bounds_16 : decode cX12_bounds 16 = .ok (.iload_n 2, 1) := by decide +kernel
theorem dX12_bounds_17 : decode cX12_bounds 17 = .ok (.imul, 1) := by decide +kernel
theorem dX12_bounds_18 : decode cX12_bounds 18 = .ok (.iaload, 1) := by decide +kernel
theorem dX12_bounds_19 : decode cX12_bounds 19 = .ok (.iload_n 3, 1) := by decide +kernel
theorem dX12_bounds_20 : decode cX12_bounds 20 = .ok (.invokestatic 308, 3) := by decide +kernel
theorem dX12_bounds_23 : decode cX12_bounds 23 = .ok (.iastore, 1) := by decide +kernel
theorem dX12_bounds_24 : decode cX12_bounds 24 = .ok (.iload_n 1, 1) := by decide +kernel
theorem dX12_bounds_25 : decode cX12_bounds 25 = .ok (.iconst 5, 1) := by decide +kernel
theorem dX12_bounds_26 : decode cX12_bounds 26 = .ok (.if_icmp .ne 23, 3) := by decide +kernel
theorem dX12_bounds_29 : decode cX12_bounds 29 = .ok (.aload_n 0, 1) := by decide +kernel
theorem dX12_bounds_30 : decode cX12_bounds 30 = .ok (.getfield 69, 3) := by decide +kernel
theorem dX12_bounds_33 : decode cX12_bounds 33 = .ok (.iconst 2, 1) := by decide +kernel
theorem dX12_bounds_34 : decode cX12_bounds 34 = .ok (.iload_n 2, 1) := by decide +kernel
theorem dX12_bounds_35 : decode cX12_bounds 35 = .ok (.imul, 1) := by decide +kernel
theorem dX12_bounds_36 : decode cX12_bounds 36 = .ok (.aload_n 0, 1) := by decide +kernel
theorem dX12_bounds_37 : decode cX12_bounds 37 = .ok (.getfield 69, 3) := by decide +kernel
theorem dX12_bounds_40 : decode cX12_bounds 40 = .ok (.iconst 2, 1) := by decide +kernel
theorem dX12_bounds_41 : decode cX12_bounds 41 = .ok (.iload_n 2, 1) := by decide +kernel
theorem dX12_bounds_42 : decode cX12_bounds 42 = .ok (.imul, 1) := by decide +kernel
theorem dX12_bounds_43 : decode cX12_bounds 43 = .ok (.iaload, 1) := by decide +kernel
theorem dX12_bounds_44 : decode cX12_bounds 44 = .ok (.iload_n 3, 1) := by decide +kernel
theorem dX12_bounds_45 : decode cX12_bounds 45 = .ok (.invokestatic 260, 3) := by decide +kernel
theorem dX12_bounds_48 : decode cX12_bounds 48 = .ok (.iastore, 1) := by decide +kernel
theorem dX12_bounds_49 : decode cX12_bounds 49 = .ok (.iload_n 1, 1) := by decide +kernel
theorem dX12_bounds_50 : decode cX12_bounds 50 = .ok (.ifCond .eq 13, 3) := by decide +kernel
theorem dX12_bounds_53 : decode cX12_bounds 53 = .ok (.iload_n 1, 1) := by decide +kernel
theorem dX12_bounds_54 : decode cX12_bounds 54 = .ok (.iconst 4, 1) := by decide +kernel
theorem dX12_bounds_55 : decode cX12_bounds 55 = .ok (.if_icmp .eq 8, 3) := by decide +kernel
theorem dX12_bounds_58 : decode cX12_bounds 58 = .ok (.iload_n 1, 1) := by decide +kernel
theorem dX12_bounds_59 : decode cX12_bounds 59 = .ok (.iconst 1, 1) := by decide +kernel
theorem dX12_bounds_60 : decode cX12_bounds 60 = .ok (.if_icmp .ne 27, 3) := by decide +kernel
theorem dX12_bounds_63 : decode cX12_bounds 63 = .ok (.aload_n 0, 1) := by decide +kernel
theorem dX12_bounds_64 : decode cX12_bounds 64 = .ok (.getfield 69, 3) := by decide +kernel
theorem dX12_bounds_67 : decode cX12_bounds 67 = .ok (.iconst 2, 1) := by decide +kernel
theorem dX12_bounds_68 : decode cX12_bounds 68 = .ok (.iload_n 2, 1) := by decide +kernel
theorem dX12_bounds_69 : decode cX12_bounds 69 = .ok (.imul, 1) := by decide +kernel
theorem dX12_bounds_70 : decode cX12_bounds 70 = .ok (.iconst 1, 1) := by decide +kernel
theorem dX12_bounds_71 : decode cX12_bounds 71 = .ok (.iadd, 1) := by decide +kernel
theorem dX12_bounds_72 : decode cX12_bounds 72 = .ok (.aload_n 0, 1) := by decide +kernel
theorem dX12_bounds_73 : decode cX12_bounds 73 = .ok (.getfield 69, 3) := by decide +kernel
theorem dX12_bounds_76 : decode cX12_bounds 76 = .ok (.iconst 2, 1) := by decide +kernel
theorem dX12_bounds_77 : decode cX12_bounds 77 = .ok (.iload_n 2, 1) := by decide +kernel
theorem dX12_bounds_78 : decode cX12_bounds 78 = .ok (.imul, 1) := by decide +kernel
theorem dX12_bounds_79 : decode cX12_bounds 79 = .ok (.iconst 1, 1) := by decide +kernel
theorem dX12_bounds_80 : decode cX12_bounds 80 = .ok (.iadd, 1) := by decide +kernel
theorem dX12_bounds_81 : decode cX12_bounds 81 = .ok (.iaload, 1) := by decide +kernel
theorem dX12_bounds_82 : decode cX12_bounds 82 = .ok (.iload_n 3, 1) := by decide +kernel
theorem dX12_bounds_83 : decode cX12_bounds 83 = .ok (.invokestatic 260, 3) := by decide +kernel
theorem dX12_bounds_86 : decode cX12_bounds 86 = .ok (.iastore, 1) := by decide +kernel
theorem dX12_bounds_87 : decode cX12_bounds 87 = .ok (.iload_n 1, 1) := by decide +kernel
theorem dX12_bounds_88 : decode cX12_bounds 88 = .ok (.iconst 1, 1) := by decide +kernel
theorem dX12_bounds_89 : decode cX12_bounds 89 = .ok (.if_icmp .ne 27, 3) := by decide +kernel
theorem dX12_bounds_92 : decode cX12_bounds 92 = .ok (.aload_n 0, 1) := by decide +kernel
theorem dX12_bounds_93 : decode cX12_bounds 93 = .ok (.getfield 72, 3) := by decide +kernel
theorem dX12_bounds_96 : decode cX12_bounds 96 = .ok (.iconst 2, 1) := by decide +kernel
theorem dX12_bounds_97 : decode cX12_bounds 97 = .ok (.iload_n 2, 1) := by decide +kernel
theorem dX12_bounds_98 : decode cX12_bounds 98 = .ok (.imul, 1) := by decide +kernel
theorem dX12_bounds_99 : decode cX12_bounds 99 = .ok (.iconst 1, 1) := by decide +kernel
theorem dX12_bounds_100 : decode cX12_bounds 100 = .ok (.iadd, 1) := by decide +kernel
theorem dX12_bounds_101 : decode cX12_bounds 101 = .ok (.aload_n 0, 1) := by decide +kernel
theorem dX12_bounds_102 : decode cX12_bounds 102 = .ok (.getfield 72, 3) := by decide +kernel
theorem dX12_bounds_105 : decode cX12_bounds 105 = .ok (.iconst 2, 1) := by decide +kernel
theorem dX12_bounds_106 : decode cX12_bounds 106 = .ok (.iload_n 2, 1) := by decide +kernel
theorem dX12_bounds_107 : decode cX12_bounds 107 = .ok (.imul, 1) := by decide +kernel
theorem dX12_bounds_108 : decode cX12_bounds 108 = .ok (.iconst 1, 1) := by decide +kernel
theorem dX12_bounds_109 : decode cX12_bounds 109 = .ok (.iadd, 1) := by decide +kernel
theorem dX12_bounds_110 : decode cX12_bounds 110 = .ok (.iaload, 1) := by decide +kernel
theorem dX12_bounds_111 : decode cX12_bounds 111 = .ok (.iload_n 3, 1) := by decide +kernel
theorem dX12_bounds_112 : decode cX12_bounds 112 = .ok (.invokestatic 308, 3) := by decide +kernel
theorem dX12_bounds_115 : decode cX12_bounds 115 = .ok (.iastore, 1) := by decide +kernel
theorem dX12_bounds_116 : decode cX12_bounds 116 = .ok (.return_, 1) := by decide +kernel
theorem dX12_orders_0 : decode cX12_orders 0 = .ok (.iload_n 1, 1) := by decide +kernel
theorem dX12_orders_1 : decode cX12_orders 1 = .ok (.iconst 2, 1) := by decide +kernel
theorem dX12_orders_2 : decode cX12_orders 2 = .ok (.if_icmp .ne 15, 3) := by decide +kernel
theorem dX12_orders_5 : decode cX12_orders 5 = .ok (.aload_n 0, 1) := by decide +kernel
theorem dX12_orders_6 : decode cX12_orders 6 = .ok (.iconst 2, 1) := by decide +kernel
theorem dX12_orders_7 : decode cX12_orders 7 = .ok (.iload_n 3, 1) := by decide +kernel
theorem dX12_orders_8 : decode cX12_orders 8 = .ok (.imul, 1) := by decide +kernel
theorem dX12_orders_9 : decode cX12_orders 9 = .ok (.iconst 1, 1) := by decide +kernel
theorem dX12_orders_10 : decode cX12_orders 10 = .ok (.iadd, 1) := by decide +kernel
theorem dX12_orders_11 : decode cX12_orders 11 = .ok (.iconst 2, 1) := by decide +kernel
theorem dX12_orders_12 : decode cX12_orders 12 = .ok (.iload_n 2, 1) := by decide +kernel
theorem dX12_orders_13 : decode cX12_orders 13 = .ok (.imul, 1) := by decide +kernel
theorem dX12_orders_14 : decode cX12_orders 14 = .ok (.invokevirtual 320, 3) := by decide +kernel
theorem dX12_orders_17 : decode cX12_orders 17 = .ok (.iload_n 1, 1) := by decide +kernel
theorem dX12_orders_18 : decode cX12_orders 18 = .ok (.iconst 3, 1) := by decide +kernel
theorem dX12_orders_19 : decode cX12_orders 19 = .ok (.if_icmp .eq 4, 3) := by decide +kernel
theorem dX12_orders_22 : decode cX12_orders 22 = .ok (.return_, 1) := by decide +kernel
theorem dX12_orders_23 : decode cX12_orders 23 = .ok (.aload_n 0, 1) := by decide +kernel
theorem dX12_orders_24 : decode cX12_orders 24 = .ok (.iconst 2, 1) := by decide +kernel
theorem dX12_orders_25 : decode cX12_orders 25 = .ok (.iload_n 2, 1) := by decide +kernel
theorem dX12_orders_26 : decode cX12_orders 26 = .ok (.imul, 1) := by decide +kernel
theorem dX12_orders_27 : decode cX12_orders 27 = .ok (.iconst 2, 1) := by decide +kernel
theorem dX12_orders_28 : decode cX12_orders 28 = .ok (.iload_n 3, 1) := by decide +kernel
theorem dX12_orders_29 : decode cX12_orders 29 = .ok (.imul, 1) := by decide +kernel
theorem dX12_orders_30 : decode cX12_orders 30 = .ok (.iconst 1, 1) := by decide +kernel
theorem dX12_orders_31 : decode cX12_orders 31 = .ok (.iadd, 1) := by decide +kernel
theorem dX12_orders_32 : decode cX12_orders 32 = .ok (.invokevirtual 320, 3) := by decide +kernel
theorem dX12_orders_35 : decode cX12_orders 35 = .ok (.aload_n 0, 1) := by decide +kernel
theorem dX12_orders_36 : decode cX12_orders 36 = .ok (.iconst 2, 1) := by decide +kernel
theorem dX12_orders_37 : decode cX12_orders 37 = .ok (.iload_n 3, 1) := by decide +kernel
theorem dX12_orders_38 : decode cX12_orders 38 = .ok (.imul, 1) := by decide +kernel
theorem dX12_orders_39 : decode cX12_orders 39 = .ok (.iconst 2, 1) := by decide +kernel
theorem dX12_orders_40 : decode cX12_orders 40 = .ok (.iload_n 2, 1) := by decide +kernel
theorem dX12_orders_41 : decode cX12_orders 41 = .ok (.imul, 1) := by decide +kernel
theorem dX12_orders_42 : decode cX12_orders 42 = .ok (.iconst 1, 1) := by decide +kernel
theorem dX12_orders_43 : decode cX12_orders 43 = .ok (.iadd, 1) := by decide +kernel
theorem dX12_orders_44 : decode cX12_orders 44 = .ok (.invokevirtual 320, 3) := by decide +kernel
theorem dX12_orders_47 : decode cX12_orders 47 = .ok (.return_, 1) := by decide +kernel
theorem dX12_ahead_0 : decode cX12_ahead 0 = .ok (.aload_n 0, 1) := by decide +kernel
theorem dX12_ahead_1 : decode cX12_ahead 1 = .ok (.getfield 69, 3) := by decide +kernel
theorem dX12_ahead_4 : decode cX12_ahead 4 = .ok (.iload_n 2, 1) := by decide +kernel
theorem dX12_ahead_5 : decode cX12_ahead 5 = .ok (.iaload, 1) := by decide +kernel
theorem dX12_ahead_6 : decode cX12_ahead 6 = .ok (.aload_n 0, 1) := by decide +kernel
theorem dX12_ahead_7 : decode cX12_ahead 7 = .ok (.getfield 69, 3) := by decide +kernel
theorem dX12_ahead_10 : decode cX12_ahead 10 = .ok (.iload_n 1, 1) := by decide +kernel
theorem dX12_ahead_11 : decode cX12_ahead 11 = .ok (.iaload, 1) := by decide +kernel
theorem dX12_ahead_12 : decode cX12_ahead 12 = .ok (.if_icmp .ge 20, 3) := by decide +kernel
theorem dX12_ahead_15 : decode cX12_ahead 15 = .ok (.aload_n 0, 1) := by decide +kernel
theorem dX12_ahead_16 : decode cX12_ahead 16 = .ok (.getfield 69, 3) := by decide +kernel
theorem dX12_ahead_19 : decode cX12_ahead 19 = .ok (.iload_n 2, 1) := by decide +kernel
theorem dX12_ahead_20 : decode cX12_ahead 20 = .ok (.aload_n 0, 1) := by decide +kernel
theorem dX12_ahead_21 : decode cX12_ahead 21 = .ok (.getfield 69, 3) := by decide +kernel
theorem dX12_ahead_24 : decode cX12_ahead 24 = .ok (.iload_n 1, 1) := by decide +kernel
theorem dX12_ahead_25 : decode cX12_ahead 25 = .ok (.iaload, 1) := by decide +kernel
theorem dX12_ahead_26 : decode cX12_ahead 26 = .ok (.iastore, 1) := by decide +kernel
theorem dX12_ahead_27 : decode cX12_ahead 27 = .ok (.aload_n 0, 1) := by decide +kernel
theorem dX12_ahead_28 : decode cX12_ahead 28 = .ok (.iconst 1, 1) := by decide +kernel
theorem dX12_ahead_29 : decode cX12_ahead 29 = .ok (.putfield 317, 3) := by decide +kernel
theorem dX12_ahead_32 : decode cX12_ahead 32 = .ok (.aload_n 0, 1) := by decide +kernel
theorem dX12_ahead_33 : decode cX12_ahead 33 = .ok (.getfield 72, 3) := by decide +kernel
theorem dX12_ahead_36 : decode cX12_ahead 36 = .ok (.iload_n 1, 1) := by decide +kernel
theorem dX12_ahead_37 : decode cX12_ahead 37 = .ok (.iaload, 1) := by decide +kernel
theorem dX12_ahead_38 : decode cX12_ahead 38 = .ok (.aload_n 0, 1) := by decide +kernel
theorem dX12_ahead_39 : decode cX12_ahead 39 = .ok (.getfield 72, 3) := by decide +kernel
theorem dX12_ahead_42 : decode cX12_ahead 42 = .ok (.iload_n 2, 1) := by decide +kernel
theorem dX12_ahead_43 : decode cX12_ahead 43 = .ok (.iaload, 1) := by decide +kernel
theorem dX12_ahead_44 : decode cX12_ahead 44 = .ok (.if_icmp .le 20, 3) := by decide +kernel
theorem dX12_ahead_47 : decode cX12_ahead 47 = .ok (.aload_n 0, 1) := by decide +kernel
theorem dX12_ahead_48 : decode cX12_ahead 48 = .ok (.getfield 72, 3) := by decide +kernel
theorem dX12_ahead_51 : decode cX12_ahead 51 = .ok (.iload_n 1, 1) := by decide +kernel
theorem dX12_ahead_52 : decode cX12_ahead 52 = .ok (.aload_n 0, 1) := by decide +kernel
theorem dX12_ahead_53 : decode cX12_ahead 53 = .ok (.getfield 72, 3) := by decide +kernel
theorem dX12_ahead_56 : decode cX12_ahead 56 = .ok (.iload_n 2, 1) := by decide +kernel
theorem dX12_ahead_57 : decode cX12_ahead 57 = .ok (.iaload, 1) := by decide +kernel
theorem dX12_ahead_58 : decode cX12_ahead 58 = .ok (.iastore, 1) := by decide +kernel
theorem dX12_ahead_59 : decode cX12_ahead 59 = .ok (.aload_n 0, 1) := by decide +kernel
theorem dX12_ahead_60 : decode cX12_ahead 60 = .ok (.iconst 1, 1) := by decide +kernel
theorem dX12_ahead_61 : decode cX12_ahead 61 = .ok (.putfield 317, 3) := by decide +kernel
theorem dX12_ahead_64 : decode cX12_ahead 64 = .ok (.return_, 1) := by decide +kernel
theorem dX12_isKnown_0 : decode cX12_isKnown 0 = .ok (.iload_n 1, 1) := by decide +kernel
theorem dX12_isKnown_1 : decode cX12_isKnown 1 = .ok (.ifCond .lt 15, 3) := by decide +kernel
theorem dX12_isKnown_4 : decode cX12_isKnown 4 = .ok (.iload_n 1, 1) := by decide +kernel
theorem dX12_isKnown_5 : decode cX12_isKnown 5 = .ok (.aload_n 0, 1) := by decide +kernel
theorem dX12_isKnown_6 : decode cX12_isKnown 6 = .ok (.getfield 230, 3) := by decide +kernel
theorem dX12_isKnown_9 : decode cX12_isKnown 9 = .ok (.if_icmp .gt 7, 3) := by decide +kernel
theorem dX12_isKnown_12 : decode cX12_isKnown 12 = .ok (.iconst 1, 1) := by decide +kernel
theorem dX12_isKnown_13 : decode cX12_isKnown 13 = .ok (.goto 4, 3) := by decide +kernel
theorem dX12_isKnown_16 : decode cX12_isKnown 16 = .ok (.iconst 0, 1) := by decide +kernel
theorem dX12_isKnown_17 : decode cX12_isKnown 17 = .ok (.ireturn, 1) := by decide +kernel
theorem dX12_years_0 : decode cX12_years 0 = .ok (.aload_n 0, 1) := by decide +kernel
theorem dX12_years_1 : decode cX12_years 1 = .ok (.iconst 0, 1) := by decide +kernel
theorem dX12_years_2 : decode cX12_years 2 = .ok (.putfield 224, 3) := by decide +kernel
theorem dX12_years_5 : decode cX12_years 5 = .ok (.aload_n 0, 1) := by decide +kernel
theorem dX12_years_6 : decode cX12_years 6 = .ok (.iload_n 1, 1) := by decide +kernel
theorem dX12_years_7 : decode cX12_years 7 = .ok (.invokevirtual 250, 3) := by decide +kernel
theorem dX12_years_10 : decode cX12_years 10 = .ok (.ifCond .eq 28, 3) := by decide +kernel
theorem dX12_years_13 : decode cX12_years 13 = .ok (.aload_n 0, 1) := by decide +kernel
theorem dX12_years_14 : decode cX12_years 14 = .ok (.iload_n 2, 1) := by decide +kernel
theorem dX12_years_15 : decode cX12_years 15 = .ok (.invokevirtual 326, 3) := by decide +kernel
theorem dX12_years_18 : decode cX12_years 18 = .ok (.ifCond .eq 20, 3) := by decide +kernel
theorem dX12_years_21 : decode cX12_years 21 = .ok (.iload_n 3, 1) := by decide +kernel
theorem dX12_years_22 : decode cX12_years 22 = .ok (.ifCond .lt 16, 3) := by decide +kernel
theorem dX12_years_25 : decode cX12_years 25 = .ok (.iload_n 3, 1) := by decide +kernel
theorem dX12_years_26 : decode cX12_years 26 = .ok (.iconst 3, 1) := by decide +kernel
theorem dX12_years_27 : decode cX12_years 27 = .ok (.if_icmp .gt 11, 3) := by decide +kernel
theorem dX12_years_30 : decode cX12_years 30 = .ok (.aload_n 0, 1) := by decide +kernel
theorem dX12_years_31 : decode cX12_years 31 = .ok (.iload_n 2, 1) := by decide +kernel
theorem dX12_years_32 : decode cX12_years 32 = .ok (.invokevirtual 329, 3) := by decide +kernel
theorem dX12_years_35 : decode cX12_years 35 = .ok (.ifCond .ne 5, 3) := by decide +kernel
theorem dX12_years_38 : decode cX12_years 38 = .ok (.iconst (-1), 1) := by decide +kernel
theorem dX12_years_39 : decode cX12_years 39 = .ok (.ireturn, 1) := by decide +kernel
theorem dX12_years_40 : decode cX12_years 40 = .ok (.iload_n 3, 1) := by decide +kernel
theorem dX12_years_41 : decode cX12_years 41 = .ok (.ifCond .ne 14, 3) := by decide +kernel
theorem dX12_years_44 : decode cX12_years 44 = .ok (.aload_n 0, 1) := by decide +kernel
theorem dX12_years_45 : decode cX12_years 45 = .ok (.getfield 69, 3) := by decide +kernel
theorem dX12_years_48 : decode cX12_years 48 = .ok (.iconst 2, 1) := by decide +kernel
theorem dX12_years_49 : decode cX12_years 49 = .ok (.iload_n 1, 1) := by decide +kernel
theorem dX12_years_50 : decode cX12_years 50 = .ok (.imul, 1) := by decide +kernel
theorem dX12_years_51 : decode cX12_years 51 = .ok (.iaload, 1) := by decide +kernel
theorem dX12_years_52 : decode cX12_years 52 = .ok (.goto 47, 3) := by decide +kernel
theorem dX12_years_55 : decode cX12_years 55 = .ok (.iload_n 3, 1) := by decide +kernel
theorem dX12_years_56 : decode cX12_years 56 = .ok (.iconst 1, 1) := by decide +kernel
theorem dX12_years_57 : decode cX12_years 57 = .ok (.if_icmp .ne 14, 3) := by decide +kernel
theorem dX12_years_60 : decode cX12_years 60 = .ok (.aload_n 0, 1) := by decide +kernel
theorem dX12_years_61 : decode cX12_years 61 = .ok (.getfield 72, 3) := by decide +kernel
theorem dX12_years_64 : decode cX12_years 64 = .ok (.iconst 2, 1) := by decide +kernel
theorem dX12_years_65 : decode cX12_years 65 = .ok (.iload_n 1, 1) := by decide +kernel
theorem dX12_years_66 : decode cX12_years 66 = .ok (.imul, 1) := by decide +kernel
theorem dX12_years_67 : decode cX12_years 67 = .ok (.iaload, 1) := by decide +kernel
theorem dX12_years_68 : decode cX12_years 68 = .ok (.goto 31, 3) := by decide +kernel
theorem dX12_years_71 : decode cX12_years 71 = .ok (.iload_n 3, 1) := by decide +kernel
theorem dX12_years_72 : decode cX12_years 72 = .ok (.iconst 2, 1) := by decide +kernel
theorem dX12_years_73 : decode cX12_years 73 = .ok (.if_icmp .ne 16, 3) := by decide +kernel
theorem dX12_years_76 : decode cX12_years 76 = .ok (.aload_n 0, 1) := by decide +kernel
theorem dX12_years_77 : decode cX12_years 77 = .ok (.getfield 69, 3) := by decide +kernel
theorem dX12_years_80 : decode cX12_years 80 = .ok (.iconst 2, 1) := by decide +kernel
theorem dX12_years_81 : decode cX12_years 81 = .ok (.iload_n 1, 1) := by decide +kernel
theorem dX12_years_82 : decode cX12_years 82 = .ok (.imul, 1) := by decide +kernel
theorem dX12_years_83 : decode cX12_years 83 = .ok (.iconst 1, 1) := by decide +kernel
theorem dX12_years_84 : decode cX12_years 84 = .ok (.iadd, 1) := by decide +kernel
theorem dX12_years_85 : decode cX12_years 85 = .ok (.iaload, 1) := by decide +kernel
theorem dX12_years_86 : decode cX12_years 86 = .ok (.goto 13, 3) := by decide +kernel
theorem dX12_years_89 : decode cX12_years 89 = .ok (.aload_n 0, 1) := by decide +kernel
theorem dX12_years_90 : decode cX12_years 90 = .ok (.getfield 72, 3) := by decide +kernel
theorem dX12_years_93 : decode cX12_years 93 = .ok (.iconst 2, 1) := by decide +kernel
theorem dX12_years_94 : decode cX12_years 94 = .ok (.iload_n 1, 1) := by decide +kernel
theorem dX12_years_95 : decode cX12_years 95 = .ok (.imul, 1) := by decide +kernel
theorem dX12_years_96 : decode cX12_years 96 = .ok (.iconst 1, 1) := by decide +kernel
theorem dX12_years_97 : decode cX12_years 97 = .ok (.iadd, 1) := by decide +kernel
theorem dX12_years_98 : decode cX12_years 98 = .ok (.iaload, 1) := by decide +kernel
theorem dX12_years_99 : decode cX12_years 99 = .ok (.ireturn, 1) := by decide +kernel
theorem dX12_quarrel_0 : decode cX12_quarrel 0 = .ok (.aload_n 0, 1) := by decide +kernel
theorem dX12_quarrel_1 : decode cX12_quarrel 1 = .ok (.iconst 0, 1) := by decide +kernel
theorem dX12_quarrel_2 : decode cX12_quarrel 2 = .ok (.putfield 224, 3) := by decide +kernel
theorem dX12_quarrel_5 : decode cX12_quarrel 5 = .ok (.iconst 0, 1) := by decide +kernel
theorem dX12_quarrel_6 : decode cX12_quarrel 6 = .ok (.istore_n 1, 1) := by decide +kernel
theorem dX12_quarrel_7 : decode cX12_quarrel 7 = .ok (.iload_n 1, 1) := by decide +kernel
theorem dX12_quarrel_8 : decode cX12_quarrel 8 = .ok (.aload_n 0, 1) := by decide +kernel
theorem dX12_quarrel_9 : decode cX12_quarrel 9 = .ok (.getfield 230, 3) := by decide +kernel
theorem dX12_quarrel_12 : decode cX12_quarrel 12 = .ok (.if_icmp .gt 19, 3) := by decide +kernel
theorem dX12_quarrel_15 : decode cX12_quarrel 15 = .ok (.aload_n 0, 1) := by decide +kernel
theorem dX12_quarrel_16 : decode cX12_quarrel 16 = .ok (.iload_n 1, 1) := by decide +kernel
theorem dX12_quarrel_17 : decode cX12_quarrel 17 = .ok (.invokevirtual 329, 3) := by decide +kernel
theorem dX12_quarrel_20 : decode cX12_quarrel 20 = .ok (.ifCond .ne 5, 3) := by decide +kernel
theorem dX12_quarrel_23 : decode cX12_quarrel 23 = .ok (.iload_n 1, 1) := by decide +kernel
theorem dX12_quarrel_24 : decode cX12_quarrel 24 = .ok (.ireturn, 1) := by decide +kernel
theorem dX12_quarrel_25 : decode cX12_quarrel 25 = .ok (.iinc 1 1, 3) := by decide +kernel
theorem dX12_quarrel_28 : decode cX12_quarrel 28 = .ok (.goto (-21), 3) := by decide +kernel
theorem dX12_quarrel_31 : decode cX12_quarrel 31 = .ok (.iconst (-1), 1) := by decide +kernel
theorem dX12_quarrel_32 : decode cX12_quarrel 32 = .ok (.ireturn, 1) := by decide +kernel
theorem dX12_stoodIn_0 : decode cX12_stoodIn 0 = .ok (.aload_n 0, 1) := by decide +kernel
theorem dX12_stoodIn_1 : decode cX12_stoodIn 1 = .ok (.getfield 72, 3) := by decide +kernel
theorem dX12_stoodIn_4 : decode cX12_stoodIn 4 = .ok (.iconst 2, 1) := by decide +kernel
theorem dX12_stoodIn_5 : decode cX12_stoodIn 5 = .ok (.iload_n 1, 1) := by decide +kernel
theorem dX12_stoodIn_6 : decode cX12_stoodIn 6 = .ok (.imul, 1) := by decide +kernel
theorem dX12_stoodIn_7 : decode cX12_stoodIn 7 = .ok (.iaload, 1) := by decide +kernel
theorem dX12_stoodIn_8 : decode cX12_stoodIn 8 = .ok (.iload_n 2, 1) := by decide +kernel
theorem dX12_stoodIn_9 : decode cX12_stoodIn 9 = .ok (.if_icmp .gt 19, 3) := by decide +kernel
theorem dX12_stoodIn_12 : decode cX12_stoodIn 12 = .ok (.aload_n 0, 1) := by decide +kernel
theorem dX12_stoodIn_13 : decode cX12_stoodIn 13 = .ok (.getfield 69, 3) := by decide +kernel
theorem dX12_stoodIn_16 : decode cX12_stoodIn 16 = .ok (.iconst 2, 1) := by decide +kernel
theorem dX12_stoodIn_17 : decode cX12_stoodIn 17 = .ok (.iload_n 1, 1) := by decide +kernel
theorem dX12_stoodIn_18 : decode cX12_stoodIn 18 = .ok (.imul, 1) := by decide +kernel
theorem dX12_stoodIn_19 : decode cX12_stoodIn 19 = .ok (.iconst 1, 1) := by decide +kernel
theorem dX12_stoodIn_20 : decode cX12_stoodIn 20 = .ok (.iadd, 1) := by decide +kernel
theorem dX12_stoodIn_21 : decode cX12_stoodIn 21 = .ok (.iaload, 1) := by decide +kernel
theorem dX12_stoodIn_22 : decode cX12_stoodIn 22 = .ok (.iload_n 2, 1) := by decide +kernel
theorem dX12_stoodIn_23 : decode cX12_stoodIn 23 = .ok (.if_icmp .lt 5, 3) := by decide +kernel
theorem dX12_stoodIn_26 : decode cX12_stoodIn 26 = .ok (.iconst 2, 1) := by decide +kernel
theorem dX12_stoodIn_27 : decode cX12_stoodIn 27 = .ok (.ireturn, 1) := by decide +kernel
theorem dX12_stoodIn_28 : decode cX12_stoodIn 28 = .ok (.aload_n 0, 1) := by decide +kernel
theorem dX12_stoodIn_29 : decode cX12_stoodIn 29 = .ok (.getfield 69, 3) := by decide +kernel
theorem dX12_stoodIn_32 : decode cX12_stoodIn 32 = .ok (.iconst 2, 1) := by decide +kernel
theorem dX12_stoodIn_33 : decode cX12_stoodIn 33 = .ok (.iload_n 1, 1) := by decide +kernel
theorem dX12_stoodIn_34 : decode cX12_stoodIn 34 = .ok (.imul, 1) := by decide +kernel
theorem dX12_stoodIn_35 : decode cX12_stoodIn 35 = .ok (.iaload, 1) := by decide +kernel
theorem dX12_stoodIn_36 : decode cX12_stoodIn 36 = .ok (.iload_n 2, 1) := by decide +kernel
theorem dX12_stoodIn_37 : decode cX12_stoodIn 37 = .ok (.if_icmp .gt 21, 3) := by decide +kernel
theorem dX12_stoodIn_40 : decode cX12_stoodIn 40 = .ok (.aload_n 0, 1) := by decide +kernel
theorem dX12_stoodIn_41 : decode cX12_stoodIn 41 = .ok (.getfield 72, 3) := by decide +kernel
theorem dX12_stoodIn_44 : decode cX12_stoodIn 44 = .ok (.iconst 2, 1) := by decide +kernel
theorem dX12_stoodIn_45 : decode cX12_stoodIn 45 = .ok (.iload_n 1, 1) := by decide +kernel
theorem dX12_stoodIn_46 : decode cX12_stoodIn 46 = .ok (.imul, 1) := by decide +kernel
theorem dX12_stoodIn_47 : decode cX12_stoodIn 47 = .ok (.iconst 1, 1) := by decide +kernel
theorem dX12_stoodIn_48 : decode cX12_stoodIn 48 = .ok (.iadd, 1) := by decide +kernel
theorem dX12_stoodIn_49 : decode cX12_stoodIn 49 = .ok (.iaload, 1) := by decide +kernel
theorem dX12_stoodIn_50 : decode cX12_stoodIn 50 = .ok (.iload_n 2, 1) := by decide +kernel
theorem dX12_stoodIn_51 : decode cX12_stoodIn 51 = .ok (.if_icmp .lt 7, 3) := by decide +kernel
theorem dX12_stoodIn_54 : decode cX12_stoodIn 54 = .ok (.iconst 1, 1) := by decide +kernel
theorem dX12_stoodIn_55 : decode cX12_stoodIn 55 = .ok (.goto 4, 3) := by decide +kernel
theorem dX12_stoodIn_58 : decode cX12_stoodIn 58 = .ok (.iconst 0, 1) := by decide +kernel
theorem dX12_stoodIn_59 : decode cX12_stoodIn 59 = .ok (.ireturn, 1) := by decide +kernel
theorem dX12_stood_0 : decode cX12_stood 0 = .ok (.aload_n 0, 1) := by decide +kernel
theorem dX12_stood_1 : decode cX12_stood 1 = .ok (.iconst 0, 1) := by decide +kernel
theorem dX12_stood_2 : decode cX12_stood 2 = .ok (.putfield 224, 3) := by decide +kernel
theorem dX12_stood_5 : decode cX12_stood 5 = .ok (.aload_n 0, 1) := by decide +kernel
theorem dX12_stood_6 : decode cX12_stood 6 = .ok (.iload_n 1, 1) := by decide +kernel
theorem dX12_stood_7 : decode cX12_stood 7 = .ok (.invokevirtual 250, 3) := by decide +kernel
theorem dX12_stood_10 : decode cX12_stood 10 = .ok (.ifCond .eq 22, 3) := by decide +kernel
theorem dX12_stood_13 : decode cX12_stood 13 = .ok (.iload_n 2, 1) := by decide +kernel
theorem dX12_stood_14 : decode cX12_stood 14 = .ok (.ifCond .lt 18, 3) := by decide +kernel
theorem dX12_stood_17 : decode cX12_stood 17 = .ok (.iload_n 2, 1) := by decide +kernel
theorem dX12_stood_18 : decode cX12_stood 18 = .ok (.sipush 500, 3) := by decide +kernel
theorem dX12_stood_21 : decode cX12_stood 21 = .ok (.if_icmp .gt 11, 3) := by decide +kernel
theorem dX12_stood_24 : decode cX12_stood 24 = .ok (.aload_n 0, 1) := by decide +kernel
theorem dX12_stood_25 : decode cX12_stood 25 = .ok (.iload_n 3, 1) := by decide +kernel
theorem dX12_stood_26 : decode cX12_stood 26 = .ok (.invokevirtual 326, 3) := by decide +kernel
theorem dX12_stood_29 : decode cX12_stood 29 = .ok (.ifCond .ne 5, 3) := by decide +kernel
theorem dX12_stood_32 : decode cX12_stood 32 = .ok (.iconst (-1), 1) := by decide +kernel
theorem dX12_stood_33 : decode cX12_stood 33 = .ok (.ireturn, 1) := by decide +kernel
theorem dX12_stood_34 : decode cX12_stood 34 = .ok (.aload_n 0, 1) := by decide +kernel
theorem dX12_stood_35 : decode cX12_stood 35 = .ok (.iload_n 3, 1) := by decide +kernel
theorem dX12_stood_36 : decode cX12_stood 36 = .ok (.invokevirtual 329, 3) := by decide +kernel
theorem dX12_stood_39 : decode cX12_stood 39 = .ok (.ifCond .eq 12, 3) := by decide +kernel
theorem dX12_stood_42 : decode cX12_stood 42 = .ok (.aload_n 0, 1) := by decide +kernel
theorem dX12_stood_43 : decode cX12_stood 43 = .ok (.iload_n 1, 1) := by decide +kernel
theorem dX12_stood_44 : decode cX12_stood 44 = .ok (.iload_n 2, 1) := by decide +kernel
theorem dX12_stood_45 : decode cX12_stood 45 = .ok (.invokevirtual 332, 3) := by decide +kernel
theorem dX12_stood_48 : decode cX12_stood 48 = .ok (.goto 4, 3) := by decide +kernel
theorem dX12_stood_51 : decode cX12_stood 51 = .ok (.iconst 0, 1) := by decide +kernel
theorem dX12_stood_52 : decode cX12_stood 52 = .ok (.ireturn, 1) := by decide +kernel
theorem dX12_isAsked_0 : decode cX12_isAsked 0 = .ok (.iload_n 0, 1) := by decide +kernel
theorem dX12_isAsked_1 : decode cX12_isAsked 1 = .ok (.iload_n 1, 1) := by decide +kernel
theorem dX12_isAsked_2 : decode cX12_isAsked 2 = .ok (.invokestatic 246, 3) := by decide +kernel
theorem dX12_isAsked_5 : decode cX12_isAsked 5 = .ok (.ifCond .eq 18, 3) := by decide +kernel
theorem dX12_isAsked_8 : decode cX12_isAsked 8 = .ok (.iload_n 2, 1) := by decide +kernel
theorem dX12_isAsked_9 : decode cX12_isAsked 9 = .ok (.ifCond .lt 14, 3) := by decide +kernel
theorem dX12_isAsked_12 : decode cX12_isAsked 12 = .ok (.iload_n 2, 1) := by decide +kernel
theorem dX12_isAsked_13 : decode cX12_isAsked 13 = .ok (.sipush 500, 3) := by decide +kernel
theorem dX12_isAsked_16 : decode cX12_isAsked 16 = .ok (.if_icmp .gt 7, 3) := by decide +kernel
theorem dX12_isAsked_19 : decode cX12_isAsked 19 = .ok (.iconst 1, 1) := by decide +kernel
theorem dX12_isAsked_20 : decode cX12_isAsked 20 = .ok (.goto 4, 3) := by decide +kernel
theorem dX12_isAsked_23 : decode cX12_isAsked 23 = .ok (.iconst 0, 1) := by decide +kernel
theorem dX12_isAsked_24 : decode cX12_isAsked 24 = .ok (.ireturn, 1) := by decide +kernel
theorem dX12_lines_0 : decode cX12_lines 0 = .ok (.aload_n 0, 1) := by decide +kernel
theorem dX12_lines_1 : decode cX12_lines 1 = .ok (.aload_n 0, 1) := by decide +kernel
theorem dX12_lines_2 : decode cX12_lines 2 = .ok (.getfield 230, 3) := by decide +kernel
theorem dX12_lines_5 : decode cX12_lines 5 = .ok (.invokevirtual 329, 3) := by decide +kernel
theorem dX12_lines_8 : decode cX12_lines 8 = .ok (.istore 5, 2) := by decide +kernel
theorem dX12_lines_10 : decode cX12_lines 10 = .ok (.aload_n 0, 1) := by decide +kernel
theorem dX12_lines_11 : decode cX12_lines 11 = .ok (.iconst 0, 1) := by decide +kernel
theorem dX12_lines_12 : decode cX12_lines 12 = .ok (.putfield 335, 3) := by decide +kernel
theorem dX12_lines_15 : decode cX12_lines 15 = .ok (.aload_n 0, 1) := by decide +kernel
theorem dX12_lines_16 : decode cX12_lines 16 = .ok (.iconst 0, 1) := by decide +kernel
theorem dX12_lines_17 : decode cX12_lines 17 = .ok (.putfield 338, 3) := by decide +kernel
theorem dX12_lines_20 : decode cX12_lines 20 = .ok (.iconst 0, 1) := by decide +kernel
theorem dX12_lines_21 : decode cX12_lines 21 = .ok (.istore 6, 2) := by decide +kernel
theorem dX12_lines_23 : decode cX12_lines 23 = .ok (.iload 6, 2) := by decide +kernel
theorem dX12_lines_25 : decode cX12_lines 25 = .ok (.aload_n 0, 1) := by decide +kernel
theorem dX12_lines_26 : decode cX12_lines 26 = .ok (.getfield 227, 3) := by decide +kernel
theorem dX12_lines_29 : decode cX12_lines 29 = .ok (.if_icmp .ge 84, 3) := by decide +kernel
theorem dX12_lines_32 : decode cX12_lines 32 = .ok (.aload_n 0, 1) := by decide +kernel
theorem dX12_lines_33 : decode cX12_lines 33 = .ok (.getfield 75, 3) := by decide +kernel
theorem dX12_lines_36 : decode cX12_lines 36 = .ok (.iload 6, 2) := by decide +kernel
theorem dX12_lines_38 : decode cX12_lines 38 = .ok (.iconst 0, 1) := by decide +kernel
theorem dX12_lines_39 : decode cX12_lines 39 = .ok (.iastore, 1) := by decide +kernel
theorem dX12_lines_40 : decode cX12_lines 40 = .ok (.iload 5, 2) := by decide +kernel
theorem dX12_lines_42 : decode cX12_lines 42 = .ok (.ifCond .eq 65, 3) := by decide +kernel
theorem dX12_lines_45 : decode cX12_lines 45 = .ok (.aload_n 0, 1) := by decide +kernel
theorem dX12_lines_46 : decode cX12_lines 46 = .ok (.iload 6, 2) := by decide +kernel
theorem dX12_lines_48 : decode cX12_lines 48 = .ok (.iload_n 3, 1) := by decide +kernel
theorem dX12_lines_49 : decode cX12_lines 49 = .ok (.invokevirtual 332, 3) := by decide +kernel
theorem dX12_lines_52 : decode cX12_lines 52 = .ok (.iload 4, 2) := by decide +kernel
theorem dX12_lines_54 : decode cX12_lines 54 = .ok (.if_icmp .ge 6, 3) := by decide +kernel
theorem dX12_lines_57 : decode cX12_lines 57 = .ok (.goto 50, 3) := by decide +kernel
theorem dX12_lines_60 : decode cX12_lines 60 = .ok (.aload_n 0, 1) := by decide +kernel
theorem dX12_lines_61 : decode cX12_lines 61 = .ok (.getfield 47, 3) := by decide +kernel
theorem dX12_lines_64 : decode cX12_lines 64 = .ok (.iload 6, 2) := by decide +kernel
theorem dX12_lines_66 : decode cX12_lines 66 = .ok (.iaload, 1) := by decide +kernel
theorem dX12_lines_67 : decode cX12_lines 67 = .ok (.ifCond .ne 16, 3) := by decide +kernel
theorem dX12_lines_70 : decode cX12_lines 70 = .ok (.aload_n 0, 1) := by decide +kernel
theorem dX12_lines_71 : decode cX12_lines 71 = .ok (.dup, 1) := by decide +kernel
theorem dX12_lines_72 : decode cX12_lines 72 = .ok (.getfield 335, 3) := by decide +kernel
theorem dX12_lines_75 : decode cX12_lines 75 = .ok (.iconst 1, 1) := by decide +kernel
theorem dX12_lines_76 : decode cX12_lines 76 = .ok (.iload 6, 2) := by decide +kernel
theorem dX12_lines_78 : decode cX12_lines 78 = .ok (.ishl, 1) := by decide +kernel
theorem dX12_lines_79 : decode cX12_lines 79 = .ok (.ior, 1) := by decide +kernel
theorem dX12_lines_80 : decode cX12_lines 80 = .ok (.putfield 335, 3) := by decide +kernel
theorem dX12_lines_83 : decode cX12_lines 83 = .ok (.aload_n 0, 1) := by decide +kernel
theorem dX12_lines_84 : decode cX12_lines 84 = .ok (.getfield 47, 3) := by decide +kernel
theorem dX12_lines_87 : decode cX12_lines 87 = .ok (.iload 6, 2) := by decide +kernel
theorem dX12_lines_89 : decode cX12_lines 89 = .ok (.iaload, 1) := by decide +kernel
theorem dX12_lines_90 : decode cX12_lines 90 = .ok (.iconst 1, 1) := by decide +kernel
theorem dX12_lines_91 : decode cX12_lines 91 = .ok (.if_icmp .ne 16, 3) := by decide +kernel
theorem dX12_lines_94 : decode cX12_lines 94 = .ok (.aload_n 0, 1) := by decide +kernel
theorem dX12_lines_95 : decode cX12_lines 95 = .ok (.dup, 1) := by decide +kernel
theorem dX12_lines_96 : decode cX12_lines 96 = .ok (.getfield 338, 3) := by decide +kernel
theorem dX12_lines_99 : decode cX12_lines 99 = .ok (.iconst 1, 1) := by decide +kernel
theorem dX12_lines_100 : decode cX12_lines 100 = .ok (.iload 6, 2) := by decide +kernel
theorem dX12_lines_102 : decode cX12_lines 102 = .ok (.ishl, 1) := by decide +kernel
theorem dX12_lines_103 : decode cX12_lines 103 = .ok (.ior, 1) := by decide +kernel
theorem dX12_lines_104 : decode cX12_lines 104 = .ok (.putfield 338, 3) := by decide +kernel
theorem dX12_lines_107 : decode cX12_lines 107 = .ok (.iinc 6 1, 3) := by decide +kernel
theorem dX12_lines_110 : decode cX12_lines 110 = .ok (.goto (-87), 3) := by decide +kernel
theorem dX12_lines_113 : decode cX12_lines 113 = .ok (.aload_n 0, 1) := by decide +kernel
theorem dX12_lines_114 : decode cX12_lines 114 = .ok (.getfield 335, 3) := by decide +kernel
theorem dX12_lines_117 : decode cX12_lines 117 = .ok (.aload_n 0, 1) := by decide +kernel
theorem dX12_lines_118 : decode cX12_lines 118 = .ok (.getfield 338, 3) := by decide +kernel
theorem dX12_lines_121 : decode cX12_lines 121 = .ok (.ior, 1) := by decide +kernel
theorem dX12_lines_122 : decode cX12_lines 122 = .ok (.istore 6, 2) := by decide +kernel
theorem dX12_lines_124 : decode cX12_lines 124 = .ok (.iconst 0, 1) := by decide +kernel
theorem dX12_lines_125 : decode cX12_lines 125 = .ok (.istore 7, 2) := by decide +kernel
theorem dX12_lines_127 : decode cX12_lines 127 = .ok (.iload 7, 2) := by decide +kernel
theorem dX12_lines_129 : decode cX12_lines 129 = .ok (.aload_n 0, 1) := by decide +kernel
theorem dX12_lines_130 : decode cX12_lines 130 = .ok (.getfield 227, 3) := by decide +kernel
theorem dX12_lines_133 : decode cX12_lines 133 = .ok (.if_icmp .ge 91, 3) := by decide +kernel
theorem dX12_lines_136 : decode cX12_lines 136 = .ok (.iconst 0, 1) := by decide +kernel
theorem dX12_lines_137 : decode cX12_lines 137 = .ok (.istore 8, 2) := by decide +kernel
theorem dX12_lines_139 : decode cX12_lines 139 = .ok (.iload 8, 2) := by decide +kernel
theorem dX12_lines_141 : decode cX12_lines 141 = .ok (.iload 7, 2) := by decide +kernel
theorem dX12_lines_143 : decode cX12_lines 143 = .ok (.if_icmp .ge 75, 3) := by decide +kernel
theorem dX12_lines_146 : decode cX12_lines 146 = .ok (.iload 6, 2) := by decide +kernel
theorem dX12_lines_148 : decode cX12_lines 148 = .ok (.iload 7, 2) := by decide +kernel
theorem dX12_lines_150 : decode cX12_lines 150 = .ok (.ishr, 1) := by decide +kernel
theorem dX12_lines_151 : decode cX12_lines 151 = .ok (.iconst 1, 1) := by decide +kernel
theorem dX12_lines_152 : decode cX12_lines 152 = .ok (.iand, 1) := by decide +kernel
theorem dX12_lines_153 : decode cX12_lines 153 = .ok (.ifCond .eq 59, 3) := by decide +kernel
theorem dX12_lines_156 : decode cX12_lines 156 = .ok (.iload 6, 2) := by decide +kernel
theorem dX12_lines_158 : decode cX12_lines 158 = .ok (.iload 8, 2) := by decide +kernel
theorem dX12_lines_160 : decode cX12_lines 160 = .ok (.ishr, 1) := by decide +kernel
theorem dX12_lines_161 : decode cX12_lines 161 = .ok (.iconst 1, 1) := by decide +kernel
theorem dX12_lines_162 : decode cX12_lines 162 = .ok (.iand, 1) := by decide +kernel
theorem dX12_lines_163 : decode cX12_lines 163 = .ok (.ifCond .eq 49, 3) := by decide +kernel
theorem dX12_lines_166 : decode cX12_lines 166 = .ok (.aload_n 0, 1) := by decide +kernel
theorem dX12_lines_167 : decode cX12_lines 167 = .ok (.iload 7, 2) := by decide +kernel
theorem dX12_lines_169 : decode cX12_lines 169 = .ok (.iload 8, 2) := by decide +kernel
theorem dX12_lines_171 : decode cX12_lines 171 = .ok (.iload_n 1, 1) := by decide +kernel
theorem dX12_lines_172 : decode cX12_lines 172 = .ok (.iload_n 2, 1) := by decide +kernel
theorem dX12_lines_173 : decode cX12_lines 173 = .ok (.invokevirtual 341, 3) := by decide +kernel
theorem dX12_lines_176 : decode cX12_lines 176 = .ok (.iload 4, 2) := by decide +kernel
theorem dX12_lines_178 : decode cX12_lines 178 = .ok (.if_icmp .ge 6, 3) := by decide +kernel
theorem dX12_lines_181 : decode cX12_lines 181 = .ok (.goto 31, 3) := by decide +kernel
theorem dX12_lines_184 : decode cX12_lines 184 = .ok (.aload_n 0, 1) := by decide +kernel
theorem dX12_lines_185 : decode cX12_lines 185 = .ok (.getfield 75, 3) := by decide +kernel
theorem dX12_lines_188 : decode cX12_lines 188 = .ok (.iload 7, 2) := by decide +kernel
theorem dX12_lines_190 : decode cX12_lines 190 = .ok (.dup2, 1) := by decide +kernel
theorem dX12_lines_191 : decode cX12_lines 191 = .ok (.iaload, 1) := by decide +kernel
theorem dX12_lines_192 : decode cX12_lines 192 = .ok (.iconst 1, 1) := by decide +kernel
theorem dX12_lines_193 : decode cX12_lines 193 = .ok (.iload 8, 2) := by decide +kernel
theorem dX12_lines_195 : decode cX12_lines 195 = .ok (.ishl, 1) := by decide +kernel
theorem dX12_lines_196 : decode cX12_lines 196 = .ok (.ior, 1) := by decide +kernel
theorem dX12_lines_197 : decode cX12_lines 197 = .ok (.iastore, 1) := by decide +kernel
theorem dX12_lines_198 : decode cX12_lines 198 = .ok (.aload_n 0, 1) := by decide +kernel
theorem dX12_lines_199 : decode cX12_lines 199 = .ok (.getfield 75, 3) := by decide +kernel
theorem dX12_lines_202 : decode cX12_lines 202 = .ok (.iload 8, 2) := by decide +kernel
theorem dX12_lines_204 : decode cX12_lines 204 = .ok (.dup2, 1) := by decide +kernel
theorem dX12_lines_205 : decode cX12_lines 205 = .ok (.iaload, 1) := by decide +kernel
theorem dX12_lines_206 : decode cX12_lines 206 = .ok (.iconst 1, 1) := by decide +kernel
theorem dX12_lines_207 : decode cX12_lines 207 = .ok (.iload 7, 2) := by decide +kernel
theorem dX12_lines_209 : decode cX12_lines 209 = .ok (.ishl, 1) := by decide +kernel
theorem dX12_lines_210 : decode cX12_lines 210 = .ok (.ior, 1) := by decide +kernel
theorem dX12_lines_211 : decode cX12_lines 211 = .ok (.iastore, 1) := by decide +kernel
theorem dX12_lines_212 : decode cX12_lines 212 = .ok (.iinc 8 1, 3) := by decide +kernel
theorem dX12_lines_215 : decode cX12_lines 215 = .ok (.goto (-76), 3) := by decide +kernel
theorem dX12_lines_218 : decode cX12_lines 218 = .ok (.iinc 7 1, 3) := by decide +kernel
theorem dX12_lines_221 : decode cX12_lines 221 = .ok (.goto (-94), 3) := by decide +kernel
theorem dX12_lines_224 : decode cX12_lines 224 = .ok (.return_, 1) := by decide +kernel
theorem dX12_reached_0 : decode cX12_reached 0 = .ok (.iconst 1, 1) := by decide +kernel
theorem dX12_reached_1 : decode cX12_reached 1 = .ok (.iload_n 1, 1) := by decide +kernel
theorem dX12_reached_2 : decode cX12_reached 2 = .ok (.ishl, 1) := by decide +kernel
theorem dX12_reached_3 : decode cX12_reached 3 = .ok (.istore_n 3, 1) := by decide +kernel
theorem dX12_reached_4 : decode cX12_reached 4 = .ok (.iconst 0, 1) := by decide +kernel
theorem dX12_reached_5 : decode cX12_reached 5 = .ok (.istore 4, 2) := by decide +kernel
theorem dX12_reached_7 : decode cX12_reached 7 = .ok (.iload 4, 2) := by decide +kernel
theorem dX12_reached_9 : decode cX12_reached 9 = .ok (.iload_n 3, 1) := by decide +kernel
theorem dX12_reached_10 : decode cX12_reached 10 = .ok (.if_icmp .eq 49, 3) := by decide +kernel
theorem dX12_reached_13 : decode cX12_reached 13 = .ok (.iload_n 3, 1) := by decide +kernel
theorem dX12_reached_14 : decode cX12_reached 14 = .ok (.istore 4, 2) := by decide +kernel
theorem dX12_reached_16 : decode cX12_reached 16 = .ok (.iconst 0, 1) := by decide +kernel
theorem dX12_reached_17 : decode cX12_reached 17 = .ok (.istore 5, 2) := by decide +kernel
theorem dX12_reached_19 : decode cX12_reached 19 = .ok (.iload 5, 2) := by decide +kernel
theorem dX12_reached_21 : decode cX12_reached 21 = .ok (.aload_n 0, 1) := by decide +kernel
theorem dX12_reached_22 : decode cX12_reached 22 = .ok (.getfield 227, 3) := by decide +kernel
theorem dX12_reached_25 : decode cX12_reached 25 = .ok (.if_icmp .ge 31, 3) := by decide +kernel
theorem dX12_reached_28 : decode cX12_reached 28 = .ok (.iload_n 3, 1) := by decide +kernel
theorem dX12_reached_29 : decode cX12_reached 29 = .ok (.iload 5, 2) := by decide +kernel
theorem dX12_reached_31 : decode cX12_reached 31 = .ok (.ishr, 1) := by decide +kernel
theorem dX12_reached_32 : decode cX12_reached 32 = .ok (.iconst 1, 1) := by decide +kernel
theorem dX12_reached_33 : decode cX12_reached 33 = .ok (.iand, 1) := by decide +kernel
theorem dX12_reached_34 : decode cX12_reached 34 = .ok (.iconst 1, 1) := by decide +kernel
theorem dX12_reached_35 : decode cX12_reached 35 = .ok (.if_icmp .ne 15, 3) := by decide +kernel
theorem dX12_reached_38 : decode cX12_reached 38 = .ok (.iload_n 3, 1) := by decide +kernel
theorem dX12_reached_39 : decode cX12_reached 39 = .ok (.aload_n 0, 1) := by decide +kernel
theorem dX12_reached_40 : decode cX12_reached 40 = .ok (.getfield 75, 3) := by decide +kernel
theorem dX12_reached_43 : decode cX12_reached 43 = .ok (.iload 5, 2) := by decide +kernel
theorem dX12_reached_45 : decode cX12_reached 45 = .ok (.iaload, 1) := by decide +kernel
theorem dX12_reached_46 : decode cX12_reached 46 = .ok (.iload_n 2, 1) := by decide +kernel
theorem dX12_reached_47 : decode cX12_reached 47 = .ok (.iand, 1) := by decide +kernel
theorem dX12_reached_48 : decode cX12_reached 48 = .ok (.ior, 1) := by decide +kernel
theorem dX12_reached_49 : decode cX12_reached 49 = .ok (.istore_n 3, 1) := by decide +kernel
theorem dX12_reached_50 : decode cX12_reached 50 = .ok (.iinc 5 1, 3) := by decide +kernel
theorem dX12_reached_53 : decode cX12_reached 53 = .ok (.goto (-34), 3) := by decide +kernel
theorem dX12_reached_56 : decode cX12_reached 56 = .ok (.goto (-49), 3) := by decide +kernel
theorem dX12_reached_59 : decode cX12_reached 59 = .ok (.iload_n 3, 1) := by decide +kernel
theorem dX12_reached_60 : decode cX12_reached 60 = .ok (.ireturn, 1) := by decide +kernel
theorem dX12_groupsOf_0 : decode cX12_groupsOf 0 = .ok (.iconst 0, 1) := by decide +kernel
theorem dX12_groupsOf_1 : decode cX12_groupsOf 1 = .ok (.istore_n 2, 1) := by decide +kernel
theorem dX12_groupsOf_2 : decode cX12_groupsOf 2 = .ok (.iload_n 1, 1) := by decide +kernel
theorem dX12_groupsOf_3 : decode cX12_groupsOf 3 = .ok (.istore_n 3, 1) := by decide +kernel
theorem dX12_groupsOf_4 : decode cX12_groupsOf 4 = .ok (.iconst 0, 1) := by decide +kernel
theorem dX12_groupsOf_5 : decode cX12_groupsOf 5 = .ok (.istore 4, 2) := by decide +kernel
theorem dX12_groupsOf_7 : decode cX12_groupsOf 7 = .ok (.iload 4, 2) := by decide +kernel
theorem dX12_groupsOf_9 : decode cX12_groupsOf 9 = .ok (.aload_n 0, 1) := by decide +kernel
theorem dX12_groupsOf_10 : decode cX12_groupsOf 10 = .ok (.getfield 227, 3) := by decide +kernel
theorem dX12_groupsOf_13 : decode cX12_groupsOf 13 = .ok (.if_icmp .ge 36, 3) := by decide +kernel
theorem dX12_groupsOf_16 : decode cX12_groupsOf 16 = .ok (.iload_n 3, 1) := by decide +kernel
theorem dX12_groupsOf_17 : decode cX12_groupsOf 17 = .ok (.iload 4, 2) := by decide +kernel
theorem dX12_groupsOf_19 : decode cX12_groupsOf 19 = .ok (.ishr, 1) := by decide +kernel
theorem dX12_groupsOf_20 : decode cX12_groupsOf 20 = .ok (.iconst 1, 1) := by decide +kernel
theorem dX12_groupsOf_21 : decode cX12_groupsOf 21 = .ok (.iand, 1) := by decide +kernel
theorem dX12_groupsOf_22 : decode cX12_groupsOf 22 = .ok (.ifCond .ne 6, 3) := by decide +kernel
theorem dX12_groupsOf_25 : decode cX12_groupsOf 25 = .ok (.goto 18, 3) := by decide +kernel
theorem dX12_groupsOf_28 : decode cX12_groupsOf 28 = .ok (.iinc 2 1, 3) := by decide +kernel
theorem dX12_groupsOf_31 : decode cX12_groupsOf 31 = .ok (.iload_n 3, 1) := by decide +kernel
theorem dX12_groupsOf_32 : decode cX12_groupsOf 32 = .ok (.aload_n 0, 1) := by decide +kernel
theorem dX12_groupsOf_33 : decode cX12_groupsOf 33 = .ok (.iload 4, 2) := by decide +kernel
theorem dX12_groupsOf_35 : decode cX12_groupsOf 35 = .ok (.iload_n 1, 1) := by decide +kernel
theorem dX12_groupsOf_36 : decode cX12_groupsOf 36 = .ok (.invokevirtual 344, 3) := by decide +kernel
theorem dX12_groupsOf_39 : decode cX12_groupsOf 39 = .ok (.iconst (-1), 1) := by decide +kernel
theorem dX12_groupsOf_40 : decode cX12_groupsOf 40 = .ok (.ixor, 1) := by decide +kernel
theorem dX12_groupsOf_41 : decode cX12_groupsOf 41 = .ok (.iand, 1) := by decide +kernel
theorem dX12_groupsOf_42 : decode cX12_groupsOf 42 = .ok (.istore_n 3, 1) := by decide +kernel
theorem dX12_groupsOf_43 : decode cX12_groupsOf 43 = .ok (.iinc 4 1, 3) := by decide +kernel
theorem dX12_groupsOf_46 : decode cX12_groupsOf 46 = .ok (.goto (-39), 3) := by decide +kernel
theorem dX12_groupsOf_49 : decode cX12_groupsOf 49 = .ok (.iload_n 2, 1) := by decide +kernel
theorem dX12_groupsOf_50 : decode cX12_groupsOf 50 = .ok (.ireturn, 1) := by decide +kernel
theorem dX12_isLevel_0 : decode cX12_isLevel 0 = .ok (.iload_n 0, 1) := by decide +kernel
theorem dX12_isLevel_1 : decode cX12_isLevel 1 = .ok (.iconst 1, 1) := by decide +kernel
theorem dX12_isLevel_2 : decode cX12_isLevel 2 = .ok (.if_icmp .eq 8, 3) := by decide +kernel
theorem dX12_isLevel_5 : decode cX12_isLevel 5 = .ok (.iload_n 0, 1) := by decide +kernel
theorem dX12_isLevel_6 : decode cX12_isLevel 6 = .ok (.iconst 2, 1) := by decide +kernel
theorem dX12_isLevel_7 : decode cX12_isLevel 7 = .ok (.if_icmp .ne 7, 3) := by decide +kernel
theorem dX12_isLevel_10 : decode cX12_isLevel 10 = .ok (.iconst 1, 1) := by decide +kernel
theorem dX12_isLevel_11 : decode cX12_isLevel 11 = .ok (.goto 4, 3) := by decide +kernel
theorem dX12_isLevel_14 : decode cX12_isLevel 14 = .ok (.iconst 0, 1) := by decide +kernel
theorem dX12_isLevel_15 : decode cX12_isLevel 15 = .ok (.ireturn, 1) := by decide +kernel
theorem dX12_groups_0 : decode cX12_groups 0 = .ok (.aload_n 0, 1) := by decide +kernel
theorem dX12_groups_1 : decode cX12_groups 1 = .ok (.iconst 0, 1) := by decide +kernel
theorem dX12_groups_2 : decode cX12_groups 2 = .ok (.putfield 224, 3) := by decide +kernel
theorem dX12_groups_5 : decode cX12_groups 5 = .ok (.iload_n 1, 1) := by decide +kernel
theorem dX12_groups_6 : decode cX12_groups 6 = .ok (.iload_n 2, 1) := by decide +kernel
theorem dX12_groups_7 : decode cX12_groups 7 = .ok (.iload_n 3, 1) := by decide +kernel
theorem dX12_groups_8 : decode cX12_groups 8 = .ok (.invokestatic 347, 3) := by decide +kernel
theorem dX12_groups_11 : decode cX12_groups 11 = .ok (.ifCond .eq 11, 3) := by decide +kernel
theorem dX12_groups_14 : decode cX12_groups 14 = .ok (.iload 4, 2) := by decide +kernel
theorem dX12_groups_16 : decode cX12_groups 16 = .ok (.invokestatic 350, 3) := by decide +kernel
theorem dX12_groups_19 : decode cX12_groups 19 = .ok (.ifCond .ne 5, 3) := by decide +kernel
theorem dX12_groups_22 : decode cX12_groups 22 = .ok (.iconst (-1), 1) := by decide +kernel
theorem dX12_groups_23 : decode cX12_groups 23 = .ok (.ireturn, 1) := by decide +kernel
theorem dX12_groups_24 : decode cX12_groups 24 = .ok (.aload_n 0, 1) := by decide +kernel
theorem dX12_groups_25 : decode cX12_groups 25 = .ok (.iload_n 1, 1) := by decide +kernel
theorem dX12_groups_26 : decode cX12_groups 26 = .ok (.iload_n 2, 1) := by decide +kernel
theorem dX12_groups_27 : decode cX12_groups 27 = .ok (.iload_n 3, 1) := by decide +kernel
theorem dX12_groups_28 : decode cX12_groups 28 = .ok (.iload 4, 2) := by decide +kernel
theorem dX12_groups_30 : decode cX12_groups 30 = .ok (.invokevirtual 353, 3) := by decide +kernel
theorem dX12_groups_33 : decode cX12_groups 33 = .ok (.aload_n 0, 1) := by decide +kernel
theorem dX12_groups_34 : decode cX12_groups 34 = .ok (.aload_n 0, 1) := by decide +kernel
theorem dX12_groups_35 : decode cX12_groups 35 = .ok (.getfield 335, 3) := by decide +kernel
theorem dX12_groups_38 : decode cX12_groups 38 = .ok (.invokevirtual 357, 3) := by decide +kernel
theorem dX12_groups_41 : decode cX12_groups 41 = .ok (.ireturn, 1) := by decide +kernel
theorem dX12_cuts_0 : decode cX12_cuts 0 = .ok (.aload_n 0, 1) := by decide +kernel
theorem dX12_cuts_1 : decode cX12_cuts 1 = .ok (.iconst 0, 1) := by decide +kernel
theorem dX12_cuts_2 : decode cX12_cuts 2 = .ok (.putfield 224, 3) := by decide +kernel
theorem dX12_cuts_5 : decode cX12_cuts 5 = .ok (.iload_n 1, 1) := by decide +kernel
theorem dX12_cuts_6 : decode cX12_cuts 6 = .ok (.iload_n 2, 1) := by decide +kernel
theorem dX12_cuts_7 : decode cX12_cuts 7 = .ok (.iload_n 3, 1) := by decide +kernel
theorem dX12_cuts_8 : decode cX12_cuts 8 = .ok (.invokestatic 347, 3) := by decide +kernel
theorem dX12_cuts_11 : decode cX12_cuts 11 = .ok (.ifCond .eq 11, 3) := by decide +kernel
theorem dX12_cuts_14 : decode cX12_cuts 14 = .ok (.iload 4, 2) := by decide +kernel
theorem dX12_cuts_16 : decode cX12_cuts 16 = .ok (.invokestatic 350, 3) := by decide +kernel
theorem dX12_cuts_19 : decode cX12_cuts 19 = .ok (.ifCond .ne 5, 3) := by decide +kernel
theorem dX12_cuts_22 : decode cX12_cuts 22 = .ok (.iconst (-1), 1) := by decide +kernel
theorem dX12_cuts_23 : decode cX12_cuts 23 = .ok (.ireturn, 1) := by decide +kernel
theorem dX12_cuts_24 : decode cX12_cuts 24 = .ok (.aload_n 0, 1) := by decide +kernel
theorem dX12_cuts_25 : decode cX12_cuts 25 = .ok (.iload_n 1, 1) := by decide +kernel
theorem dX12_cuts_26 : decode cX12_cuts 26 = .ok (.iload_n 2, 1) := by decide +kernel
theorem dX12_cuts_27 : decode cX12_cuts 27 = .ok (.iload_n 3, 1) := by decide +kernel
theorem dX12_cuts_28 : decode cX12_cuts 28 = .ok (.iload 4, 2) := by decide +kernel
theorem dX12_cuts_30 : decode cX12_cuts 30 = .ok (.invokevirtual 353, 3) := by decide +kernel
theorem dX12_cuts_33 : decode cX12_cuts 33 = .ok (.aload_n 0, 1) := by decide +kernel
theorem dX12_cuts_34 : decode cX12_cuts 34 = .ok (.aload_n 0, 1) := by decide +kernel
theorem dX12_cuts_35 : decode cX12_cuts 35 = .ok (.getfield 335, 3) := by decide +kernel
theorem dX12_cuts_38 : decode cX12_cuts 38 = .ok (.invokevirtual 357, 3) := by decide +kernel
theorem dX12_cuts_41 : decode cX12_cuts 41 = .ok (.istore 5, 2) := by decide +kernel
theorem dX12_cuts_43 : decode cX12_cuts 43 = .ok (.iconst 0, 1) := by decide +kernel
theorem dX12_cuts_44 : decode cX12_cuts 44 = .ok (.istore 6, 2) := by decide +kernel
theorem dX12_cuts_46 : decode cX12_cuts 46 = .ok (.iconst 0, 1) := by decide +kernel
theorem dX12_cuts_47 : decode cX12_cuts 47 = .ok (.istore 7, 2) := by decide +kernel
theorem dX12_cuts_49 : decode cX12_cuts 49 = .ok (.iload 7, 2) := by decide +kernel
theorem dX12_cuts_51 : decode cX12_cuts 51 = .ok (.aload_n 0, 1) := by decide +kernel
theorem dX12_cuts_52 : decode cX12_cuts 52 = .ok (.getfield 227, 3) := by decide +kernel
theorem dX12_cuts_55 : decode cX12_cuts 55 = .ok (.if_icmp .ge 51, 3) := by decide +kernel
theorem dX12_cuts_58 : decode cX12_cuts 58 = .ok (.aload_n 0, 1) := by decide +kernel
theorem dX12_cuts_59 : decode cX12_cuts 59 = .ok (.getfield 335, 3) := by decide +kernel
theorem dX12_cuts_62 : decode cX12_cuts 62 = .ok (.iload 7, 2) := by decide +kernel
theorem dX12_cuts_64 : decode cX12_cuts 64 = .ok (.ishr, 1) := by decide +kernel
theorem dX12_cuts_65 : decode cX12_cuts 65 = .ok (.iconst 1, 1) := by decide +kernel
theorem dX12_cuts_66 : decode cX12_cuts 66 = .ok (.iand, 1) := by decide +kernel
theorem dX12_cuts_67 : decode cX12_cuts 67 = .ok (.iconst 1, 1) := by decide +kernel
theorem dX12_cuts_68 : decode cX12_cuts 68 = .ok (.if_icmp .ne 32, 3) := by decide +kernel
theorem dX12_cuts_71 : decode cX12_cuts 71 = .ok (.aload_n 0, 1) := by decide +kernel
theorem dX12_cuts_72 : decode cX12_cuts 72 = .ok (.aload_n 0, 1) := by decide +kernel
theorem dX12_cuts_73 : decode cX12_cuts 73 = .ok (.getfield 335, 3) := by decide +kernel
theorem dX12_cuts_76 : decode cX12_cuts 76 = .ok (.iconst 1, 1) := by decide +kernel
theorem dX12_cuts_77 : decode cX12_cuts 77 = .ok (.iload 7, 2) := by decide +kernel
theorem dX12_cuts_79 : decode cX12_cuts 79 = .ok (.ishl, 1) := by decide +kernel
theorem dX12_cuts_80 : decode cX12_cuts 80 = .ok (.iconst (-1), 1) := by decide +kernel
theorem dX12_cuts_81 : decode cX12_cuts 81 = .ok (.ixor, 1) := by decide +kernel
theorem dX12_cuts_82 : decode cX12_cuts 82 = .ok (.iand, 1) := by decide +kernel
theorem dX12_cuts_83 : decode cX12_cuts 83 = .ok (.invokevirtual 357, 3) := by decide +kernel
theorem dX12_cuts_86 : decode cX12_cuts 86 = .ok (.iload 5, 2) := by decide +kernel
theorem dX12_cuts_88 : decode cX12_cuts 88 = .ok (.if_icmp .le 12, 3) := by decide +kernel
theorem dX12_cuts_91 : decode cX12_cuts 91 = .ok (.iload 6, 2) := by decide +kernel
theorem dX12_cuts_93 : decode cX12_cuts 93 = .ok (.iconst 1, 1) := by decide +kernel
theorem dX12_cuts_94 : decode cX12_cuts 94 = .ok (.iload 7, 2) := by decide +kernel
theorem dX12_cuts_96 : decode cX12_cuts 96 = .ok (.ishl, 1) := by decide +kernel
theorem dX12_cuts_97 : decode cX12_cuts 97 = .ok (.ior, 1) := by decide +kernel
theorem dX12_cuts_98 : decode cX12_cuts 98 = .ok (.istore 6, 2) := by decide +kernel
theorem dX12_cuts_100 : decode cX12_cuts 100 = .ok (.iinc 7 1, 3) := by decide +kernel
theorem dX12_cuts_103 : decode cX12_cuts 103 = .ok (.goto (-54), 3) := by decide +kernel
theorem dX12_cuts_106 : decode cX12_cuts 106 = .ok (.iload 6, 2) := by decide +kernel
theorem dX12_cuts_108 : decode cX12_cuts 108 = .ok (.ireturn, 1) := by decide +kernel
theorem dX12_many_0 : decode cX12_many 0 = .ok (.iconst 0, 1) := by decide +kernel
theorem dX12_many_1 : decode cX12_many 1 = .ok (.istore_n 1, 1) := by decide +kernel
theorem dX12_many_2 : decode cX12_many 2 = .ok (.iconst 0, 1) := by decide +kernel
theorem dX12_many_3 : decode cX12_many 3 = .ok (.istore_n 2, 1) := by decide +kernel
theorem dX12_many_4 : decode cX12_many 4 = .ok (.iload_n 2, 1) := by decide +kernel
theorem dX12_many_5 : decode cX12_many 5 = .ok (.bipush 12, 2) := by decide +kernel
theorem dX12_many_7 : decode cX12_many 7 = .ok (.if_icmp .ge 17, 3) := by decide +kernel
theorem dX12_many_10 : decode cX12_many 10 = .ok (.iload_n 1, 1) := by decide +kernel
theorem dX12_many_11 : decode cX12_many 11 = .ok (.iload_n 0, 1) := by decide +kernel
theorem dX12_many_12 : decode cX12_many 12 = .ok (.iload_n 2, 1) := by decide +kernel
theorem dX12_many_13 : decode cX12_many 13 = .ok (.ishr, 1) := by decide +kernel
theorem dX12_many_14 : decode cX12_many 14 = .ok (.iconst 1, 1) := by decide +kernel
theorem dX12_many_15 : decode cX12_many 15 = .ok (.iand, 1) := by decide +kernel
theorem dX12_many_16 : decode cX12_many 16 = .ok (.iadd, 1) := by decide +kernel
theorem dX12_many_17 : decode cX12_many 17 = .ok (.istore_n 1, 1) := by decide +kernel
theorem dX12_many_18 : decode cX12_many 18 = .ok (.iinc 2 1, 3) := by decide +kernel
theorem dX12_many_21 : decode cX12_many 21 = .ok (.goto (-17), 3) := by decide +kernel
theorem dX12_many_24 : decode cX12_many 24 = .ok (.iload_n 1, 1) := by decide +kernel
theorem dX12_many_25 : decode cX12_many 25 = .ok (.ireturn, 1) := by decide +kernel
theorem dX12_joins_0 : decode cX12_joins 0 = .ok (.iconst 0, 1) := by decide +kernel
theorem dX12_joins_1 : decode cX12_joins 1 = .ok (.istore_n 2, 1) := by decide +kernel
theorem dX12_joins_2 : decode cX12_joins 2 = .ok (.aload_n 0, 1) := by decide +kernel
theorem dX12_joins_3 : decode cX12_joins 3 = .ok (.getfield 335, 3) := by decide +kernel
theorem dX12_joins_6 : decode cX12_joins 6 = .ok (.iload_n 2, 1) := by decide +kernel
theorem dX12_joins_7 : decode cX12_joins 7 = .ok (.ishr, 1) := by decide +kernel
theorem dX12_joins_8 : decode cX12_joins 8 = .ok (.iconst 1, 1) := by decide +kernel
theorem dX12_joins_9 : decode cX12_joins 9 = .ok (.iand, 1) := by decide +kernel
theorem dX12_joins_10 : decode cX12_joins 10 = .ok (.ifCond .ne 9, 3) := by decide +kernel
theorem dX12_joins_13 : decode cX12_joins 13 = .ok (.iinc 2 1, 3) := by decide +kernel
theorem dX12_joins_16 : decode cX12_joins 16 = .ok (.goto (-14), 3) := by decide +kernel
theorem dX12_joins_19 : decode cX12_joins 19 = .ok (.aload_n 0, 1) := by decide +kernel
theorem dX12_joins_20 : decode cX12_joins 20 = .ok (.getfield 335, 3) := by decide +kernel
theorem dX12_joins_23 : decode cX12_joins 23 = .ok (.aload_n 0, 1) := by decide +kernel
theorem dX12_joins_24 : decode cX12_joins 24 = .ok (.iload_n 2, 1) := by decide +kernel
theorem dX12_joins_25 : decode cX12_joins 25 = .ok (.aload_n 0, 1) := by decide +kernel
theorem dX12_joins_26 : decode cX12_joins 26 = .ok (.getfield 335, 3) := by decide +kernel
theorem dX12_joins_29 : decode cX12_joins 29 = .ok (.iload_n 1, 1) := by decide +kernel
theorem dX12_joins_30 : decode cX12_joins 30 = .ok (.ior, 1) := by decide +kernel
theorem dX12_joins_31 : decode cX12_joins 31 = .ok (.invokevirtual 344, 3) := by decide +kernel
theorem dX12_joins_34 : decode cX12_joins 34 = .ok (.iconst (-1), 1) := by decide +kernel
theorem dX12_joins_35 : decode cX12_joins 35 = .ok (.ixor, 1) := by decide +kernel
theorem dX12_joins_36 : decode cX12_joins 36 = .ok (.iand, 1) := by decide +kernel
theorem dX12_joins_37 : decode cX12_joins 37 = .ok (.ifCond .ne 7, 3) := by decide +kernel
theorem dX12_joins_40 : decode cX12_joins 40 = .ok (.iconst 1, 1) := by decide +kernel
theorem dX12_joins_41 : decode cX12_joins 41 = .ok (.goto 4, 3) := by decide +kernel
theorem dX12_joins_44 : decode cX12_joins 44 = .ok (.iconst 0, 1) := by decide +kernel
theorem dX12_joins_45 : decode cX12_joins 45 = .ok (.ireturn, 1) := by decide +kernel
theorem dX12_join_0 : decode cX12_join 0 = .ok (.aload_n 0, 1) := by decide +kernel
theorem dX12_join_1 : decode cX12_join 1 = .ok (.iconst 0, 1) := by decide +kernel
theorem dX12_join_2 : decode cX12_join 2 = .ok (.putfield 224, 3) := by decide +kernel
theorem dX12_join_5 : decode cX12_join 5 = .ok (.iload_n 1, 1) := by decide +kernel
theorem dX12_join_6 : decode cX12_join 6 = .ok (.iload_n 2, 1) := by decide +kernel
theorem dX12_join_7 : decode cX12_join 7 = .ok (.iload_n 3, 1) := by decide +kernel
theorem dX12_join_8 : decode cX12_join 8 = .ok (.invokestatic 347, 3) := by decide +kernel
theorem dX12_join_11 : decode cX12_join 11 = .ok (.ifCond .eq 11, 3) := by decide +kernel
theorem dX12_join_14 : decode cX12_join 14 = .ok (.iload 4, 2) := by decide +kernel
theorem dX12_join_16 : decode cX12_join 16 = .ok (.invokestatic 350, 3) := by decide +kernel
theorem dX12_join_19 : decode cX12_join 19 = .ok (.ifCond .ne 5, 3) := by decide +kernel
theorem dX12_join_22 : decode cX12_join 22 = .ok (.iconst (-1), 1) := by decide +kernel
theorem dX12_join_23 : decode cX12_join 23 = .ok (.ireturn, 1) := by decide +kernel
theorem dX12_join_24 : decode cX12_join 24 = .ok (.aload_n 0, 1) := by decide +kernel
theorem dX12_join_25 : decode cX12_join 25 = .ok (.iload_n 1, 1) := by decide +kernel
theorem dX12_join_26 : decode cX12_join 26 = .ok (.iload_n 2, 1) := by decide +kernel
theorem dX12_join_27 : decode cX12_join 27 = .ok (.iload_n 3, 1) := by decide +kernel
theorem dX12_join_28 : decode cX12_join 28 = .ok (.iload 4, 2) := by decide +kernel
theorem dX12_join_30 : decode cX12_join 30 = .ok (.invokevirtual 353, 3) := by decide +kernel
theorem dX12_join_33 : decode cX12_join 33 = .ok (.iconst (-1), 1) := by decide +kernel
theorem dX12_join_34 : decode cX12_join 34 = .ok (.istore 5, 2) := by decide +kernel
theorem dX12_join_36 : decode cX12_join 36 = .ok (.iconst 0, 1) := by decide +kernel
theorem dX12_join_37 : decode cX12_join 37 = .ok (.istore 6, 2) := by decide +kernel
theorem dX12_join_39 : decode cX12_join 39 = .ok (.iload 6, 2) := by decide +kernel
theorem dX12_join_41 : decode cX12_join 41 = .ok (.iconst 1, 1) := by decide +kernel
theorem dX12_join_42 : decode cX12_join 42 = .ok (.aload_n 0, 1) := by decide +kernel
theorem dX12_join_43 : decode cX12_join 43 = .ok (.getfield 227, 3) := by decide +kernel
theorem dX12_join_46 : decode cX12_join 46 = .ok (.ishl, 1) := by decide +kernel
theorem dX12_join_47 : decode cX12_join 47 = .ok (.if_icmp .ge 105, 3) := by decide +kernel
theorem dX12_join_50 : decode cX12_join 50 = .ok (.iload 6, 2) := by decide +kernel
theorem dX12_join_52 : decode cX12_join 52 = .ok (.aload_n 0, 1) := by decide +kernel
theorem dX12_join_53 : decode cX12_join 53 = .ok (.getfield 338, 3) := by decide +kernel
theorem dX12_join_56 : decode cX12_join 56 = .ok (.iconst (-1), 1) := by decide +kernel
theorem dX12_join_57 : decode cX12_join 57 = .ok (.ixor, 1) := by decide +kernel
theorem dX12_join_58 : decode cX12_join 58 = .ok (.iand, 1) := by decide +kernel
theorem dX12_join_59 : decode cX12_join 59 = .ok (.ifCond .ne 87, 3) := by decide +kernel
theorem dX12_join_62 : decode cX12_join 62 = .ok (.iload 5, 2) := by decide +kernel
theorem dX12_join_64 : decode cX12_join 64 = .ok (.iconst (-1), 1) := by decide +kernel
theorem dX12_join_65 : decode cX12_join 65 = .ok (.if_icmp .eq 13, 3) := by decide +kernel
theorem dX12_join_68 : decode cX12_join 68 = .ok (.iload 6, 2) := by decide +kernel
theorem dX12_join_70 : decode cX12_join 70 = .ok (.invokestatic 360, 3) := by decide +kernel
theorem dX12_join_73 : decode cX12_join 73 = .ok (.iload 5, 2) := by decide +kernel
theorem dX12_join_75 : decode cX12_join 75 = .ok (.if_icmp .gt 71, 3) := by decide +kernel
theorem dX12_join_78 : decode cX12_join 78 = .ok (.aload_n 0, 1) := by decide +kernel
theorem dX12_join_79 : decode cX12_join 79 = .ok (.getfield 335, 3) := by decide +kernel
theorem dX12_join_82 : decode cX12_join 82 = .ok (.ifCond .eq 15, 3) := by decide +kernel
theorem dX12_join_85 : decode cX12_join 85 = .ok (.aload_n 0, 1) := by decide +kernel
theorem dX12_join_86 : decode cX12_join 86 = .ok (.iload 6, 2) := by decide +kernel
theorem dX12_join_88 : decode cX12_join 88 = .ok (.invokevirtual 363, 3) := by decide +kernel
theorem dX12_join_91 : decode cX12_join 91 = .ok (.ifCond .ne 6, 3) := by decide +kernel
theorem dX12_join_94 : decode cX12_join 94 = .ok (.goto 52, 3) := by decide +kernel
theorem dX12_join_97 : decode cX12_join 97 = .ok (.iload 5, 2) := by decide +kernel
theorem dX12_join_99 : decode cX12_join 99 = .ok (.iconst (-1), 1) := by decide +kernel
theorem dX12_join_100 : decode cX12_join 100 = .ok (.if_icmp .eq 13, 3) := by decide +kernel
theorem dX12_join_103 : decode cX12_join 103 = .ok (.iload 6, 2) := by decide +kernel
theorem dX12_join_105 : decode cX12_join 105 = .ok (.invokestatic 360, 3) := by decide +kernel
theorem dX12_join_108 : decode cX12_join 108 = .ok (.iload 5, 2) := by decide +kernel
theorem dX12_join_110 : decode cX12_join 110 = .ok (.if_icmp .ge 8, 3) := by decide +kernel
theorem dX12_join_113 : decode cX12_join 113 = .ok (.aload_n 0, 1) := by decide +kernel
theorem dX12_join_114 : decode cX12_join 114 = .ok (.iconst 0, 1) := by decide +kernel
theorem dX12_join_115 : decode cX12_join 115 = .ok (.putfield 366, 3) := by decide +kernel
theorem dX12_join_118 : decode cX12_join 118 = .ok (.iload 6, 2) := by decide +kernel
theorem dX12_join_120 : decode cX12_join 120 = .ok (.invokestatic 360, 3) := by decide +kernel
theorem dX12_join_123 : decode cX12_join 123 = .ok (.istore 5, 2) := by decide +kernel
theorem dX12_join_125 : decode cX12_join 125 = .ok (.aload_n 0, 1) := by decide +kernel
theorem dX12_join_126 : decode cX12_join 126 = .ok (.getfield 78, 3) := by decide +kernel
theorem dX12_join_129 : decode cX12_join 129 = .ok (.aload_n 0, 1) := by decide +kernel
theorem dX12_join_130 : decode cX12_join 130 = .ok (.getfield 366, 3) := by decide +kernel
theorem dX12_join_133 : decode cX12_join 133 = .ok (.iload 6, 2) := by decide +kernel
theorem dX12_join_135 : decode cX12_join 135 = .ok (.iastore, 1) := by decide +kernel
theorem dX12_join_136 : decode cX12_join 136 = .ok (.aload_n 0, 1) := by decide +kernel
theorem dX12_join_137 : decode cX12_join 137 = .ok (.dup, 1) := by decide +kernel
theorem dX12_join_138 : decode cX12_join 138 = .ok (.getfield 366, 3) := by decide +kernel
theorem dX12_join_141 : decode cX12_join 141 = .ok (.iconst 1, 1) := by decide +kernel
theorem dX12_join_142 : decode cX12_join 142 = .ok (.iadd, 1) := by decide +kernel
theorem dX12_join_143 : decode cX12_join 143 = .ok (.putfield 366, 3) := by decide +kernel
theorem dX12_join_146 : decode cX12_join 146 = .ok (.iinc 6 1, 3) := by decide +kernel
theorem dX12_join_149 : decode cX12_join 149 = .ok (.goto (-110), 3) := by decide +kernel
theorem dX12_join_152 : decode cX12_join 152 = .ok (.aload_n 0, 1) := by decide +kernel
theorem dX12_join_153 : decode cX12_join 153 = .ok (.iload 5, 2) := by decide +kernel
theorem dX12_join_155 : decode cX12_join 155 = .ok (.iconst (-1), 1) := by decide +kernel
theorem dX12_join_156 : decode cX12_join 156 = .ok (.if_icmp .eq 7, 3) := by decide +kernel
theorem dX12_join_159 : decode cX12_join 159 = .ok (.iconst 1, 1) := by decide +kernel
theorem dX12_join_160 : decode cX12_join 160 = .ok (.goto 4, 3) := by decide +kernel
theorem dX12_join_163 : decode cX12_join 163 = .ok (.iconst 0, 1) := by decide +kernel
theorem dX12_join_164 : decode cX12_join 164 = .ok (.putfield 237, 3) := by decide +kernel
theorem dX12_join_167 : decode cX12_join 167 = .ok (.aload_n 0, 1) := by decide +kernel
theorem dX12_join_168 : decode cX12_join 168 = .ok (.iconst 0, 1) := by decide +kernel
theorem dX12_join_169 : decode cX12_join 169 = .ok (.putfield 369, 3) := by decide +kernel
theorem dX12_join_172 : decode cX12_join 172 = .ok (.iconst 0, 1) := by decide +kernel
theorem dX12_join_173 : decode cX12_join 173 = .ok (.istore 6, 2) := by decide +kernel
theorem dX12_join_175 : decode cX12_join 175 = .ok (.iload 6, 2) := by decide +kernel
theorem dX12_join_177 : decode cX12_join 177 = .ok (.aload_n 0, 1) := by decide +kernel
theorem dX12_join_178 : decode cX12_join 178 = .ok (.getfield 227, 3) := by decide +kernel
theorem dX12_join_181 : decode cX12_join 181 = .ok (.if_icmp .ge 33, 3) := by decide +kernel
theorem dX12_join_184 : decode cX12_join 184 = .ok (.aload_n 0, 1) := by decide +kernel
theorem dX12_join_185 : decode cX12_join 185 = .ok (.getfield 47, 3) := by decide +kernel
theorem dX12_join_188 : decode cX12_join 188 = .ok (.iload 6, 2) := by decide +kernel
theorem dX12_join_190 : decode cX12_join 190 = .ok (.iaload, 1) := by decide +kernel
theorem dX12_join_191 : decode cX12_join 191 = .ok (.iconst 1, 1) := by decide +kernel
theorem dX12_join_192 : decode cX12_join 192 = .ok (.if_icmp .ne 16, 3) := by decide +kernel
theorem dX12_join_195 : decode cX12_join 195 = .ok (.aload_n 0, 1) := by decide +kernel
theorem dX12_join_196 : decode cX12_join 196 = .ok (.dup, 1) := by decide +kernel
theorem dX12_join_197 : decode cX12_join 197 = .ok (.getfield 369, 3) := by decide +kernel
theorem dX12_join_200 : decode cX12_join 200 = .ok (.iconst 1, 1) := by decide +kernel
theorem dX12_join_201 : decode cX12_join 201 = .ok (.iload 6, 2) := by decide +kernel
theorem dX12_join_203 : decode cX12_join 203 = .ok (.ishl, 1) := by decide +kernel
theorem dX12_join_204 : decode cX12_join 204 = .ok (.ior, 1) := by decide +kernel
theorem dX12_join_205 : decode cX12_join 205 = .ok (.putfield 369, 3) := by decide +kernel
theorem dX12_join_208 : decode cX12_join 208 = .ok (.iinc 6 1, 3) := by decide +kernel
theorem dX12_join_211 : decode cX12_join 211 = .ok (.goto (-36), 3) := by decide +kernel
theorem dX12_join_214 : decode cX12_join 214 = .ok (.iload 5, 2) := by decide +kernel
theorem dX12_join_216 : decode cX12_join 216 = .ok (.ireturn, 1) := by decide +kernel
theorem dX12_shareOf_0 : decode cX12_shareOf 0 = .ok (.iconst 0, 1) := by decide +kernel
theorem dX12_shareOf_1 : decode cX12_shareOf 1 = .ok (.istore_n 2, 1) := by decide +kernel
theorem dX12_shareOf_2 : decode cX12_shareOf 2 = .ok (.iconst 0, 1) := by decide +kernel
theorem dX12_shareOf_3 : decode cX12_shareOf 3 = .ok (.istore_n 3, 1) := by decide +kernel
theorem dX12_shareOf_4 : decode cX12_shareOf 4 = .ok (.iload_n 3, 1) := by decide +kernel
theorem dX12_shareOf_5 : decode cX12_shareOf 5 = .ok (.aload_n 0, 1) := by decide +kernel
theorem dX12_shareOf_6 : decode cX12_shareOf 6 = .ok (.getfield 366, 3) := by decide +kernel
theorem dX12_shareOf_9 : decode cX12_shareOf 9 = .ok (.if_icmp .ge 22, 3) := by decide +kernel
theorem dX12_shareOf_12 : decode cX12_shareOf 12 = .ok (.iload_n 2, 1) := by decide +kernel
theorem dX12_shareOf_13 : decode cX12_shareOf 13 = .ok (.aload_n 0, 1) := by decide +kernel
theorem dX12_shareOf_14 : decode cX12_shareOf 14 = .ok (.getfield 78, 3) := by decide +kernel
theorem dX12_shareOf_17 : decode cX12_shareOf 17 = .ok (.iload_n 3, 1) := by decide +kernel
theorem dX12_shareOf_18 : decode cX12_shareOf 18 = .ok (.iaload, 1) := by decide +kernel
theorem dX12_shareOf_19 : decode cX12_shareOf 19 = .ok (.iload_n 1, 1) := by decide +kernel
theorem dX12_shareOf_20 : decode cX12_shareOf 20 = .ok (.ishr, 1) := by decide +kernel
theorem dX12_shareOf_21 : decode cX12_shareOf 21 = .ok (.iconst 1, 1) := by decide +kernel
theorem dX12_shareOf_22 : decode cX12_shareOf 22 = .ok (.iand, 1) := by decide +kernel
theorem dX12_shareOf_23 : decode cX12_shareOf 23 = .ok (.iadd, 1) := by decide +kernel
theorem dX12_shareOf_24 : decode cX12_shareOf 24 = .ok (.istore_n 2, 1) := by decide +kernel
theorem dX12_shareOf_25 : decode cX12_shareOf 25 = .ok (.iinc 3 1, 3) := by decide +kernel
theorem dX12_shareOf_28 : decode cX12_shareOf 28 = .ok (.goto (-24), 3) := by decide +kernel
theorem dX12_shareOf_31 : decode cX12_shareOf 31 = .ok (.iload_n 2, 1) := by decide +kernel
theorem dX12_shareOf_32 : decode cX12_shareOf 32 = .ok (.ireturn, 1) := by decide +kernel
theorem dX12_wasSupposed_0 : decode cX12_wasSupposed 0 = .ok (.iload_n 1, 1) := by decide +kernel
theorem dX12_wasSupposed_1 : decode cX12_wasSupposed 1 = .ok (.ifCond .lt 25, 3) := by decide +kernel
theorem dX12_wasSupposed_4 : decode cX12_wasSupposed 4 = .ok (.iload_n 1, 1) := by decide +kernel
theorem dX12_wasSupposed_5 : decode cX12_wasSupposed 5 = .ok (.bipush 12, 2) := by decide +kernel
theorem dX12_wasSupposed_7 : decode cX12_wasSupposed 7 = .ok (.if_icmp .ge 19, 3) := by decide +kernel
theorem dX12_wasSupposed_10 : decode cX12_wasSupposed 10 = .ok (.aload_n 0, 1) := by decide +kernel
theorem dX12_wasSupposed_11 : decode cX12_wasSupposed 11 = .ok (.getfield 369, 3) := by decide +kernel
theorem dX12_wasSupposed_14 : decode cX12_wasSupposed 14 = .ok (.iload_n 1, 1) := by decide +kernel
theorem dX12_wasSupposed_15 : decode cX12_wasSupposed 15 = .ok (.ishr, 1) := by decide +kernel
theorem dX12_wasSupposed_16 : decode cX12_wasSupposed 16 = .ok (.iconst 1, 1) := by decide +kernel
theorem dX12_wasSupposed_17 : decode cX12_wasSupposed 17 = .ok (.iand, 1) := by decide +kernel
theorem dX12_wasSupposed_18 : decode cX12_wasSupposed 18 = .ok (.iconst 1, 1) := by decide +kernel
theorem dX12_wasSupposed_19 : decode cX12_wasSupposed 19 = .ok (.if_icmp .ne 7, 3) := by decide +kernel
theorem dX12_wasSupposed_22 : decode cX12_wasSupposed 22 = .ok (.iconst 1, 1) := by decide +kernel
theorem dX12_wasSupposed_23 : decode cX12_wasSupposed 23 = .ok (.goto 4, 3) := by decide +kernel
theorem dX12_wasSupposed_26 : decode cX12_wasSupposed 26 = .ok (.iconst 0, 1) := by decide +kernel
theorem dX12_wasSupposed_27 : decode cX12_wasSupposed 27 = .ok (.ireturn, 1) := by decide +kernel
theorem dX12_joined_0 : decode cX12_joined 0 = .ok (.aload_n 0, 1) := by decide +kernel
theorem dX12_joined_1 : decode cX12_joined 1 = .ok (.iconst 0, 1) := by decide +kernel
theorem dX12_joined_2 : decode cX12_joined 2 = .ok (.putfield 224, 3) := by decide +kernel
theorem dX12_joined_5 : decode cX12_joined 5 = .ok (.aload_n 0, 1) := by decide +kernel
theorem dX12_joined_6 : decode cX12_joined 6 = .ok (.getfield 237, 3) := by decide +kernel
theorem dX12_joined_9 : decode cX12_joined 9 = .ok (.ifCond .ne 5, 3) := by decide +kernel
theorem dX12_joined_12 : decode cX12_joined 12 = .ok (.iconst (-1), 1) := by decide +kernel
theorem dX12_joined_13 : decode cX12_joined 13 = .ok (.ireturn, 1) := by decide +kernel
theorem dX12_joined_14 : decode cX12_joined 14 = .ok (.iload_n 1, 1) := by decide +kernel
theorem dX12_joined_15 : decode cX12_joined 15 = .ok (.tableswitch 71 0 2 #[25, 30, 48], 25) := by decide +kernel
theorem dX12_joined_40 : decode cX12_joined 40 = .ok (.aload_n 0, 1) := by decide +kernel
theorem dX12_joined_41 : decode cX12_joined 41 = .ok (.getfield 366, 3) := by decide +kernel
theorem dX12_joined_44 : decode cX12_joined 44 = .ok (.ireturn, 1) := by decide +kernel
theorem dX12_joined_45 : decode cX12_joined 45 = .ok (.aload_n 0, 1) := by decide +kernel
theorem dX12_joined_46 : decode cX12_joined 46 = .ok (.iload_n 2, 1) := by decide +kernel
theorem dX12_joined_47 : decode cX12_joined 47 = .ok (.invokevirtual 250, 3) := by decide +kernel
theorem dX12_joined_50 : decode cX12_joined 50 = .ok (.ifCond .eq 11, 3) := by decide +kernel
theorem dX12_joined_53 : decode cX12_joined 53 = .ok (.aload_n 0, 1) := by decide +kernel
theorem dX12_joined_54 : decode cX12_joined 54 = .ok (.iload_n 2, 1) := by decide +kernel
theorem dX12_joined_55 : decode cX12_joined 55 = .ok (.invokevirtual 372, 3) := by decide +kernel
theorem dX12_joined_58 : decode cX12_joined 58 = .ok (.goto 4, 3) := by decide +kernel
theorem dX12_joined_61 : decode cX12_joined 61 = .ok (.iconst (-1), 1) := by decide +kernel
theorem dX12_joined_62 : decode cX12_joined 62 = .ok (.ireturn, 1) := by decide +kernel
theorem dX12_joined_63 : decode cX12_joined 63 = .ok (.iload_n 2, 1) := by decide +kernel
theorem dX12_joined_64 : decode cX12_joined 64 = .ok (.ifCond .lt 11, 3) := by decide +kernel
theorem dX12_joined_67 : decode cX12_joined 67 = .ok (.iload_n 2, 1) := by decide +kernel
theorem dX12_joined_68 : decode cX12_joined 68 = .ok (.aload_n 0, 1) := by decide +kernel
theorem dX12_joined_69 : decode cX12_joined 69 = .ok (.getfield 366, 3) := by decide +kernel
theorem dX12_joined_72 : decode cX12_joined 72 = .ok (.if_icmp .lt 7, 3) := by decide +kernel
theorem dX12_joined_75 : decode cX12_joined 75 = .ok (.iconst (-1), 1) := by decide +kernel
theorem dX12_joined_76 : decode cX12_joined 76 = .ok (.goto 9, 3) := by decide +kernel
theorem dX12_joined_79 : decode cX12_joined 79 = .ok (.aload_n 0, 1) := by decide +kernel
theorem dX12_joined_80 : decode cX12_joined 80 = .ok (.getfield 78, 3) := by decide +kernel
theorem dX12_joined_83 : decode cX12_joined 83 = .ok (.iload_n 2, 1) := by decide +kernel
theorem dX12_joined_84 : decode cX12_joined 84 = .ok (.iaload, 1) := by decide +kernel
theorem dX12_joined_85 : decode cX12_joined 85 = .ok (.ireturn, 1) := by decide +kernel
theorem dX12_joined_86 : decode cX12_joined 86 = .ok (.iconst (-1), 1) := by decide +kernel
theorem dX12_joined_87 : decode cX12_joined 87 = .ok (.ireturn, 1) := by decide +kernel
theorem dX12_dig_0 : decode cX12_dig 0 = .ok (.aload_n 0, 1) := by decide +kernel
theorem dX12_dig_1 : decode cX12_dig 1 = .ok (.iconst 0, 1) := by decide +kernel
theorem dX12_dig_2 : decode cX12_dig 2 = .ok (.putfield 224, 3) := by decide +kernel
theorem dX12_dig_5 : decode cX12_dig 5 = .ok (.iconst (-1), 1) := by decide +kernel
theorem dX12_dig_6 : decode cX12_dig 6 = .ok (.istore_n 1, 1) := by decide +kernel
theorem dX12_dig_7 : decode cX12_dig 7 = .ok (.iconst 0, 1) := by decide +kernel
theorem dX12_dig_8 : decode cX12_dig 8 = .ok (.istore_n 2, 1) := by decide +kernel
theorem dX12_dig_9 : decode cX12_dig 9 = .ok (.iconst 0, 1) := by decide +kernel
theorem dX12_dig_10 : decode cX12_dig 10 = .ok (.istore_n 3, 1) := by decide +kernel
theorem dX12_dig_11 : decode cX12_dig 11 = .ok (.iload_n 3, 1) := by decide +kernel
theorem dX12_dig_12 : decode cX12_dig 12 = .ok (.bipush 12, 2) := by decide +kernel
theorem dX12_dig_14 : decode cX12_dig 14 = .ok (.if_icmp .ge 85, 3) := by decide +kernel
theorem dX12_dig_17 : decode cX12_dig 17 = .ok (.aload_n 0, 1) := by decide +kernel
theorem dX12_dig_18 : decode cX12_dig 18 = .ok (.getfield 237, 3) := by decide +kernel
theorem dX12_dig_21 : decode cX12_dig 21 = .ok (.ifCond .eq 78, 3) := by decide +kernel
theorem dX12_dig_24 : decode cX12_dig 24 = .ok (.aload_n 0, 1) := by decide +kernel
theorem dX12_dig_25 : decode cX12_dig 25 = .ok (.iload_n 3, 1) := by decide +kernel
theorem dX12_dig_26 : decode cX12_dig 26 = .ok (.invokevirtual 375, 3) := by decide +kernel
theorem dX12_dig_29 : decode cX12_dig 29 = .ok (.ifCond .eq 11, 3) := by decide +kernel
theorem dX12_dig_32 : decode cX12_dig 32 = .ok (.aload_n 0, 1) := by decide +kernel
theorem dX12_dig_33 : decode cX12_dig 33 = .ok (.iload_n 3, 1) := by decide +kernel
theorem dX12_dig_34 : decode cX12_dig 34 = .ok (.invokevirtual 372, 3) := by decide +kernel
theorem dX12_dig_37 : decode cX12_dig 37 = .ok (.goto 4, 3) := by decide +kernel
theorem dX12_dig_40 : decode cX12_dig 40 = .ok (.iconst 0, 1) := by decide +kernel
theorem dX12_dig_41 : decode cX12_dig 41 = .ok (.istore 4, 2) := by decide +kernel
theorem dX12_dig_43 : decode cX12_dig 43 = .ok (.iload 4, 2) := by decide +kernel
theorem dX12_dig_45 : decode cX12_dig 45 = .ok (.ifCond .eq 48, 3) := by decide +kernel
theorem dX12_dig_48 : decode cX12_dig 48 = .ok (.iload 4, 2) := by decide +kernel
theorem dX12_dig_50 : decode cX12_dig 50 = .ok (.aload_n 0, 1) := by decide +kernel
theorem dX12_dig_51 : decode cX12_dig 51 = .ok (.getfield 366, 3) := by decide +kernel
theorem dX12_dig_54 : decode cX12_dig 54 = .ok (.if_icmp .ne 6, 3) := by decide +kernel
theorem dX12_dig_57 : decode cX12_dig 57 = .ok (.goto 36, 3) := by decide +kernel
theorem dX12_dig_60 : decode cX12_dig 60 = .ok (.iload 4, 2) := by decide +kernel
theorem dX12_dig_62 : decode cX12_dig 62 = .ok (.aload_n 0, 1) := by decide +kernel
theorem dX12_dig_63 : decode cX12_dig 63 = .ok (.getfield 366, 3) := by decide +kernel
theorem dX12_dig_66 : decode cX12_dig 66 = .ok (.iload 4, 2) := by decide +kernel
theorem dX12_dig_68 : decode cX12_dig 68 = .ok (.isub, 1) := by decide +kernel
theorem dX12_dig_69 : decode cX12_dig 69 = .ok (.invokestatic 260, 3) := by decide +kernel
theorem dX12_dig_72 : decode cX12_dig 72 = .ok (.istore 5, 2) := by decide +kernel
theorem dX12_dig_74 : decode cX12_dig 74 = .ok (.iload_n 1, 1) := by decide +kernel
theorem dX12_dig_75 : decode cX12_dig 75 = .ok (.iconst (-1), 1) := by decide +kernel
theorem dX12_dig_76 : decode cX12_dig 76 = .ok (.if_icmp .eq 12, 3) := by decide +kernel
theorem dX12_dig_79 : decode cX12_dig 79 = .ok (.iload 5, 2) := by decide +kernel
theorem dX12_dig_81 : decode cX12_dig 81 = .ok (.iload_n 2, 1) := by decide +kernel
theorem dX12_dig_82 : decode cX12_dig 82 = .ok (.if_icmp .lt 6, 3) := by decide +kernel
theorem dX12_dig_85 : decode cX12_dig 85 = .ok (.goto 8, 3) := by decide +kernel
theorem dX12_dig_88 : decode cX12_dig 88 = .ok (.iload_n 3, 1) := by decide +kernel
theorem dX12_dig_89 : decode cX12_dig 89 = .ok (.istore_n 1, 1) := by decide +kernel
theorem dX12_dig_90 : decode cX12_dig 90 = .ok (.iload 5, 2) := by decide +kernel
theorem dX12_dig_92 : decode cX12_dig 92 = .ok (.istore_n 2, 1) := by decide +kernel
theorem dX12_dig_93 : decode cX12_dig 93 = .ok (.iinc 3 1, 3) := by decide +kernel
theorem dX12_dig_96 : decode cX12_dig 96 = .ok (.goto (-85), 3) := by decide +kernel
theorem dX12_dig_99 : decode cX12_dig 99 = .ok (.iload_n 1, 1) := by decide +kernel
theorem dX12_dig_100 : decode cX12_dig 100 = .ok (.ireturn, 1) := by decide +kernel
theorem dX12_dug_0 : decode cX12_dug 0 = .ok (.aload_n 0, 1) := by decide +kernel
theorem dX12_dug_1 : decode cX12_dug 1 = .ok (.iconst 0, 1) := by decide +kernel
theorem dX12_dug_2 : decode cX12_dug 2 = .ok (.putfield 224, 3) := by decide +kernel
theorem dX12_dug_5 : decode cX12_dug 5 = .ok (.aload_n 0, 1) := by decide +kernel
theorem dX12_dug_6 : decode cX12_dug 6 = .ok (.iload_n 1, 1) := by decide +kernel
theorem dX12_dug_7 : decode cX12_dug 7 = .ok (.invokevirtual 250, 3) := by decide +kernel
theorem dX12_dug_10 : decode cX12_dug 10 = .ok (.ifCond .eq 13, 3) := by decide +kernel
theorem dX12_dug_13 : decode cX12_dug 13 = .ok (.aload_n 0, 1) := by decide +kernel
theorem dX12_dug_14 : decode cX12_dug 14 = .ok (.getfield 47, 3) := by decide +kernel
theorem dX12_dug_17 : decode cX12_dug 17 = .ok (.iload_n 1, 1) := by decide +kernel
theorem dX12_dug_18 : decode cX12_dug 18 = .ok (.iaload, 1) := by decide +kernel
theorem dX12_dug_19 : decode cX12_dug 19 = .ok (.iconst 1, 1) := by decide +kernel
theorem dX12_dug_20 : decode cX12_dug 20 = .ok (.if_icmp .eq 5, 3) := by decide +kernel
theorem dX12_dug_23 : decode cX12_dug 23 = .ok (.iconst 0, 1) := by decide +kernel
theorem dX12_dug_24 : decode cX12_dug 24 = .ok (.ireturn, 1) := by decide +kernel
theorem dX12_dug_25 : decode cX12_dug 25 = .ok (.aload_n 0, 1) := by decide +kernel
theorem dX12_dug_26 : decode cX12_dug 26 = .ok (.getfield 47, 3) := by decide +kernel
theorem dX12_dug_29 : decode cX12_dug 29 = .ok (.iload_n 1, 1) := by decide +kernel
theorem dX12_dug_30 : decode cX12_dug 30 = .ok (.iload_n 2, 1) := by decide +kernel
theorem dX12_dug_31 : decode cX12_dug 31 = .ok (.ifCond .eq 7, 3) := by decide +kernel
theorem dX12_dug_34 : decode cX12_dug 34 = .ok (.iconst 0, 1) := by decide +kernel
theorem dX12_dug_35 : decode cX12_dug 35 = .ok (.goto 4, 3) := by decide +kernel
theorem dX12_dug_38 : decode cX12_dug 38 = .ok (.iconst 2, 1) := by decide +kernel
theorem dX12_dug_39 : decode cX12_dug 39 = .ok (.iastore, 1) := by decide +kernel
theorem dX12_dug_40 : decode cX12_dug 40 = .ok (.aload_n 0, 1) := by decide +kernel
theorem dX12_dug_41 : decode cX12_dug 41 = .ok (.iconst 0, 1) := by decide +kernel
theorem dX12_dug_42 : decode cX12_dug 42 = .ok (.putfield 237, 3) := by decide +kernel
theorem dX12_dug_45 : decode cX12_dug 45 = .ok (.iconst 1, 1) := by decide +kernel
theorem dX12_dug_46 : decode cX12_dug 46 = .ok (.ireturn, 1) := by decide +kernel
theorem dX12_feed_0 : decode cX12_feed 0 = .ok (.aload_n 0, 1) := by decide +kernel
theorem dX12_feed_1 : decode cX12_feed 1 = .ok (.iconst 0, 1) := by decide +kernel
theorem dX12_feed_2 : decode cX12_feed 2 = .ok (.putfield 224, 3) := by decide +kernel
theorem dX12_feed_5 : decode cX12_feed 5 = .ok (.aload_n 0, 1) := by decide +kernel
theorem dX12_feed_6 : decode cX12_feed 6 = .ok (.getfield 378, 3) := by decide +kernel
theorem dX12_feed_9 : decode cX12_feed 9 = .ok (.sipush 980, 3) := by decide +kernel
theorem dX12_feed_12 : decode cX12_feed 12 = .ok (.if_icmp .le 5, 3) := by decide +kernel
theorem dX12_feed_15 : decode cX12_feed 15 = .ok (.iconst (-1), 1) := by decide +kernel
theorem dX12_feed_16 : decode cX12_feed 16 = .ok (.ireturn, 1) := by decide +kernel
theorem dX12_feed_17 : decode cX12_feed 17 = .ok (.iconst 0, 1) := by decide +kernel
theorem dX12_feed_18 : decode cX12_feed 18 = .ok (.istore 6, 2) := by decide +kernel
theorem dX12_feed_20 : decode cX12_feed 20 = .ok (.iload 6, 2) := by decide +kernel
theorem dX12_feed_22 : decode cX12_feed 22 = .ok (.bipush 20, 2) := by decide +kernel
theorem dX12_feed_24 : decode cX12_feed 24 = .ok (.if_icmp .ge 86, 3) := by decide +kernel
theorem dX12_feed_27 : decode cX12_feed 27 = .ok (.iload 6, 2) := by decide +kernel
theorem dX12_feed_29 : decode cX12_feed 29 = .ok (.iconst 4, 1) := by decide +kernel
theorem dX12_feed_30 : decode cX12_feed 30 = .ok (.if_icmp .ge 7, 3) := by decide +kernel
theorem dX12_feed_33 : decode cX12_feed 33 = .ok (.iload_n 1, 1) := by decide +kernel
theorem dX12_feed_34 : decode cX12_feed 34 = .ok (.goto 39, 3) := by decide +kernel
theorem dX12_feed_37 : decode cX12_feed 37 = .ok (.iload 6, 2) := by decide +kernel
theorem dX12_feed_39 : decode cX12_feed 39 = .ok (.bipush 8, 2) := by decide +kernel
theorem dX12_feed_41 : decode cX12_feed 41 = .ok (.if_icmp .ge 7, 3) := by decide +kernel
theorem dX12_feed_44 : decode cX12_feed 44 = .ok (.iload_n 2, 1) := by decide +kernel
theorem dX12_feed_45 : decode cX12_feed 45 = .ok (.goto 28, 3) := by decide +kernel
theorem dX12_feed_48 : decode cX12_feed 48 = .ok (.iload 6, 2) := by decide +kernel
theorem dX12_feed_50 : decode cX12_feed 50 = .ok (.bipush 12, 2) := by decide +kernel
theorem dX12_feed_52 : decode cX12_feed 52 = .ok (.if_icmp .ge 7, 3) := by decide +kernel
theorem dX12_feed_55 : decode cX12_feed 55 = .ok (.iload_n 3, 1) := by decide +kernel
theorem dX12_feed_56 : decode cX12_feed 56 = .ok (.goto 17, 3) := by decide +kernel
theorem dX12_feed_59 : decode cX12_feed 59 = .ok (.iload 6, 2) := by decide +kernel
theorem dX12_feed_61 : decode cX12_feed 61 = .ok (.bipush 16, 2) := by decide +kernel
theorem dX12_feed_63 : decode cX12_feed 63 = .ok (.if_icmp .ge 8, 3) := by decide +kernel
theorem dX12_feed_66 : decode cX12_feed 66 = .ok (.iload 4, 2) := by decide +kernel
theorem dX12_feed_68 : decode cX12_feed 68 = .ok (.goto 5, 3) := by decide +kernel
theorem dX12_feed_71 : decode cX12_feed 71 = .ok (.iload 5, 2) := by decide +kernel
theorem dX12_feed_73 : decode cX12_feed 73 = .ok (.istore 7, 2) := by decide +kernel
theorem dX12_feed_75 : decode cX12_feed 75 = .ok (.aload_n 0, 1) := by decide +kernel
theorem dX12_feed_76 : decode cX12_feed 76 = .ok (.getfield 81, 3) := by decide +kernel
theorem dX12_feed_79 : decode cX12_feed 79 = .ok (.aload_n 0, 1) := by decide +kernel
theorem dX12_feed_80 : decode cX12_feed 80 = .ok (.getfield 378, 3) := by decide +kernel
theorem dX12_feed_83 : decode cX12_feed 83 = .ok (.iload 6, 2) := by decide +kernel
theorem dX12_feed_85 : decode cX12_feed 85 = .ok (.iadd, 1) := by decide +kernel
theorem dX12_feed_86 : decode cX12_feed 86 = .ok (.iload 7, 2) := by decide +kernel
theorem dX12_feed_88 : decode cX12_feed 88 = .ok (.bipush 24, 2) := by decide +kernel
theorem dX12_feed_90 : decode cX12_feed 90 = .ok (.bipush 8, 2) := by decide +kernel
theorem dX12_feed_92 : decode cX12_feed 92 = .ok (.iload 6, 2) := by decide +kernel
theorem dX12_feed_94 : decode cX12_feed 94 = .ok (.iconst 4, 1) := by decide +kernel
theorem dX12_feed_95 : decode cX12_feed 95 = .ok (.irem, 1) := by decide +kernel
theorem dX12_feed_96 : decode cX12_feed 96 = .ok (.imul, 1) := by decide +kernel
theorem dX12_feed_97 : decode cX12_feed 97 = .ok (.isub, 1) := by decide +kernel
