theorem dX9_renew_11 : decode cX9_renew 11 = .ok (.iload_n 2, 1) := by decide +kernel
theorem dX9_renew_12 : decode cX9_renew 12 = .ok (.iconst 4, 1) := by decide +kernel
theorem dX9_renew_13 : decode cX9_renew 13 = .ok (.if_icmp .lt 9, 3) := by decide +kernel
theorem dX9_renew_16 : decode cX9_renew 16 = .ok (.iload_n 2, 1) := by decide +kernel
theorem dX9_renew_17 : decode cX9_renew 17 = .ok (.bipush 16, 2) := by decide +kernel
theorem dX9_renew_19 : decode cX9_renew 19 = .ok (.if_icmp .le 5, 3) := by decide +kernel
theorem dX9_renew_22 : decode cX9_renew 22 = .ok (.iconst 0, 1) := by decide +kernel
theorem dX9_renew_23 : decode cX9_renew 23 = .ok (.ireturn, 1) := by decide +kernel
theorem dX9_renew_24 : decode cX9_renew 24 = .ok (.aload_n 0, 1) := by decide +kernel
theorem dX9_renew_25 : decode cX9_renew 25 = .ok (.iload_n 1, 1) := by decide +kernel
theorem dX9_renew_26 : decode cX9_renew 26 = .ok (.putfield 30, 3) := by decide +kernel
theorem dX9_renew_29 : decode cX9_renew 29 = .ok (.aload_n 0, 1) := by decide +kernel
theorem dX9_renew_30 : decode cX9_renew 30 = .ok (.iload_n 2, 1) := by decide +kernel
theorem dX9_renew_31 : decode cX9_renew 31 = .ok (.putfield 34, 3) := by decide +kernel
theorem dX9_renew_34 : decode cX9_renew 34 = .ok (.aload_n 0, 1) := by decide +kernel
theorem dX9_renew_35 : decode cX9_renew 35 = .ok (.getfield 11, 3) := by decide +kernel
theorem dX9_renew_38 : decode cX9_renew 38 = .ok (.iconst 0, 1) := by decide +kernel
theorem dX9_renew_39 : decode cX9_renew 39 = .ok (.invokestatic 40, 3) := by decide +kernel
theorem dX9_renew_42 : decode cX9_renew 42 = .ok (.aload_n 0, 1) := by decide +kernel
theorem dX9_renew_43 : decode cX9_renew 43 = .ok (.getfield 15, 3) := by decide +kernel
theorem dX9_renew_46 : decode cX9_renew 46 = .ok (.iconst 0, 1) := by decide +kernel
theorem dX9_renew_47 : decode cX9_renew 47 = .ok (.invokestatic 40, 3) := by decide +kernel
theorem dX9_renew_50 : decode cX9_renew 50 = .ok (.iconst 1, 1) := by decide +kernel
theorem dX9_renew_51 : decode cX9_renew 51 = .ok (.ireturn, 1) := by decide +kernel
theorem dX9_has_0 : decode cX9_has 0 = .ok (.iload_n 1, 1) := by decide +kernel
theorem dX9_has_1 : decode cX9_has 1 = .ok (.ifCond .lt 27, 3) := by decide +kernel
theorem dX9_has_4 : decode cX9_has 4 = .ok (.iload_n 1, 1) := by decide +kernel
theorem dX9_has_5 : decode cX9_has 5 = .ok (.aload_n 0, 1) := by decide +kernel
theorem dX9_has_6 : decode cX9_has 6 = .ok (.getfield 30, 3) := by decide +kernel
theorem dX9_has_9 : decode cX9_has 9 = .ok (.if_icmp .ge 19, 3) := by decide +kernel
theorem dX9_has_12 : decode cX9_has 12 = .ok (.iload_n 2, 1) := by decide +kernel
theorem dX9_has_13 : decode cX9_has 13 = .ok (.ifCond .lt 15, 3) := by decide +kernel
theorem dX9_has_16 : decode cX9_has 16 = .ok (.iload_n 2, 1) := by decide +kernel
theorem dX9_has_17 : decode cX9_has 17 = .ok (.aload_n 0, 1) := by decide +kernel
theorem dX9_has_18 : decode cX9_has 18 = .ok (.getfield 34, 3) := by decide +kernel
theorem dX9_has_21 : decode cX9_has 21 = .ok (.if_icmp .ge 7, 3) := by decide +kernel
theorem dX9_has_24 : decode cX9_has 24 = .ok (.iconst 1, 1) := by decide +kernel
theorem dX9_has_25 : decode cX9_has 25 = .ok (.goto 4, 3) := by decide +kernel
theorem dX9_has_28 : decode cX9_has 28 = .ok (.iconst 0, 1) := by decide +kernel
theorem dX9_has_29 : decode cX9_has 29 = .ok (.ireturn, 1) := by decide +kernel
theorem dX9_cell_0 : decode cX9_cell 0 = .ok (.iload_n 1, 1) := by decide +kernel
theorem dX9_cell_1 : decode cX9_cell 1 = .ok (.bipush 16, 2) := by decide +kernel
theorem dX9_cell_3 : decode cX9_cell 3 = .ok (.imul, 1) := by decide +kernel
theorem dX9_cell_4 : decode cX9_cell 4 = .ok (.iload_n 0, 1) := by decide +kernel
theorem dX9_cell_5 : decode cX9_cell 5 = .ok (.iadd, 1) := by decide +kernel
theorem dX9_cell_6 : decode cX9_cell 6 = .ok (.ireturn, 1) := by decide +kernel
theorem dX9_lay_0 : decode cX9_lay 0 = .ok (.aload_n 0, 1) := by decide +kernel
theorem dX9_lay_1 : decode cX9_lay 1 = .ok (.iload_n 1, 1) := by decide +kernel
theorem dX9_lay_2 : decode cX9_lay 2 = .ok (.iload_n 2, 1) := by decide +kernel
theorem dX9_lay_3 : decode cX9_lay 3 = .ok (.invokevirtual 46, 3) := by decide +kernel
theorem dX9_lay_6 : decode cX9_lay 6 = .ok (.ifCond .eq 24, 3) := by decide +kernel
theorem dX9_lay_9 : decode cX9_lay 9 = .ok (.aload_n 0, 1) := by decide +kernel
theorem dX9_lay_10 : decode cX9_lay 10 = .ok (.iload_n 3, 1) := by decide +kernel
theorem dX9_lay_11 : decode cX9_lay 11 = .ok (.iload 4, 2) := by decide +kernel
theorem dX9_lay_13 : decode cX9_lay 13 = .ok (.invokevirtual 46, 3) := by decide +kernel
theorem dX9_lay_16 : decode cX9_lay 16 = .ok (.ifCond .eq 14, 3) := by decide +kernel
theorem dX9_lay_19 : decode cX9_lay 19 = .ok (.iload_n 1, 1) := by decide +kernel
theorem dX9_lay_20 : decode cX9_lay 20 = .ok (.iload_n 3, 1) := by decide +kernel
theorem dX9_lay_21 : decode cX9_lay 21 = .ok (.if_icmp .gt 9, 3) := by decide +kernel
theorem dX9_lay_24 : decode cX9_lay 24 = .ok (.iload_n 2, 1) := by decide +kernel
theorem dX9_lay_25 : decode cX9_lay 25 = .ok (.iload 4, 2) := by decide +kernel
theorem dX9_lay_27 : decode cX9_lay 27 = .ok (.if_icmp .le 5, 3) := by decide +kernel
theorem dX9_lay_30 : decode cX9_lay 30 = .ok (.iconst 0, 1) := by decide +kernel
theorem dX9_lay_31 : decode cX9_lay 31 = .ok (.ireturn, 1) := by decide +kernel
theorem dX9_lay_32 : decode cX9_lay 32 = .ok (.iload 5, 2) := by decide +kernel
theorem dX9_lay_34 : decode cX9_lay 34 = .ok (.ifCond .lt 22, 3) := by decide +kernel
theorem dX9_lay_37 : decode cX9_lay 37 = .ok (.iload 5, 2) := by decide +kernel
theorem dX9_lay_39 : decode cX9_lay 39 = .ok (.sipush 999, 3) := by decide +kernel
theorem dX9_lay_42 : decode cX9_lay 42 = .ok (.if_icmp .gt 14, 3) := by decide +kernel
theorem dX9_lay_45 : decode cX9_lay 45 = .ok (.iload 6, 2) := by decide +kernel
theorem dX9_lay_47 : decode cX9_lay 47 = .ok (.ifCond .lt 9, 3) := by decide +kernel
theorem dX9_lay_50 : decode cX9_lay 50 = .ok (.iload 6, 2) := by decide +kernel
theorem dX9_lay_52 : decode cX9_lay 52 = .ok (.iconst 4, 1) := by decide +kernel
theorem dX9_lay_53 : decode cX9_lay 53 = .ok (.if_icmp .lt 5, 3) := by decide +kernel
theorem dX9_lay_56 : decode cX9_lay 56 = .ok (.iconst 0, 1) := by decide +kernel
theorem dX9_lay_57 : decode cX9_lay 57 = .ok (.ireturn, 1) := by decide +kernel
theorem dX9_lay_58 : decode cX9_lay 58 = .ok (.iload_n 2, 1) := by decide +kernel
theorem dX9_lay_59 : decode cX9_lay 59 = .ok (.istore 7, 2) := by decide +kernel
theorem dX9_lay_61 : decode cX9_lay 61 = .ok (.iload 7, 2) := by decide +kernel
theorem dX9_lay_63 : decode cX9_lay 63 = .ok (.iload 4, 2) := by decide +kernel
theorem dX9_lay_65 : decode cX9_lay 65 = .ok (.if_icmp .gt 52, 3) := by decide +kernel
theorem dX9_lay_68 : decode cX9_lay 68 = .ok (.iload_n 1, 1) := by decide +kernel
theorem dX9_lay_69 : decode cX9_lay 69 = .ok (.istore 8, 2) := by decide +kernel
theorem dX9_lay_71 : decode cX9_lay 71 = .ok (.iload 8, 2) := by decide +kernel
theorem dX9_lay_73 : decode cX9_lay 73 = .ok (.iload_n 3, 1) := by decide +kernel
theorem dX9_lay_74 : decode cX9_lay 74 = .ok (.if_icmp .gt 37, 3) := by decide +kernel
theorem dX9_lay_77 : decode cX9_lay 77 = .ok (.aload_n 0, 1) := by decide +kernel
theorem dX9_lay_78 : decode cX9_lay 78 = .ok (.getfield 11, 3) := by decide +kernel
theorem dX9_lay_81 : decode cX9_lay 81 = .ok (.iload 8, 2) := by decide +kernel
theorem dX9_lay_83 : decode cX9_lay 83 = .ok (.iload 7, 2) := by decide +kernel
theorem dX9_lay_85 : decode cX9_lay 85 = .ok (.invokestatic 50, 3) := by decide +kernel
theorem dX9_lay_88 : decode cX9_lay 88 = .ok (.iload 5, 2) := by decide +kernel
theorem dX9_lay_90 : decode cX9_lay 90 = .ok (.iastore, 1) := by decide +kernel
theorem dX9_lay_91 : decode cX9_lay 91 = .ok (.aload_n 0, 1) := by decide +kernel
theorem dX9_lay_92 : decode cX9_lay 92 = .ok (.getfield 15, 3) := by decide +kernel
theorem dX9_lay_95 : decode cX9_lay 95 = .ok (.iload 8, 2) := by decide +kernel
theorem dX9_lay_97 : decode cX9_lay 97 = .ok (.iload 7, 2) := by decide +kernel
theorem dX9_lay_99 : decode cX9_lay 99 = .ok (.invokestatic 50, 3) := by decide +kernel
theorem dX9_lay_102 : decode cX9_lay 102 = .ok (.iload 6, 2) := by decide +kernel
theorem dX9_lay_104 : decode cX9_lay 104 = .ok (.iastore, 1) := by decide +kernel
theorem dX9_lay_105 : decode cX9_lay 105 = .ok (.iinc 8 1, 3) := by decide +kernel
theorem dX9_lay_108 : decode cX9_lay 108 = .ok (.goto (-37), 3) := by decide +kernel
theorem dX9_lay_111 : decode cX9_lay 111 = .ok (.iinc 7 1, 3) := by decide +kernel
theorem dX9_lay_114 : decode cX9_lay 114 = .ok (.goto (-53), 3) := by decide +kernel
theorem dX9_lay_117 : decode cX9_lay 117 = .ok (.iconst 1, 1) := by decide +kernel
theorem dX9_lay_118 : decode cX9_lay 118 = .ok (.ireturn, 1) := by decide +kernel
theorem dX9_plant_0 : decode cX9_plant 0 = .ok (.iload_n 1, 1) := by decide +kernel
theorem dX9_plant_1 : decode cX9_plant 1 = .ok (.iconst 1, 1) := by decide +kernel
theorem dX9_plant_2 : decode cX9_plant 2 = .ok (.if_icmp .lt 23, 3) := by decide +kernel
theorem dX9_plant_5 : decode cX9_plant 5 = .ok (.iload_n 1, 1) := by decide +kernel
theorem dX9_plant_6 : decode cX9_plant 6 = .ok (.iconst 4, 1) := by decide +kernel
theorem dX9_plant_7 : decode cX9_plant 7 = .ok (.if_icmp .ge 18, 3) := by decide +kernel
theorem dX9_plant_10 : decode cX9_plant 10 = .ok (.iload_n 2, 1) := by decide +kernel
theorem dX9_plant_11 : decode cX9_plant 11 = .ok (.ifCond .lt 14, 3) := by decide +kernel
theorem dX9_plant_14 : decode cX9_plant 14 = .ok (.iload_n 2, 1) := by decide +kernel
theorem dX9_plant_15 : decode cX9_plant 15 = .ok (.iload_n 3, 1) := by decide +kernel
theorem dX9_plant_16 : decode cX9_plant 16 = .ok (.if_icmp .gt 9, 3) := by decide +kernel
theorem dX9_plant_19 : decode cX9_plant 19 = .ok (.iload_n 3, 1) := by decide +kernel
theorem dX9_plant_20 : decode cX9_plant 20 = .ok (.bipush 60, 2) := by decide +kernel
theorem dX9_plant_22 : decode cX9_plant 22 = .ok (.if_icmp .le 5, 3) := by decide +kernel
theorem dX9_plant_25 : decode cX9_plant 25 = .ok (.iconst 0, 1) := by decide +kernel
theorem dX9_plant_26 : decode cX9_plant 26 = .ok (.ireturn, 1) := by decide +kernel
theorem dX9_plant_27 : decode cX9_plant 27 = .ok (.aload_n 0, 1) := by decide +kernel
theorem dX9_plant_28 : decode cX9_plant 28 = .ok (.getfield 18, 3) := by decide +kernel
theorem dX9_plant_31 : decode cX9_plant 31 = .ok (.iload_n 1, 1) := by decide +kernel
theorem dX9_plant_32 : decode cX9_plant 32 = .ok (.iload_n 2, 1) := by decide +kernel
theorem dX9_plant_33 : decode cX9_plant 33 = .ok (.iastore, 1) := by decide +kernel
theorem dX9_plant_34 : decode cX9_plant 34 = .ok (.aload_n 0, 1) := by decide +kernel
theorem dX9_plant_35 : decode cX9_plant 35 = .ok (.getfield 21, 3) := by decide +kernel
theorem dX9_plant_38 : decode cX9_plant 38 = .ok (.iload_n 1, 1) := by decide +kernel
theorem dX9_plant_39 : decode cX9_plant 39 = .ok (.iload_n 3, 1) := by decide +kernel
theorem dX9_plant_40 : decode cX9_plant 40 = .ok (.iastore, 1) := by decide +kernel
theorem dX9_plant_41 : decode cX9_plant 41 = .ok (.iconst 1, 1) := by decide +kernel
theorem dX9_plant_42 : decode cX9_plant 42 = .ok (.ireturn, 1) := by decide +kernel
theorem dX9_curve_0 : decode cX9_curve 0 = .ok (.iload_n 1, 1) := by decide +kernel
theorem dX9_curve_1 : decode cX9_curve 1 = .ok (.ifCond .lt 10, 3) := by decide +kernel
theorem dX9_curve_4 : decode cX9_curve 4 = .ok (.iload_n 1, 1) := by decide +kernel
theorem dX9_curve_5 : decode cX9_curve 5 = .ok (.sipush 999, 3) := by decide +kernel
theorem dX9_curve_8 : decode cX9_curve 8 = .ok (.if_icmp .le 5, 3) := by decide +kernel
theorem dX9_curve_11 : decode cX9_curve 11 = .ok (.iconst 0, 1) := by decide +kernel
theorem dX9_curve_12 : decode cX9_curve 12 = .ok (.ireturn, 1) := by decide +kernel
theorem dX9_curve_13 : decode cX9_curve 13 = .ok (.aload_n 0, 1) := by decide +kernel
theorem dX9_curve_14 : decode cX9_curve 14 = .ok (.iload_n 1, 1) := by decide +kernel
theorem dX9_curve_15 : decode cX9_curve 15 = .ok (.putfield 37, 3) := by decide +kernel
theorem dX9_curve_18 : decode cX9_curve 18 = .ok (.iconst 1, 1) := by decide +kernel
theorem dX9_curve_19 : decode cX9_curve 19 = .ok (.ireturn, 1) := by decide +kernel
theorem dX9_veil_0 : decode cX9_veil 0 = .ok (.iload_n 1, 1) := by decide +kernel
theorem dX9_veil_1 : decode cX9_veil 1 = .ok (.iload_n 2, 1) := by decide +kernel
theorem dX9_veil_2 : decode cX9_veil 2 = .ok (.invokestatic 54, 3) := by decide +kernel
theorem dX9_veil_5 : decode cX9_veil 5 = .ok (.ifCond .eq 20, 3) := by decide +kernel
theorem dX9_veil_8 : decode cX9_veil 8 = .ok (.iload_n 3, 1) := by decide +kernel
theorem dX9_veil_9 : decode cX9_veil 9 = .ok (.ifCond .lt 16, 3) := by decide +kernel
theorem dX9_veil_12 : decode cX9_veil 12 = .ok (.iload_n 3, 1) := by decide +kernel
theorem dX9_veil_13 : decode cX9_veil 13 = .ok (.iload 4, 2) := by decide +kernel
theorem dX9_veil_15 : decode cX9_veil 15 = .ok (.if_icmp .gt 10, 3) := by decide +kernel
theorem dX9_veil_18 : decode cX9_veil 18 = .ok (.iload 4, 2) := by decide +kernel
theorem dX9_veil_20 : decode cX9_veil 20 = .ok (.bipush 30, 2) := by decide +kernel
theorem dX9_veil_22 : decode cX9_veil 22 = .ok (.if_icmp .le 5, 3) := by decide +kernel
theorem dX9_veil_25 : decode cX9_veil 25 = .ok (.iconst 0, 1) := by decide +kernel
theorem dX9_veil_26 : decode cX9_veil 26 = .ok (.ireturn, 1) := by decide +kernel
theorem dX9_veil_27 : decode cX9_veil 27 = .ok (.aload_n 0, 1) := by decide +kernel
theorem dX9_veil_28 : decode cX9_veil 28 = .ok (.getfield 24, 3) := by decide +kernel
theorem dX9_veil_31 : decode cX9_veil 31 = .ok (.iload_n 1, 1) := by decide +kernel
theorem dX9_veil_32 : decode cX9_veil 32 = .ok (.iconst 2, 1) := by decide +kernel
theorem dX9_veil_33 : decode cX9_veil 33 = .ok (.imul, 1) := by decide +kernel
theorem dX9_veil_34 : decode cX9_veil 34 = .ok (.iload_n 2, 1) := by decide +kernel
theorem dX9_veil_35 : decode cX9_veil 35 = .ok (.iadd, 1) := by decide +kernel
theorem dX9_veil_36 : decode cX9_veil 36 = .ok (.iload_n 3, 1) := by decide +kernel
theorem dX9_veil_37 : decode cX9_veil 37 = .ok (.iastore, 1) := by decide +kernel
theorem dX9_veil_38 : decode cX9_veil 38 = .ok (.aload_n 0, 1) := by decide +kernel
theorem dX9_veil_39 : decode cX9_veil 39 = .ok (.getfield 27, 3) := by decide +kernel
theorem dX9_veil_42 : decode cX9_veil 42 = .ok (.iload_n 1, 1) := by decide +kernel
theorem dX9_veil_43 : decode cX9_veil 43 = .ok (.iconst 2, 1) := by decide +kernel
theorem dX9_veil_44 : decode cX9_veil 44 = .ok (.imul, 1) := by decide +kernel
theorem dX9_veil_45 : decode cX9_veil 45 = .ok (.iload_n 2, 1) := by decide +kernel
theorem dX9_veil_46 : decode cX9_veil 46 = .ok (.iadd, 1) := by decide +kernel
theorem dX9_veil_47 : decode cX9_veil 47 = .ok (.iload 4, 2) := by decide +kernel
theorem dX9_veil_49 : decode cX9_veil 49 = .ok (.iastore, 1) := by decide +kernel
theorem dX9_veil_50 : decode cX9_veil 50 = .ok (.iconst 1, 1) := by decide +kernel
theorem dX9_veil_51 : decode cX9_veil 51 = .ok (.ireturn, 1) := by decide +kernel
theorem dX9_topAt_0 : decode cX9_topAt 0 = .ok (.aload_n 0, 1) := by decide +kernel
theorem dX9_topAt_1 : decode cX9_topAt 1 = .ok (.getfield 15, 3) := by decide +kernel
theorem dX9_topAt_4 : decode cX9_topAt 4 = .ok (.iload_n 1, 1) := by decide +kernel
theorem dX9_topAt_5 : decode cX9_topAt 5 = .ok (.iaload, 1) := by decide +kernel
theorem dX9_topAt_6 : decode cX9_topAt 6 = .ok (.istore_n 3, 1) := by decide +kernel
theorem dX9_topAt_7 : decode cX9_topAt 7 = .ok (.aload_n 0, 1) := by decide +kernel
theorem dX9_topAt_8 : decode cX9_topAt 8 = .ok (.getfield 11, 3) := by decide +kernel
theorem dX9_topAt_11 : decode cX9_topAt 11 = .ok (.iload_n 1, 1) := by decide +kernel
theorem dX9_topAt_12 : decode cX9_topAt 12 = .ok (.iaload, 1) := by decide +kernel
theorem dX9_topAt_13 : decode cX9_topAt 13 = .ok (.iload_n 2, 1) := by decide +kernel
theorem dX9_topAt_14 : decode cX9_topAt 14 = .ok (.ifCond .eq 12, 3) := by decide +kernel
theorem dX9_topAt_17 : decode cX9_topAt 17 = .ok (.aload_n 0, 1) := by decide +kernel
theorem dX9_topAt_18 : decode cX9_topAt 18 = .ok (.getfield 21, 3) := by decide +kernel
theorem dX9_topAt_21 : decode cX9_topAt 21 = .ok (.iload_n 3, 1) := by decide +kernel
theorem dX9_topAt_22 : decode cX9_topAt 22 = .ok (.iaload, 1) := by decide +kernel
theorem dX9_topAt_23 : decode cX9_topAt 23 = .ok (.goto 9, 3) := by decide +kernel
theorem dX9_topAt_26 : decode cX9_topAt 26 = .ok (.aload_n 0, 1) := by decide +kernel
theorem dX9_topAt_27 : decode cX9_topAt 27 = .ok (.getfield 18, 3) := by decide +kernel
theorem dX9_topAt_30 : decode cX9_topAt 30 = .ok (.iload_n 3, 1) := by decide +kernel
theorem dX9_topAt_31 : decode cX9_topAt 31 = .ok (.iaload, 1) := by decide +kernel
theorem dX9_topAt_32 : decode cX9_topAt 32 = .ok (.iadd, 1) := by decide +kernel
theorem dX9_topAt_33 : decode cX9_topAt 33 = .ok (.ireturn, 1) := by decide +kernel
theorem dX10_init_0 : decode cX10_init 0 = .ok (.aload_n 0, 1) := by decide +kernel
theorem dX10_init_1 : decode cX10_init 1 = .ok (.invokespecial 3, 3) := by decide +kernel
theorem dX10_init_4 : decode cX10_init 4 = .ok (.aload_n 0, 1) := by decide +kernel
theorem dX10_init_5 : decode cX10_init 5 = .ok (.sipush 1000, 3) := by decide +kernel
theorem dX10_init_8 : decode cX10_init 8 = .ok (.newarray .int, 2) := by decide +kernel
theorem dX10_init_10 : decode cX10_init 10 = .ok (.putfield 9, 3) := by decide +kernel
theorem dX10_init_13 : decode cX10_init 13 = .ok (.aload_n 0, 1) := by decide +kernel
theorem dX10_init_14 : decode cX10_init 14 = .ok (.bipush 13, 2) := by decide +kernel
theorem dX10_init_16 : decode cX10_init 16 = .ok (.newarray .long, 2) := by decide +kernel
theorem dX10_init_18 : decode cX10_init 18 = .ok (.putfield 15, 3) := by decide +kernel
theorem dX10_init_21 : decode cX10_init 21 = .ok (.aload_n 0, 1) := by decide +kernel
theorem dX10_init_22 : decode cX10_init 22 = .ok (.iconst 0, 1) := by decide +kernel
theorem dX10_init_23 : decode cX10_init 23 = .ok (.putfield 19, 3) := by decide +kernel
theorem dX10_init_26 : decode cX10_init 26 = .ok (.aload_n 0, 1) := by decide +kernel
theorem dX10_init_27 : decode cX10_init 27 = .ok (.iconst 0, 1) := by decide +kernel
theorem dX10_init_28 : decode cX10_init 28 = .ok (.putfield 23, 3) := by decide +kernel
theorem dX10_init_31 : decode cX10_init 31 = .ok (.aload_n 0, 1) := by decide +kernel
theorem dX10_init_32 : decode cX10_init 32 = .ok (.iconst 0, 1) := by decide +kernel
theorem dX10_init_33 : decode cX10_init 33 = .ok (.putfield 26, 3) := by decide +kernel
theorem dX10_init_36 : decode cX10_init 36 = .ok (.aload_n 0, 1) := by decide +kernel
theorem dX10_init_37 : decode cX10_init 37 = .ok (.iconst 0, 1) := by decide +kernel
theorem dX10_init_38 : decode cX10_init 38 = .ok (.putfield 29, 3) := by decide +kernel
theorem dX10_init_41 : decode cX10_init 41 = .ok (.aload_n 0, 1) := by decide +kernel
theorem dX10_init_42 : decode cX10_init 42 = .ok (.iconst 0, 1) := by decide +kernel
theorem dX10_init_43 : decode cX10_init 43 = .ok (.putfield 32, 3) := by decide +kernel
theorem dX10_init_46 : decode cX10_init 46 = .ok (.aload_n 0, 1) := by decide +kernel
theorem dX10_init_47 : decode cX10_init 47 = .ok (.iconst 0, 1) := by decide +kernel
theorem dX10_init_48 : decode cX10_init 48 = .ok (.putfield 35, 3) := by decide +kernel
theorem dX10_init_51 : decode cX10_init 51 = .ok (.aload_n 0, 1) := by decide +kernel
theorem dX10_init_52 : decode cX10_init 52 = .ok (.lconst 0, 1) := by decide +kernel
theorem dX10_init_53 : decode cX10_init 53 = .ok (.putfield 38, 3) := by decide +kernel
theorem dX10_init_56 : decode cX10_init 56 = .ok (.aload_n 0, 1) := by decide +kernel
theorem dX10_init_57 : decode cX10_init 57 = .ok (.iconst (-1), 1) := by decide +kernel
theorem dX10_init_58 : decode cX10_init 58 = .ok (.putfield 42, 3) := by decide +kernel
theorem dX10_init_61 : decode cX10_init 61 = .ok (.iconst 0, 1) := by decide +kernel
theorem dX10_init_62 : decode cX10_init 62 = .ok (.istore_n 1, 1) := by decide +kernel
theorem dX10_init_63 : decode cX10_init 63 = .ok (.iconst 0, 1) := by decide +kernel
theorem dX10_init_64 : decode cX10_init 64 = .ok (.istore_n 2, 1) := by decide +kernel
theorem dX10_init_65 : decode cX10_init 65 = .ok (.iload_n 2, 1) := by decide +kernel
theorem dX10_init_66 : decode cX10_init 66 = .ok (.ldc 45, 2) := by decide +kernel
theorem dX10_init_68 : decode cX10_init 68 = .ok (.invokevirtual 47, 3) := by decide +kernel
theorem dX10_init_71 : decode cX10_init 71 = .ok (.if_icmp .ge 50, 3) := by decide +kernel
theorem dX10_init_74 : decode cX10_init 74 = .ok (.iload_n 1, 1) := by decide +kernel
theorem dX10_init_75 : decode cX10_init 75 = .ok (.bipush 13, 2) := by decide +kernel
theorem dX10_init_77 : decode cX10_init 77 = .ok (.if_icmp .ge 44, 3) := by decide +kernel
theorem dX10_init_80 : decode cX10_init 80 = .ok (.ldc 45, 2) := by decide +kernel
theorem dX10_init_82 : decode cX10_init 82 = .ok (.iload_n 2, 1) := by decide +kernel
theorem dX10_init_83 : decode cX10_init 83 = .ok (.invokevirtual 52, 3) := by decide +kernel
theorem dX10_init_86 : decode cX10_init 86 = .ok (.istore_n 3, 1) := by decide +kernel
theorem dX10_init_87 : decode cX10_init 87 = .ok (.iload_n 3, 1) := by decide +kernel
theorem dX10_init_88 : decode cX10_init 88 = .ok (.bipush 32, 2) := by decide +kernel
theorem dX10_init_90 : decode cX10_init 90 = .ok (.if_icmp .ne 9, 3) := by decide +kernel
theorem dX10_init_93 : decode cX10_init 93 = .ok (.iinc 1 1, 3) := by decide +kernel
theorem dX10_init_96 : decode cX10_init 96 = .ok (.goto 19, 3) := by decide +kernel
theorem dX10_init_99 : decode cX10_init 99 = .ok (.aload_n 0, 1) := by decide +kernel
theorem dX10_init_100 : decode cX10_init 100 = .ok (.getfield 15, 3) := by decide +kernel
theorem dX10_init_103 : decode cX10_init 103 = .ok (.iload_n 1, 1) := by decide +kernel
theorem dX10_init_104 : decode cX10_init 104 = .ok (.aload_n 0, 1) := by decide +kernel
theorem dX10_init_105 : decode cX10_init 105 = .ok (.getfield 15, 3) := by decide +kernel
theorem dX10_init_108 : decode cX10_init 108 = .ok (.iload_n 1, 1) := by decide +kernel
theorem dX10_init_109 : decode cX10_init 109 = .ok (.laload, 1) := by decide +kernel
theorem dX10_init_110 : decode cX10_init 110 = .ok (.iload_n 3, 1) := by decide +kernel
theorem dX10_init_111 : decode cX10_init 111 = .ok (.invokestatic 56, 3) := by decide +kernel
theorem dX10_init_114 : decode cX10_init 114 = .ok (.lastore, 1) := by decide +kernel
theorem dX10_init_115 : decode cX10_init 115 = .ok (.iinc 2 1, 3) := by decide +kernel
theorem dX10_init_118 : decode cX10_init 118 = .ok (.goto (-53), 3) := by decide +kernel
theorem dX10_init_121 : decode cX10_init 121 = .ok (.return_, 1) := by decide +kernel
theorem dX10_withLetter_0 : decode cX10_withLetter 0 = .ok (.lload_n 0, 1) := by decide +kernel
theorem dX10_withLetter_1 : decode cX10_withLetter 1 = .ok (.ldc2_w 60, 3) := by decide +kernel
theorem dX10_withLetter_4 : decode cX10_withLetter 4 = .ok (.lmul, 1) := by decide +kernel
theorem dX10_withLetter_5 : decode cX10_withLetter 5 = .ok (.iload_n 2, 1) := by decide +kernel
theorem dX10_withLetter_6 : decode cX10_withLetter 6 = .ok (.bipush 97, 2) := by decide +kernel
theorem dX10_withLetter_8 : decode cX10_withLetter 8 = .ok (.isub, 1) := by decide +kernel
theorem dX10_withLetter_9 : decode cX10_withLetter 9 = .ok (.iconst 1, 1) := by decide +kernel
theorem dX10_withLetter_10 : decode cX10_withLetter 10 = .ok (.iadd, 1) := by decide +kernel
theorem dX10_withLetter_11 : decode cX10_withLetter 11 = .ok (.i2l, 1) := by decide +kernel
theorem dX10_withLetter_12 : decode cX10_withLetter 12 = .ok (.ladd, 1) := by decide +kernel
theorem dX10_withLetter_13 : decode cX10_withLetter 13 = .ok (.lreturn, 1) := by decide +kernel
theorem dX10_hasRoom_0 : decode cX10_hasRoom 0 = .ok (.aload_n 0, 1) := by decide +kernel
theorem dX10_hasRoom_1 : decode cX10_hasRoom 1 = .ok (.getfield 19, 3) := by decide +kernel
theorem dX10_hasRoom_4 : decode cX10_hasRoom 4 = .ok (.bipush 20, 2) := by decide +kernel
theorem dX10_hasRoom_6 : decode cX10_hasRoom 6 = .ok (.iadd, 1) := by decide +kernel
theorem dX10_hasRoom_7 : decode cX10_hasRoom 7 = .ok (.sipush 1000, 3) := by decide +kernel
theorem dX10_hasRoom_10 : decode cX10_hasRoom 10 = .ok (.if_icmp .gt 7, 3) := by decide +kernel
theorem dX10_hasRoom_13 : decode cX10_hasRoom 13 = .ok (.iconst 1, 1) := by decide +kernel
theorem dX10_hasRoom_14 : decode cX10_hasRoom 14 = .ok (.goto 4, 3) := by decide +kernel
theorem dX10_hasRoom_17 : decode cX10_hasRoom 17 = .ok (.iconst 0, 1) := by decide +kernel
theorem dX10_hasRoom_18 : decode cX10_hasRoom 18 = .ok (.ireturn, 1) := by decide +kernel
theorem dX10_append_0 : decode cX10_append 0 = .ok (.bipush 24, 2) := by decide +kernel
theorem dX10_append_2 : decode cX10_append 2 = .ok (.istore_n 2, 1) := by decide +kernel
theorem dX10_append_3 : decode cX10_append 3 = .ok (.iload_n 2, 1) := by decide +kernel
theorem dX10_append_4 : decode cX10_append 4 = .ok (.ifCond .lt 45, 3) := by decide +kernel
theorem dX10_append_7 : decode cX10_append 7 = .ok (.aload_n 0, 1) := by decide +kernel
theorem dX10_append_8 : decode cX10_append 8 = .ok (.getfield 19, 3) := by decide +kernel
theorem dX10_append_11 : decode cX10_append 11 = .ok (.sipush 1000, 3) := by decide +kernel
theorem dX10_append_14 : decode cX10_append 14 = .ok (.if_icmp .ge 35, 3) := by decide +kernel
theorem dX10_append_17 : decode cX10_append 17 = .ok (.aload_n 0, 1) := by decide +kernel
theorem dX10_append_18 : decode cX10_append 18 = .ok (.getfield 9, 3) := by decide +kernel
theorem dX10_append_21 : decode cX10_append 21 = .ok (.aload_n 0, 1) := by decide +kernel
theorem dX10_append_22 : decode cX10_append 22 = .ok (.getfield 19, 3) := by decide +kernel
theorem dX10_append_25 : decode cX10_append 25 = .ok (.iload_n 1, 1) := by decide +kernel
theorem dX10_append_26 : decode cX10_append 26 = .ok (.iload_n 2, 1) := by decide +kernel
theorem dX10_append_27 : decode cX10_append 27 = .ok (.ishr, 1) := by decide +kernel
theorem dX10_append_28 : decode cX10_append 28 = .ok (.sipush 255, 3) := by decide +kernel
theorem dX10_append_31 : decode cX10_append 31 = .ok (.iand, 1) := by decide +kernel
theorem dX10_append_32 : decode cX10_append 32 = .ok (.iastore, 1) := by decide +kernel
theorem dX10_append_33 : decode cX10_append 33 = .ok (.aload_n 0, 1) := by decide +kernel
theorem dX10_append_34 : decode cX10_append 34 = .ok (.dup, 1) := by decide +kernel
theorem dX10_append_35 : decode cX10_append 35 = .ok (.getfield 19, 3) := by decide +kernel
theorem dX10_append_38 : decode cX10_append 38 = .ok (.iconst 1, 1) := by decide +kernel
theorem dX10_append_39 : decode cX10_append 39 = .ok (.iadd, 1) := by decide +kernel
theorem dX10_append_40 : decode cX10_append 40 = .ok (.putfield 19, 3) := by decide +kernel
theorem dX10_append_43 : decode cX10_append 43 = .ok (.iinc 2 (-8), 3) := by decide +kernel
theorem dX10_append_46 : decode cX10_append 46 = .ok (.goto (-43), 3) := by decide +kernel
theorem dX10_append_49 : decode cX10_append 49 = .ok (.return_, 1) := by decide +kernel
theorem dX10_start_0 : decode cX10_start 0 = .ok (.aload_n 0, 1) := by decide +kernel
theorem dX10_start_1 : decode cX10_start 1 = .ok (.iload_n 1, 1) := by decide +kernel
theorem dX10_start_2 : decode cX10_start 2 = .ok (.putfield 23, 3) := by decide +kernel
theorem dX10_start_5 : decode cX10_start 5 = .ok (.aload_n 0, 1) := by decide +kernel
theorem dX10_start_6 : decode cX10_start 6 = .ok (.iconst 0, 1) := by decide +kernel
theorem dX10_start_7 : decode cX10_start 7 = .ok (.putfield 26, 3) := by decide +kernel
theorem dX10_start_10 : decode cX10_start 10 = .ok (.aload_n 0, 1) := by decide +kernel
theorem dX10_start_11 : decode cX10_start 11 = .ok (.invokevirtual 62, 3) := by decide +kernel
theorem dX10_start_14 : decode cX10_start 14 = .ok (.return_, 1) := by decide +kernel
theorem dX10_advance_0 : decode cX10_advance 0 = .ok (.aload_n 0, 1) := by decide +kernel
theorem dX10_advance_1 : decode cX10_advance 1 = .ok (.getfield 26, 3) := by decide +kernel
theorem dX10_advance_4 : decode cX10_advance 4 = .ok (.aload_n 0, 1) := by decide +kernel
theorem dX10_advance_5 : decode cX10_advance 5 = .ok (.getfield 23, 3) := by decide +kernel
theorem dX10_advance_8 : decode cX10_advance 8 = .ok (.if_icmp .ge 44, 3) := by decide +kernel
theorem dX10_advance_11 : decode cX10_advance 11 = .ok (.aload_n 0, 1) := by decide +kernel
theorem dX10_advance_12 : decode cX10_advance 12 = .ok (.getfield 9, 3) := by decide +kernel
theorem dX10_advance_15 : decode cX10_advance 15 = .ok (.aload_n 0, 1) := by decide +kernel
theorem dX10_advance_16 : decode cX10_advance 16 = .ok (.getfield 26, 3) := by decide +kernel
theorem dX10_advance_19 : decode cX10_advance 19 = .ok (.iaload, 1) := by decide +kernel
theorem dX10_advance_20 : decode cX10_advance 20 = .ok (.bipush 32, 2) := by decide +kernel
theorem dX10_advance_22 : decode cX10_advance 22 = .ok (.if_icmp .eq 17, 3) := by decide +kernel
theorem dX10_advance_25 : decode cX10_advance 25 = .ok (.aload_n 0, 1) := by decide +kernel
theorem dX10_advance_26 : decode cX10_advance 26 = .ok (.getfield 9, 3) := by decide +kernel
theorem dX10_advance_29 : decode cX10_advance 29 = .ok (.aload_n 0, 1) := by decide +kernel
theorem dX10_advance_30 : decode cX10_advance 30 = .ok (.getfield 26, 3) := by decide +kernel
theorem dX10_advance_33 : decode cX10_advance 33 = .ok (.iaload, 1) := by decide +kernel
theorem dX10_advance_34 : decode cX10_advance 34 = .ok (.bipush 10, 2) := by decide +kernel
theorem dX10_advance_36 : decode cX10_advance 36 = .ok (.if_icmp .ne 16, 3) := by decide +kernel
theorem dX10_advance_39 : decode cX10_advance 39 = .ok (.aload_n 0, 1) := by decide +kernel
theorem dX10_advance_40 : decode cX10_advance 40 = .ok (.dup, 1) := by decide +kernel
theorem dX10_advance_41 : decode cX10_advance 41 = .ok (.getfield 26, 3) := by decide +kernel
theorem dX10_advance_44 : decode cX10_advance 44 = .ok (.iconst 1, 1) := by decide +kernel
theorem dX10_advance_45 : decode cX10_advance 45 = .ok (.iadd, 1) := by decide +kernel
theorem dX10_advance_46 : decode cX10_advance 46 = .ok (.putfield 26, 3) := by decide +kernel
theorem dX10_advance_49 : decode cX10_advance 49 = .ok (.goto (-49), 3) := by decide +kernel
theorem dX10_advance_52 : decode cX10_advance 52 = .ok (.aload_n 0, 1) := by decide +kernel
theorem dX10_advance_53 : decode cX10_advance 53 = .ok (.aload_n 0, 1) := by decide +kernel
theorem dX10_advance_54 : decode cX10_advance 54 = .ok (.getfield 26, 3) := by decide +kernel
theorem dX10_advance_57 : decode cX10_advance 57 = .ok (.putfield 32, 3) := by decide +kernel
theorem dX10_advance_60 : decode cX10_advance 60 = .ok (.aload_n 0, 1) := by decide +kernel
theorem dX10_advance_61 : decode cX10_advance 61 = .ok (.iconst (-1), 1) := by decide +kernel
theorem dX10_advance_62 : decode cX10_advance 62 = .ok (.putfield 42, 3) := by decide +kernel
theorem dX10_advance_65 : decode cX10_advance 65 = .ok (.aload_n 0, 1) := by decide +kernel
theorem dX10_advance_66 : decode cX10_advance 66 = .ok (.getfield 26, 3) := by decide +kernel
theorem dX10_advance_69 : decode cX10_advance 69 = .ok (.aload_n 0, 1) := by decide +kernel
theorem dX10_advance_70 : decode cX10_advance 70 = .ok (.getfield 23, 3) := by decide +kernel
theorem dX10_advance_73 : decode cX10_advance 73 = .ok (.if_icmp .lt 11, 3) := by decide +kernel
theorem dX10_advance_76 : decode cX10_advance 76 = .ok (.aload_n 0, 1) := by decide +kernel
theorem dX10_advance_77 : decode cX10_advance 77 = .ok (.iconst 0, 1) := by decide +kernel
theorem dX10_advance_78 : decode cX10_advance 78 = .ok (.putfield 29, 3) := by decide +kernel
theorem dX10_advance_81 : decode cX10_advance 81 = .ok (.goto 51, 3) := by decide +kernel
theorem dX10_advance_84 : decode cX10_advance 84 = .ok (.aload_n 0, 1) := by decide +kernel
theorem dX10_advance_85 : decode cX10_advance 85 = .ok (.getfield 9, 3) := by decide +kernel
theorem dX10_advance_88 : decode cX10_advance 88 = .ok (.aload_n 0, 1) := by decide +kernel
theorem dX10_advance_89 : decode cX10_advance 89 = .ok (.getfield 26, 3) := by decide +kernel
theorem dX10_advance_92 : decode cX10_advance 92 = .ok (.iaload, 1) := by decide +kernel
theorem dX10_advance_93 : decode cX10_advance 93 = .ok (.invokestatic 65, 3) := by decide +kernel
theorem dX10_advance_96 : decode cX10_advance 96 = .ok (.ifCond .eq 10, 3) := by decide +kernel
theorem dX10_advance_99 : decode cX10_advance 99 = .ok (.aload_n 0, 1) := by decide +kernel
theorem dX10_advance_100 : decode cX10_advance 100 = .ok (.invokevirtual 69, 3) := by decide +kernel
theorem dX10_advance_103 : decode cX10_advance 103 = .ok (.goto 29, 3) := by decide +kernel
theorem dX10_advance_106 : decode cX10_advance 106 = .ok (.aload_n 0, 1) := by decide +kernel
theorem dX10_advance_107 : decode cX10_advance 107 = .ok (.getfield 9, 3) := by decide +kernel
theorem dX10_advance_110 : decode cX10_advance 110 = .ok (.aload_n 0, 1) := by decide +kernel
theorem dX10_advance_111 : decode cX10_advance 111 = .ok (.getfield 26, 3) := by decide +kernel
theorem dX10_advance_114 : decode cX10_advance 114 = .ok (.iaload, 1) := by decide +kernel
theorem dX10_advance_115 : decode cX10_advance 115 = .ok (.invokestatic 72, 3) := by decide +kernel
theorem dX10_advance_118 : decode cX10_advance 118 = .ok (.ifCond .eq 10, 3) := by decide +kernel
theorem dX10_advance_121 : decode cX10_advance 121 = .ok (.aload_n 0, 1) := by decide +kernel
theorem dX10_advance_122 : decode cX10_advance 122 = .ok (.invokevirtual 75, 3) := by decide +kernel
theorem dX10_advance_125 : decode cX10_advance 125 = .ok (.goto 7, 3) := by decide +kernel
theorem dX10_advance_128 : decode cX10_advance 128 = .ok (.aload_n 0, 1) := by decide +kernel
theorem dX10_advance_129 : decode cX10_advance 129 = .ok (.invokevirtual 78, 3) := by decide +kernel
theorem dX10_advance_132 : decode cX10_advance 132 = .ok (.return_, 1) := by decide +kernel
theorem dX10_isLetter_0 : decode cX10_isLetter 0 = .ok (.iload_n 0, 1) := by decide +kernel
theorem dX10_isLetter_1 : decode cX10_isLetter 1 = .ok (.bipush 97, 2) := by decide +kernel
theorem dX10_isLetter_3 : decode cX10_isLetter 3 = .ok (.if_icmp .lt 13, 3) := by decide +kernel
theorem dX10_isLetter_6 : decode cX10_isLetter 6 = .ok (.iload_n 0, 1) := by decide +kernel
theorem dX10_isLetter_7 : decode cX10_isLetter 7 = .ok (.bipush 122, 2) := by decide +kernel
theorem dX10_isLetter_9 : decode cX10_isLetter 9 = .ok (.if_icmp .gt 7, 3) := by decide +kernel
theorem dX10_isLetter_12 : decode cX10_isLetter 12 = .ok (.iconst 1, 1) := by decide +kernel
theorem dX10_isLetter_13 : decode cX10_isLetter 13 = .ok (.goto 4, 3) := by decide +kernel
theorem dX10_isLetter_16 : decode cX10_isLetter 16 = .ok (.iconst 0, 1) := by decide +kernel
theorem dX10_isLetter_17 : decode cX10_isLetter 17 = .ok (.ireturn, 1) := by decide +kernel
theorem dX10_isDigit_0 : decode cX10_isDigit 0 = .ok (.iload_n 0, 1) := by decide +kernel
theorem dX10_isDigit_1 : decode cX10_isDigit 1 = .ok (.bipush 48, 2) := by decide +kernel
theorem dX10_isDigit_3 : decode cX10_isDigit 3 = .ok (.if_icmp .lt 13, 3) := by decide +kernel
theorem dX10_isDigit_6 : decode cX10_isDigit 6 = .ok (.iload_n 0, 1) := by decide +kernel
theorem dX10_isDigit_7 : decode cX10_isDigit 7 = .ok (.bipush 57, 2) := by decide +kernel
theorem dX10_isDigit_9 : decode cX10_isDigit 9 = .ok (.if_icmp .gt 7, 3) := by decide +kernel
theorem dX10_isDigit_12 : decode cX10_isDigit 12 = .ok (.iconst 1, 1) := by decide +kernel
theorem dX10_isDigit_13 : decode cX10_isDigit 13 = .ok (.goto 4, 3) := by decide +kernel
theorem dX10_isDigit_16 : decode cX10_isDigit 16 = .ok (.iconst 0, 1) := by decide +kernel
theorem dX10_isDigit_17 : decode cX10_isDigit 17 = .ok (.ireturn, 1) := by decide +kernel
theorem dX10_takeName_0 : decode cX10_takeName 0 = .ok (.aload_n 0, 1) := by decide +kernel
theorem dX10_takeName_1 : decode cX10_takeName 1 = .ok (.lconst 0, 1) := by decide +kernel
theorem dX10_takeName_2 : decode cX10_takeName 2 = .ok (.putfield 38, 3) := by decide +kernel
theorem dX10_takeName_5 : decode cX10_takeName 5 = .ok (.aload_n 0, 1) := by decide +kernel
theorem dX10_takeName_6 : decode cX10_takeName 6 = .ok (.getfield 26, 3) := by decide +kernel
theorem dX10_takeName_9 : decode cX10_takeName 9 = .ok (.aload_n 0, 1) := by decide +kernel
theorem dX10_takeName_10 : decode cX10_takeName 10 = .ok (.getfield 23, 3) := by decide +kernel
theorem dX10_takeName_13 : decode cX10_takeName 13 = .ok (.if_icmp .ge 65, 3) := by decide +kernel
theorem dX10_takeName_16 : decode cX10_takeName 16 = .ok (.aload_n 0, 1) := by decide +kernel
theorem dX10_takeName_17 : decode cX10_takeName 17 = .ok (.getfield 9, 3) := by decide +kernel
theorem dX10_takeName_20 : decode cX10_takeName 20 = .ok (.aload_n 0, 1) := by decide +kernel
theorem dX10_takeName_21 : decode cX10_takeName 21 = .ok (.getfield 26, 3) := by decide +kernel
theorem dX10_takeName_24 : decode cX10_takeName 24 = .ok (.iaload, 1) := by decide +kernel
theorem dX10_takeName_25 : decode cX10_takeName 25 = .ok (.invokestatic 65, 3) := by decide +kernel
theorem dX10_takeName_28 : decode cX10_takeName 28 = .ok (.ifCond .eq 50, 3) := by decide +kernel
theorem dX10_takeName_31 : decode cX10_takeName 31 = .ok (.aload_n 0, 1) := by decide +kernel
theorem dX10_takeName_32 : decode cX10_takeName 32 = .ok (.getfield 26, 3) := by decide +kernel
theorem dX10_takeName_35 : decode cX10_takeName 35 = .ok (.aload_n 0, 1) := by decide +kernel
theorem dX10_takeName_36 : decode cX10_takeName 36 = .ok (.getfield 32, 3) := by decide +kernel
theorem dX10_takeName_39 : decode cX10_takeName 39 = .ok (.isub, 1) := by decide +kernel
theorem dX10_takeName_40 : decode cX10_takeName 40 = .ok (.bipush 8, 2) := by decide +kernel
theorem dX10_takeName_42 : decode cX10_takeName 42 = .ok (.if_icmp .ge 23, 3) := by decide +kernel
theorem dX10_takeName_45 : decode cX10_takeName 45 = .ok (.aload_n 0, 1) := by decide +kernel
theorem dX10_takeName_46 : decode cX10_takeName 46 = .ok (.aload_n 0, 1) := by decide +kernel
theorem dX10_takeName_47 : decode cX10_takeName 47 = .ok (.getfield 38, 3) := by decide +kernel
theorem dX10_takeName_50 : decode cX10_takeName 50 = .ok (.aload_n 0, 1) := by decide +kernel
theorem dX10_takeName_51 : decode cX10_takeName 51 = .ok (.getfield 9, 3) := by decide +kernel
theorem dX10_takeName_54 : decode cX10_takeName 54 = .ok (.aload_n 0, 1) := by decide +kernel
theorem dX10_takeName_55 : decode cX10_takeName 55 = .ok (.getfield 26, 3) := by decide +kernel
theorem dX10_takeName_58 : decode cX10_takeName 58 = .ok (.iaload, 1) := by decide +kernel
theorem dX10_takeName_59 : decode cX10_takeName 59 = .ok (.invokestatic 56, 3) := by decide +kernel
theorem dX10_takeName_62 : decode cX10_takeName 62 = .ok (.putfield 38, 3) := by decide +kernel
theorem dX10_takeName_65 : decode cX10_takeName 65 = .ok (.aload_n 0, 1) := by decide +kernel
theorem dX10_takeName_66 : decode cX10_takeName 66 = .ok (.dup, 1) := by decide +kernel
theorem dX10_takeName_67 : decode cX10_takeName 67 = .ok (.getfield 26, 3) := by decide +kernel
theorem dX10_takeName_70 : decode cX10_takeName 70 = .ok (.iconst 1, 1) := by decide +kernel
theorem dX10_takeName_71 : decode cX10_takeName 71 = .ok (.iadd, 1) := by decide +kernel
theorem dX10_takeName_72 : decode cX10_takeName 72 = .ok (.putfield 26, 3) := by decide +kernel
theorem dX10_takeName_75 : decode cX10_takeName 75 = .ok (.goto (-70), 3) := by decide +kernel
theorem dX10_takeName_78 : decode cX10_takeName 78 = .ok (.aload_n 0, 1) := by decide +kernel
theorem dX10_takeName_79 : decode cX10_takeName 79 = .ok (.aload_n 0, 1) := by decide +kernel
theorem dX10_takeName_80 : decode cX10_takeName 80 = .ok (.getfield 26, 3) := by decide +kernel
theorem dX10_takeName_83 : decode cX10_takeName 83 = .ok (.aload_n 0, 1) := by decide +kernel
theorem dX10_takeName_84 : decode cX10_takeName 84 = .ok (.getfield 32, 3) := by decide +kernel
theorem dX10_takeName_87 : decode cX10_takeName 87 = .ok (.isub, 1) := by decide +kernel
theorem dX10_takeName_88 : decode cX10_takeName 88 = .ok (.bipush 8, 2) := by decide +kernel
theorem dX10_takeName_90 : decode cX10_takeName 90 = .ok (.if_icmp .le 7, 3) := by decide +kernel
theorem dX10_takeName_93 : decode cX10_takeName 93 = .ok (.iconst 5, 1) := by decide +kernel
theorem dX10_takeName_94 : decode cX10_takeName 94 = .ok (.goto 4, 3) := by decide +kernel
theorem dX10_takeName_97 : decode cX10_takeName 97 = .ok (.iconst 1, 1) := by decide +kernel
theorem dX10_takeName_98 : decode cX10_takeName 98 = .ok (.putfield 29, 3) := by decide +kernel
theorem dX10_takeName_101 : decode cX10_takeName 101 = .ok (.aload_n 0, 1) := by decide +kernel
theorem dX10_takeName_102 : decode cX10_takeName 102 = .ok (.getfield 29, 3) := by decide +kernel
theorem dX10_takeName_105 : decode cX10_takeName 105 = .ok (.iconst 1, 1) := by decide +kernel
theorem dX10_takeName_106 : decode cX10_takeName 106 = .ok (.if_icmp .ne 15, 3) := by decide +kernel
theorem dX10_takeName_109 : decode cX10_takeName 109 = .ok (.aload_n 0, 1) := by decide +kernel
theorem dX10_takeName_110 : decode cX10_takeName 110 = .ok (.aload_n 0, 1) := by decide +kernel
theorem dX10_takeName_111 : decode cX10_takeName 111 = .ok (.aload_n 0, 1) := by decide +kernel
theorem dX10_takeName_112 : decode cX10_takeName 112 = .ok (.getfield 38, 3) := by decide +kernel
theorem dX10_takeName_115 : decode cX10_takeName 115 = .ok (.invokevirtual 81, 3) := by decide +kernel
theorem dX10_takeName_118 : decode cX10_takeName 118 = .ok (.putfield 42, 3) := by decide +kernel
theorem dX10_takeName_121 : decode cX10_takeName 121 = .ok (.return_, 1) := by decide +kernel
theorem dX10_keyOf_0 : decode cX10_keyOf 0 = .ok (.iconst 0, 1) := by decide +kernel
theorem dX10_keyOf_1 : decode cX10_keyOf 1 = .ok (.istore_n 3, 1) := by decide +kernel
theorem dX10_keyOf_2 : decode cX10_keyOf 2 = .ok (.iload_n 3, 1) := by decide +kernel
theorem dX10_keyOf_3 : decode cX10_keyOf 3 = .ok (.bipush 13, 2) := by decide +kernel
theorem dX10_keyOf_5 : decode cX10_keyOf 5 = .ok (.if_icmp .ge 22, 3) := by decide +kernel
theorem dX10_keyOf_8 : decode cX10_keyOf 8 = .ok (.aload_n 0, 1) := by decide +kernel
theorem dX10_keyOf_9 : decode cX10_keyOf 9 = .ok (.getfield 15, 3) := by decide +kernel
theorem dX10_keyOf_12 : decode cX10_keyOf 12 = .ok (.iload_n 3, 1) := by decide +kernel
theorem dX10_keyOf_13 : decode cX10_keyOf 13 = .ok (.laload, 1) := by decide +kernel
theorem dX10_keyOf_14 : decode cX10_keyOf 14 = .ok (.lload_n 1, 1) := by decide +kernel
theorem dX10_keyOf_15 : decode cX10_keyOf 15 = .ok (.lcmp, 1) := by decide +kernel
theorem dX10_keyOf_16 : decode cX10_keyOf 16 = .ok (.ifCond .ne 5, 3) := by decide +kernel
theorem dX10_keyOf_19 : decode cX10_keyOf 19 = .ok (.iload_n 3, 1) := by decide +kernel
theorem dX10_keyOf_20 : decode cX10_keyOf 20 = .ok (.ireturn, 1) := by decide +kernel
theorem dX10_keyOf_21 : decode cX10_keyOf 21 = .ok (.iinc 3 1, 3) := by decide +kernel
theorem dX10_keyOf_24 : decode cX10_keyOf 24 = .ok (.goto (-22), 3) := by decide +kernel
theorem dX10_keyOf_27 : decode cX10_keyOf 27 = .ok (.iconst (-1), 1) := by decide +kernel
theorem dX10_keyOf_28 : decode cX10_keyOf 28 = .ok (.ireturn, 1) := by decide +kernel
theorem dX10_takeNumber_0 : decode cX10_takeNumber 0 = .ok (.aload_n 0, 1) := by decide +kernel
theorem dX10_takeNumber_1 : decode cX10_takeNumber 1 = .ok (.iconst 0, 1) := by decide +kernel
theorem dX10_takeNumber_2 : decode cX10_takeNumber 2 = .ok (.putfield 35, 3) := by decide +kernel
theorem dX10_takeNumber_5 : decode cX10_takeNumber 5 = .ok (.aload_n 0, 1) := by decide +kernel
theorem dX10_takeNumber_6 : decode cX10_takeNumber 6 = .ok (.getfield 26, 3) := by decide +kernel
theorem dX10_takeNumber_9 : decode cX10_takeNumber 9 = .ok (.aload_n 0, 1) := by decide +kernel
theorem dX10_takeNumber_10 : decode cX10_takeNumber 10 = .ok (.getfield 23, 3) := by decide +kernel
theorem dX10_takeNumber_13 : decode cX10_takeNumber 13 = .ok (.if_icmp .ge 61, 3) := by decide +kernel
theorem dX10_takeNumber_16 : decode cX10_takeNumber 16 = .ok (.aload_n 0, 1) := by decide +kernel
theorem dX10_takeNumber_17 : decode cX10_takeNumber 17 = .ok (.getfield 9, 3) := by decide +kernel
theorem dX10_takeNumber_20 : decode cX10_takeNumber 20 = .ok (.aload_n 0, 1) := by decide +kernel
theorem dX10_takeNumber_21 : decode cX10_takeNumber 21 = .ok (.getfield 26, 3) := by decide +kernel
theorem dX10_takeNumber_24 : decode cX10_takeNumber 24 = .ok (.iaload, 1) := by decide +kernel
theorem dX10_takeNumber_25 : decode cX10_takeNumber 25 = .ok (.invokestatic 72, 3) := by decide +kernel
theorem dX10_takeNumber_28 : decode cX10_takeNumber 28 = .ok (.ifCond .eq 46, 3) := by decide +kernel
theorem dX10_takeNumber_31 : decode cX10_takeNumber 31 = .ok (.aload_n 0, 1) := by decide +kernel
theorem dX10_takeNumber_32 : decode cX10_takeNumber 32 = .ok (.aload_n 0, 1) := by decide +kernel
theorem dX10_takeNumber_33 : decode cX10_takeNumber 33 = .ok (.getfield 35, 3) := by decide +kernel
theorem dX10_takeNumber_36 : decode cX10_takeNumber 36 = .ok (.bipush 10, 2) := by decide +kernel
theorem dX10_takeNumber_38 : decode cX10_takeNumber 38 = .ok (.imul, 1) := by decide +kernel
theorem dX10_takeNumber_39 : decode cX10_takeNumber 39 = .ok (.aload_n 0, 1) := by decide +kernel
theorem dX10_takeNumber_40 : decode cX10_takeNumber 40 = .ok (.getfield 9, 3) := by decide +kernel
theorem dX10_takeNumber_43 : decode cX10_takeNumber 43 = .ok (.aload_n 0, 1) := by decide +kernel
theorem dX10_takeNumber_44 : decode cX10_takeNumber 44 = .ok (.getfield 26, 3) := by decide +kernel
theorem dX10_takeNumber_47 : decode cX10_takeNumber 47 = .ok (.iaload, 1) := by decide +kernel
theorem dX10_takeNumber_48 : decode cX10_takeNumber 48 = .ok (.iadd, 1) := by decide +kernel
theorem dX10_takeNumber_49 : decode cX10_takeNumber 49 = .ok (.bipush 48, 2) := by decide +kernel
theorem dX10_takeNumber_51 : decode cX10_takeNumber 51 = .ok (.isub, 1) := by decide +kernel
theorem dX10_takeNumber_52 : decode cX10_takeNumber 52 = .ok (.sipush 1000, 3) := by decide +kernel
theorem dX10_takeNumber_55 : decode cX10_takeNumber 55 = .ok (.invokestatic 85, 3) := by decide +kernel
theorem dX10_takeNumber_58 : decode cX10_takeNumber 58 = .ok (.putfield 35, 3) := by decide +kernel
theorem dX10_takeNumber_61 : decode cX10_takeNumber 61 = .ok (.aload_n 0, 1) := by decide +kernel
theorem dX10_takeNumber_62 : decode cX10_takeNumber 62 = .ok (.dup, 1) := by decide +kernel
theorem dX10_takeNumber_63 : decode cX10_takeNumber 63 = .ok (.getfield 26, 3) := by decide +kernel
theorem dX10_takeNumber_66 : decode cX10_takeNumber 66 = .ok (.iconst 1, 1) := by decide +kernel
theorem dX10_takeNumber_67 : decode cX10_takeNumber 67 = .ok (.iadd, 1) := by decide +kernel
theorem dX10_takeNumber_68 : decode cX10_takeNumber 68 = .ok (.putfield 26, 3) := by decide +kernel
theorem dX10_takeNumber_71 : decode cX10_takeNumber 71 = .ok (.goto (-66), 3) := by decide +kernel
theorem dX10_takeNumber_74 : decode cX10_takeNumber 74 = .ok (.aload_n 0, 1) := by decide +kernel
theorem dX10_takeNumber_75 : decode cX10_takeNumber 75 = .ok (.iconst 2, 1) := by decide +kernel
theorem dX10_takeNumber_76 : decode cX10_takeNumber 76 = .ok (.putfield 29, 3) := by decide +kernel
theorem dX10_takeNumber_79 : decode cX10_takeNumber 79 = .ok (.return_, 1) := by decide +kernel
theorem dX10_takeMark_0 : decode cX10_takeMark 0 = .ok (.aload_n 0, 1) := by decide +kernel
theorem dX10_takeMark_1 : decode cX10_takeMark 1 = .ok (.getfield 9, 3) := by decide +kernel
theorem dX10_takeMark_4 : decode cX10_takeMark 4 = .ok (.aload_n 0, 1) := by decide +kernel
theorem dX10_takeMark_5 : decode cX10_takeMark 5 = .ok (.getfield 26, 3) := by decide +kernel
theorem dX10_takeMark_8 : decode cX10_takeMark 8 = .ok (.iaload, 1) := by decide +kernel
theorem dX10_takeMark_9 : decode cX10_takeMark 9 = .ok (.istore_n 1, 1) := by decide +kernel
theorem dX10_takeMark_10 : decode cX10_takeMark 10 = .ok (.aload_n 0, 1) := by decide +kernel
theorem dX10_takeMark_11 : decode cX10_takeMark 11 = .ok (.iload_n 1, 1) := by decide +kernel
theorem dX10_takeMark_12 : decode cX10_takeMark 12 = .ok (.bipush 59, 2) := by decide +kernel
theorem dX10_takeMark_14 : decode cX10_takeMark 14 = .ok (.if_icmp .ne 7, 3) := by decide +kernel
theorem dX10_takeMark_17 : decode cX10_takeMark 17 = .ok (.iconst 3, 1) := by decide +kernel
theorem dX10_takeMark_18 : decode cX10_takeMark 18 = .ok (.goto 14, 3) := by decide +kernel
theorem dX10_takeMark_21 : decode cX10_takeMark 21 = .ok (.iload_n 1, 1) := by decide +kernel
theorem dX10_takeMark_22 : decode cX10_takeMark 22 = .ok (.bipush 44, 2) := by decide +kernel
theorem dX10_takeMark_24 : decode cX10_takeMark 24 = .ok (.if_icmp .ne 7, 3) := by decide +kernel
theorem dX10_takeMark_27 : decode cX10_takeMark 27 = .ok (.iconst 4, 1) := by decide +kernel
theorem dX10_takeMark_28 : decode cX10_takeMark 28 = .ok (.goto 4, 3) := by decide +kernel
theorem dX10_takeMark_31 : decode cX10_takeMark 31 = .ok (.iconst 5, 1) := by decide +kernel
theorem dX10_takeMark_32 : decode cX10_takeMark 32 = .ok (.putfield 29, 3) := by decide +kernel
theorem dX10_takeMark_35 : decode cX10_takeMark 35 = .ok (.aload_n 0, 1) := by decide +kernel
theorem dX10_takeMark_36 : decode cX10_takeMark 36 = .ok (.dup, 1) := by decide +kernel
theorem dX10_takeMark_37 : decode cX10_takeMark 37 = .ok (.getfield 26, 3) := by decide +kernel
theorem dX10_takeMark_40 : decode cX10_takeMark 40 = .ok (.iconst 1, 1) := by decide +kernel
theorem dX10_takeMark_41 : decode cX10_takeMark 41 = .ok (.iadd, 1) := by decide +kernel
theorem dX10_takeMark_42 : decode cX10_takeMark 42 = .ok (.putfield 26, 3) := by decide +kernel
theorem dX10_takeMark_45 : decode cX10_takeMark 45 = .ok (.return_, 1) := by decide +kernel
theorem dX11_init_0 : decode cX11_init 0 = .ok (.aload_n 0, 1) := by decide +kernel
theorem dX11_init_1 : decode cX11_init 1 = .ok (.invokespecial 1, 3) := by decide +kernel
theorem dX11_init_4 : decode cX11_init 4 = .ok (.aload_n 0, 1) := by decide +kernel
theorem dX11_init_5 : decode cX11_init 5 = .ok (.new 7, 3) := by decide +kernel
theorem dX11_init_8 : decode cX11_init 8 = .ok (.dup, 1) := by decide +kernel
theorem dX11_init_9 : decode cX11_init 9 = .ok (.invokespecial 9, 3) := by decide +kernel
theorem dX11_init_12 : decode cX11_init 12 = .ok (.putfield 10, 3) := by decide +kernel
theorem dX11_init_15 : decode cX11_init 15 = .ok (.aload_n 0, 1) := by decide +kernel
theorem dX11_init_16 : decode cX11_init 16 = .ok (.new 16, 3) := by decide +kernel
theorem dX11_init_19 : decode cX11_init 19 = .ok (.dup, 1) := by decide +kernel
theorem dX11_init_20 : decode cX11_init 20 = .ok (.aload_n 0, 1) := by decide +kernel
theorem dX11_init_21 : decode cX11_init 21 = .ok (.getfield 10, 3) := by decide +kernel
theorem dX11_init_24 : decode cX11_init 24 = .ok (.invokespecial 18, 3) := by decide +kernel
theorem dX11_init_27 : decode cX11_init 27 = .ok (.putfield 21, 3) := by decide +kernel
theorem dX11_init_30 : decode cX11_init 30 = .ok (.aload_n 0, 1) := by decide +kernel
theorem dX11_init_31 : decode cX11_init 31 = .ok (.new 25, 3) := by decide +kernel
theorem dX11_init_34 : decode cX11_init 34 = .ok (.dup, 1) := by decide +kernel
theorem dX11_init_35 : decode cX11_init 35 = .ok (.aload_n 0, 1) := by decide +kernel
theorem dX11_init_36 : decode cX11_init 36 = .ok (.getfield 10, 3) := by decide +kernel
theorem dX11_init_39 : decode cX11_init 39 = .ok (.aload_n 0, 1) := by decide +kernel
theorem dX11_init_40 : decode cX11_init 40 = .ok (.getfield 21, 3) := by decide +kernel
theorem dX11_init_43 : decode cX11_init 43 = .ok (.invokespecial 27, 3) := by decide +kernel
theorem dX11_init_46 : decode cX11_init 46 = .ok (.putfield 30, 3) := by decide +kernel
theorem dX11_init_49 : decode cX11_init 49 = .ok (.aload_n 0, 1) := by decide +kernel
theorem dX11_init_50 : decode cX11_init 50 = .ok (.new 34, 3) := by decide +kernel
theorem dX11_init_53 : decode cX11_init 53 = .ok (.dup, 1) := by decide +kernel
theorem dX11_init_54 : decode cX11_init 54 = .ok (.invokespecial 36, 3) := by decide +kernel
theorem dX11_init_57 : decode cX11_init 57 = .ok (.putfield 37, 3) := by decide +kernel
theorem dX11_init_60 : decode cX11_init 60 = .ok (.aload_n 0, 1) := by decide +kernel
theorem dX11_init_61 : decode cX11_init 61 = .ok (.new 41, 3) := by decide +kernel
theorem dX11_init_64 : decode cX11_init 64 = .ok (.dup, 1) := by decide +kernel
theorem dX11_init_65 : decode cX11_init 65 = .ok (.aload_n 0, 1) := by decide +kernel
theorem dX11_init_66 : decode cX11_init 66 = .ok (.getfield 21, 3) := by decide +kernel
theorem dX11_init_69 : decode cX11_init 69 = .ok (.aload_n 0, 1) := by decide +kernel
theorem dX11_init_70 : decode cX11_init 70 = .ok (.getfield 37, 3) := by decide +kernel
theorem dX11_init_73 : decode cX11_init 73 = .ok (.aload_n 0, 1) := by decide +kernel
theorem dX11_init_74 : decode cX11_init 74 = .ok (.getfield 30, 3) := by decide +kernel
theorem dX11_init_77 : decode cX11_init 77 = .ok (.invokespecial 43, 3) := by decide +kernel
theorem dX11_init_80 : decode cX11_init 80 = .ok (.putfield 46, 3) := by decide +kernel
theorem dX11_init_83 : decode cX11_init 83 = .ok (.aload_n 0, 1) := by decide +kernel
theorem dX11_init_84 : decode cX11_init 84 = .ok (.new 50, 3) := by decide +kernel
theorem dX11_init_87 : decode cX11_init 87 = .ok (.dup, 1) := by decide +kernel
theorem dX11_init_88 : decode cX11_init 88 = .ok (.invokespecial 52, 3) := by decide +kernel
theorem dX11_init_91 : decode cX11_init 91 = .ok (.putfield 53, 3) := by decide +kernel
theorem dX11_init_94 : decode cX11_init 94 = .ok (.aload_n 0, 1) := by decide +kernel
theorem dX11_init_95 : decode cX11_init 95 = .ok (.new 57, 3) := by decide +kernel
theorem dX11_init_98 : decode cX11_init 98 = .ok (.dup, 1) := by decide +kernel
theorem dX11_init_99 : decode cX11_init 99 = .ok (.invokespecial 59, 3) := by decide +kernel
theorem dX11_init_102 : decode cX11_init 102 = .ok (.putfield 60, 3) := by decide +kernel
theorem dX11_init_105 : decode cX11_init 105 = .ok (.aload_n 0, 1) := by decide +kernel
theorem dX11_init_106 : decode cX11_init 106 = .ok (.new 64, 3) := by decide +kernel
theorem dX11_init_109 : decode cX11_init 109 = .ok (.dup, 1) := by decide +kernel
theorem dX11_init_110 : decode cX11_init 110 = .ok (.aload_n 0, 1) := by decide +kernel
theorem dX11_init_111 : decode cX11_init 111 = .ok (.getfield 60, 3) := by decide +kernel
theorem dX11_init_114 : decode cX11_init 114 = .ok (.invokespecial 66, 3) := by decide +kernel
theorem dX11_init_117 : decode cX11_init 117 = .ok (.putfield 69, 3) := by decide +kernel
theorem dX11_init_120 : decode cX11_init 120 = .ok (.aload_n 0, 1) := by decide +kernel
theorem dX11_init_121 : decode cX11_init 121 = .ok (.new 73, 3) := by decide +kernel
theorem dX11_init_124 : decode cX11_init 124 = .ok (.dup, 1) := by decide +kernel
theorem dX11_init_125 : decode cX11_init 125 = .ok (.invokespecial 75, 3) := by decide +kernel
theorem dX11_init_128 : decode cX11_init 128 = .ok (.putfield 76, 3) := by decide +kernel
theorem dX11_init_131 : decode cX11_init 131 = .ok (.aload_n 0, 1) := by decide +kernel
theorem dX11_init_132 : decode cX11_init 132 = .ok (.new 80, 3) := by decide +kernel
theorem dX11_init_135 : decode cX11_init 135 = .ok (.dup, 1) := by decide +kernel
theorem dX11_init_136 : decode cX11_init 136 = .ok (.aload_n 0, 1) := by decide +kernel
theorem dX11_init_137 : decode cX11_init 137 = .ok (.getfield 46, 3) := by decide +kernel
theorem dX11_init_140 : decode cX11_init 140 = .ok (.aload_n 0, 1) := by decide +kernel
theorem dX11_init_141 : decode cX11_init 141 = .ok (.getfield 76, 3) := by decide +kernel
theorem dX11_init_144 : decode cX11_init 144 = .ok (.invokespecial 82, 3) := by decide +kernel
theorem dX11_init_147 : decode cX11_init 147 = .ok (.putfield 85, 3) := by decide +kernel
theorem dX11_init_150 : decode cX11_init 150 = .ok (.aload_n 0, 1) := by decide +kernel
theorem dX11_init_151 : decode cX11_init 151 = .ok (.new 89, 3) := by decide +kernel
theorem dX11_init_154 : decode cX11_init 154 = .ok (.dup, 1) := by decide +kernel
theorem dX11_init_155 : decode cX11_init 155 = .ok (.aload_n 0, 1) := by decide +kernel
theorem dX11_init_156 : decode cX11_init 156 = .ok (.getfield 10, 3) := by decide +kernel
theorem dX11_init_159 : decode cX11_init 159 = .ok (.aload_n 0, 1) := by decide +kernel
theorem dX11_init_160 : decode cX11_init 160 = .ok (.getfield 21, 3) := by decide +kernel
theorem dX11_init_163 : decode cX11_init 163 = .ok (.invokespecial 91, 3) := by decide +kernel
theorem dX11_init_166 : decode cX11_init 166 = .ok (.putfield 92, 3) := by decide +kernel
theorem dX11_init_169 : decode cX11_init 169 = .ok (.return_, 1) := by decide +kernel
theorem dX11_land_0 : decode cX11_land 0 = .ok (.aload_n 0, 1) := by decide +kernel
theorem dX11_land_1 : decode cX11_land 1 = .ok (.getfield 10, 3) := by decide +kernel
theorem dX11_land_4 : decode cX11_land 4 = .ok (.iload_n 1, 1) := by decide +kernel
theorem dX11_land_5 : decode cX11_land 5 = .ok (.iload_n 2, 1) := by decide +kernel
theorem dX11_land_6 : decode cX11_land 6 = .ok (.invokevirtual 96, 3) := by decide +kernel
theorem dX11_land_9 : decode cX11_land 9 = .ok (.ifCond .ne 5, 3) := by decide +kernel
theorem dX11_land_12 : decode cX11_land 12 = .ok (.iconst 0, 1) := by decide +kernel
theorem dX11_land_13 : decode cX11_land 13 = .ok (.ireturn, 1) := by decide +kernel
theorem dX11_land_14 : decode cX11_land 14 = .ok (.aload_n 0, 1) := by decide +kernel
theorem dX11_land_15 : decode cX11_land 15 = .ok (.getfield 21, 3) := by decide +kernel
theorem dX11_land_18 : decode cX11_land 18 = .ok (.iconst 0, 1) := by decide +kernel
theorem dX11_land_19 : decode cX11_land 19 = .ok (.putfield 100, 3) := by decide +kernel
theorem dX11_land_22 : decode cX11_land 22 = .ok (.aload_n 0, 1) := by decide +kernel
theorem dX11_land_23 : decode cX11_land 23 = .ok (.getfield 37, 3) := by decide +kernel
theorem dX11_land_26 : decode cX11_land 26 = .ok (.invokevirtual 104, 3) := by decide +kernel
theorem dX11_land_29 : decode cX11_land 29 = .ok (.aload_n 0, 1) := by decide +kernel
theorem dX11_land_30 : decode cX11_land 30 = .ok (.getfield 53, 3) := by decide +kernel
theorem dX11_land_33 : decode cX11_land 33 = .ok (.invokevirtual 107, 3) := by decide +kernel
theorem dX11_land_36 : decode cX11_land 36 = .ok (.aload_n 0, 1) := by decide +kernel
theorem dX11_land_37 : decode cX11_land 37 = .ok (.getfield 85, 3) := by decide +kernel
theorem dX11_land_40 : decode cX11_land 40 = .ok (.iconst 0, 1) := by decide +kernel
theorem dX11_land_41 : decode cX11_land 41 = .ok (.putfield 108, 3) := by decide +kernel
theorem dX11_land_44 : decode cX11_land 44 = .ok (.aload_n 0, 1) := by decide +kernel
theorem dX11_land_45 : decode cX11_land 45 = .ok (.getfield 92, 3) := by decide +kernel
theorem dX11_land_48 : decode cX11_land 48 = .ok (.invokevirtual 112, 3) := by decide +kernel
theorem dX11_land_51 : decode cX11_land 51 = .ok (.iconst 1, 1) := by decide +kernel
theorem dX11_land_52 : decode cX11_land 52 = .ok (.ireturn, 1) := by decide +kernel
theorem dX11_ground_0 : decode cX11_ground 0 = .ok (.aload_n 0, 1) := by decide +kernel
theorem dX11_ground_1 : decode cX11_ground 1 = .ok (.getfield 10, 3) := by decide +kernel
theorem dX11_ground_4 : decode cX11_ground 4 = .ok (.iload_n 1, 1) := by decide +kernel
theorem dX11_ground_5 : decode cX11_ground 5 = .ok (.iload_n 2, 1) := by decide +kernel
theorem dX11_ground_6 : decode cX11_ground 6 = .ok (.iload_n 3, 1) := by decide +kernel
theorem dX11_ground_7 : decode cX11_ground 7 = .ok (.iload 4, 2) := by decide +kernel
theorem dX11_ground_9 : decode cX11_ground 9 = .ok (.iload 5, 2) := by decide +kernel
theorem dX11_ground_11 : decode cX11_ground 11 = .ok (.iload 6, 2) := by decide +kernel
theorem dX11_ground_13 : decode cX11_ground 13 = .ok (.invokevirtual 115, 3) := by decide +kernel
theorem dX11_ground_16 : decode cX11_ground 16 = .ok (.ifCond .ne 5, 3) := by decide +kernel
theorem dX11_ground_19 : decode cX11_ground 19 = .ok (.iconst 0, 1) := by decide +kernel
theorem dX11_ground_20 : decode cX11_ground 20 = .ok (.ireturn, 1) := by decide +kernel
theorem dX11_ground_21 : decode cX11_ground 21 = .ok (.aload_n 0, 1) := by decide +kernel
theorem dX11_ground_22 : decode cX11_ground 22 = .ok (.getfield 92, 3) := by decide +kernel
theorem dX11_ground_25 : decode cX11_ground 25 = .ok (.invokevirtual 112, 3) := by decide +kernel
theorem dX11_ground_28 : decode cX11_ground 28 = .ok (.iconst 1, 1) := by decide +kernel
theorem dX11_ground_29 : decode cX11_ground 29 = .ok (.ireturn, 1) := by decide +kernel
theorem dX11_trees_0 : decode cX11_trees 0 = .ok (.aload_n 0, 1) := by decide +kernel
theorem dX11_trees_1 : decode cX11_trees 1 = .ok (.getfield 10, 3) := by decide +kernel
theorem dX11_trees_4 : decode cX11_trees 4 = .ok (.iload_n 1, 1) := by decide +kernel
theorem dX11_trees_5 : decode cX11_trees 5 = .ok (.iload_n 2, 1) := by decide +kernel
theorem dX11_trees_6 : decode cX11_trees 6 = .ok (.iload_n 3, 1) := by decide +kernel
theorem dX11_trees_7 : decode cX11_trees 7 = .ok (.invokevirtual 119, 3) := by decide +kernel
theorem dX11_trees_10 : decode cX11_trees 10 = .ok (.ireturn, 1) := by decide +kernel
theorem dX11_bend_0 : decode cX11_bend 0 = .ok (.aload_n 0, 1) := by decide +kernel
theorem dX11_bend_1 : decode cX11_bend 1 = .ok (.getfield 10, 3) := by decide +kernel
theorem dX11_bend_4 : decode cX11_bend 4 = .ok (.iload_n 1, 1) := by decide +kernel
theorem dX11_bend_5 : decode cX11_bend 5 = .ok (.invokevirtual 123, 3) := by decide +kernel
theorem dX11_bend_8 : decode cX11_bend 8 = .ok (.ireturn, 1) := by decide +kernel
theorem dX11_haze_0 : decode cX11_haze 0 = .ok (.aload_n 0, 1) := by decide +kernel
theorem dX11_haze_1 : decode cX11_haze 1 = .ok (.getfield 10, 3) := by decide +kernel
theorem dX11_haze_4 : decode cX11_haze 4 = .ok (.iload_n 1, 1) := by decide +kernel
theorem dX11_haze_5 : decode cX11_haze 5 = .ok (.iload_n 2, 1) := by decide +kernel
theorem dX11_haze_6 : decode cX11_haze 6 = .ok (.iload_n 3, 1) := by decide +kernel
theorem dX11_haze_7 : decode cX11_haze 7 = .ok (.iload 4, 2) := by decide +kernel
theorem dX11_haze_9 : decode cX11_haze 9 = .ok (.invokevirtual 127, 3) := by decide +kernel
theorem dX11_haze_12 : decode cX11_haze 12 = .ok (.ireturn, 1) := by decide +kernel
theorem dX11_post_0 : decode cX11_post 0 = .ok (.aload_n 0, 1) := by decide +kernel
theorem dX11_post_1 : decode cX11_post 1 = .ok (.getfield 21, 3) := by decide +kernel
theorem dX11_post_4 : decode cX11_post 4 = .ok (.iload_n 1, 1) := by decide +kernel
theorem dX11_post_5 : decode cX11_post 5 = .ok (.iload_n 2, 1) := by decide +kernel
theorem dX11_post_6 : decode cX11_post 6 = .ok (.iload_n 3, 1) := by decide +kernel
theorem dX11_post_7 : decode cX11_post 7 = .ok (.iload 4, 2) := by decide +kernel
theorem dX11_post_9 : decode cX11_post 9 = .ok (.iload 5, 2) := by decide +kernel
theorem dX11_post_11 : decode cX11_post 11 = .ok (.iload 6, 2) := by decide +kernel
theorem dX11_post_13 : decode cX11_post 13 = .ok (.invokevirtual 131, 3) := by decide +kernel
theorem dX11_post_16 : decode cX11_post 16 = .ok (.ireturn, 1) := by decide +kernel
theorem dX11_sight_0 : decode cX11_sight 0 = .ok (.aload_n 0, 1) := by decide +kernel
theorem dX11_sight_1 : decode cX11_sight 1 = .ok (.getfield 21, 3) := by decide +kernel
theorem dX11_sight_4 : decode cX11_sight 4 = .ok (.iload_n 1, 1) := by decide +kernel
theorem dX11_sight_5 : decode cX11_sight 5 = .ok (.iload_n 2, 1) := by decide +kernel
theorem dX11_sight_6 : decode cX11_sight 6 = .ok (.invokevirtual 135, 3) := by decide +kernel
theorem dX11_sight_9 : decode cX11_sight 9 = .ok (.ifCond .eq 12, 3) := by decide +kernel
theorem dX11_sight_12 : decode cX11_sight 12 = .ok (.iload_n 3, 1) := by decide +kernel
theorem dX11_sight_13 : decode cX11_sight 13 = .ok (.iload 4, 2) := by decide +kernel
theorem dX11_sight_15 : decode cX11_sight 15 = .ok (.invokestatic 138, 3) := by decide +kernel
theorem dX11_sight_18 : decode cX11_sight 18 = .ok (.ifCond .ne 5, 3) := by decide +kernel
theorem dX11_sight_21 : decode cX11_sight 21 = .ok (.iconst (-1), 1) := by decide +kernel
theorem dX11_sight_22 : decode cX11_sight 22 = .ok (.ireturn, 1) := by decide +kernel
theorem dX11_sight_23 : decode cX11_sight 23 = .ok (.aload_n 0, 1) := by decide +kernel
theorem dX11_sight_24 : decode cX11_sight 24 = .ok (.getfield 30, 3) := by decide +kernel
theorem dX11_sight_27 : decode cX11_sight 27 = .ok (.iload_n 1, 1) := by decide +kernel
theorem dX11_sight_28 : decode cX11_sight 28 = .ok (.iload_n 2, 1) := by decide +kernel
theorem dX11_sight_29 : decode cX11_sight 29 = .ok (.iload_n 3, 1) := by decide +kernel
theorem dX11_sight_30 : decode cX11_sight 30 = .ok (.iload 4, 2) := by decide +kernel
theorem dX11_sight_32 : decode cX11_sight 32 = .ok (.invokevirtual 141, 3) := by decide +kernel
theorem dX11_sight_35 : decode cX11_sight 35 = .ok (.ireturn, 1) := by decide +kernel
theorem dX11_block_0 : decode cX11_block 0 = .ok (.aload_n 0, 1) := by decide +kernel
theorem dX11_block_1 : decode cX11_block 1 = .ok (.getfield 21, 3) := by decide +kernel
theorem dX11_block_4 : decode cX11_block 4 = .ok (.iload_n 1, 1) := by decide +kernel
theorem dX11_block_5 : decode cX11_block 5 = .ok (.iload_n 2, 1) := by decide +kernel
theorem dX11_block_6 : decode cX11_block 6 = .ok (.invokevirtual 135, 3) := by decide +kernel
theorem dX11_block_9 : decode cX11_block 9 = .ok (.ifCond .ne 5, 3) := by decide +kernel
theorem dX11_block_12 : decode cX11_block 12 = .ok (.iconst (-1), 1) := by decide +kernel
theorem dX11_block_13 : decode cX11_block 13 = .ok (.ireturn, 1) := by decide +kernel
theorem dX11_block_14 : decode cX11_block 14 = .ok (.aload_n 0, 1) := by decide +kernel
theorem dX11_block_15 : decode cX11_block 15 = .ok (.getfield 30, 3) := by decide +kernel
theorem dX11_block_18 : decode cX11_block 18 = .ok (.iload_n 1, 1) := by decide +kernel
theorem dX11_block_19 : decode cX11_block 19 = .ok (.iload_n 2, 1) := by decide +kernel
theorem dX11_block_20 : decode cX11_block 20 = .ok (.iload_n 3, 1) := by decide +kernel
theorem dX11_block_21 : decode cX11_block 21 = .ok (.invokevirtual 145, 3) := by decide +kernel
theorem dX11_block_24 : decode cX11_block 24 = .ok (.istore 4, 2) := by decide +kernel
theorem dX11_block_26 : decode cX11_block 26 = .ok (.iload 4, 2) := by decide +kernel
theorem dX11_block_28 : decode cX11_block 28 = .ok (.ifCond .ne 7, 3) := by decide +kernel
theorem dX11_block_31 : decode cX11_block 31 = .ok (.iconst (-1), 1) := by decide +kernel
theorem dX11_block_32 : decode cX11_block 32 = .ok (.goto 14, 3) := by decide +kernel
theorem dX11_block_35 : decode cX11_block 35 = .ok (.aload_n 0, 1) := by decide +kernel
theorem dX11_block_36 : decode cX11_block 36 = .ok (.getfield 30, 3) := by decide +kernel
theorem dX11_block_39 : decode cX11_block 39 = .ok (.iload_n 1, 1) := by decide +kernel
theorem dX11_block_40 : decode cX11_block 40 = .ok (.iload_n 2, 1) := by decide +kernel
theorem dX11_block_41 : decode cX11_block 41 = .ok (.iload 4, 2) := by decide +kernel
theorem dX11_block_43 : decode cX11_block 43 = .ok (.invokevirtual 149, 3) := by decide +kernel
theorem dX11_block_46 : decode cX11_block 46 = .ok (.ireturn, 1) := by decide +kernel
theorem dX11_raise_0 : decode cX11_raise 0 = .ok (.aload_n 0, 1) := by decide +kernel
theorem dX11_raise_1 : decode cX11_raise 1 = .ok (.getfield 21, 3) := by decide +kernel
theorem dX11_raise_4 : decode cX11_raise 4 = .ok (.iload_n 1, 1) := by decide +kernel
theorem dX11_raise_5 : decode cX11_raise 5 = .ok (.iload_n 2, 1) := by decide +kernel
theorem dX11_raise_6 : decode cX11_raise 6 = .ok (.invokevirtual 135, 3) := by decide +kernel
theorem dX11_raise_9 : decode cX11_raise 9 = .ok (.ifCond .eq 15, 3) := by decide +kernel
theorem dX11_raise_12 : decode cX11_raise 12 = .ok (.aload_n 0, 1) := by decide +kernel
theorem dX11_raise_13 : decode cX11_raise 13 = .ok (.getfield 30, 3) := by decide +kernel
theorem dX11_raise_16 : decode cX11_raise 16 = .ok (.iload_n 1, 1) := by decide +kernel
theorem dX11_raise_17 : decode cX11_raise 17 = .ok (.iload_n 2, 1) := by decide +kernel
theorem dX11_raise_18 : decode cX11_raise 18 = .ok (.invokevirtual 153, 3) := by decide +kernel
theorem dX11_raise_21 : decode cX11_raise 21 = .ok (.goto 4, 3) := by decide +kernel
theorem dX11_raise_24 : decode cX11_raise 24 = .ok (.iconst (-1), 1) := by decide +kernel
theorem dX11_raise_25 : decode cX11_raise 25 = .ok (.ireturn, 1) := by decide +kernel
theorem dX11_note_0 : decode cX11_note 0 = .ok (.iload_n 1, 1) := by decide +kernel
theorem dX11_note_1 : decode cX11_note 1 = .ok (.ifCond .lt 19, 3) := by decide +kernel
theorem dX11_note_4 : decode cX11_note 4 = .ok (.iload_n 1, 1) := by decide +kernel
theorem dX11_note_5 : decode cX11_note 5 = .ok (.iconst 5, 1) := by decide +kernel
theorem dX11_note_6 : decode cX11_note 6 = .ok (.if_icmp .gt 14, 3) := by decide +kernel
theorem dX11_note_9 : decode cX11_note 9 = .ok (.aload_n 0, 1) := by decide +kernel
theorem dX11_note_10 : decode cX11_note 10 = .ok (.getfield 21, 3) := by decide +kernel
theorem dX11_note_13 : decode cX11_note 13 = .ok (.iload_n 2, 1) := by decide +kernel
theorem dX11_note_14 : decode cX11_note 14 = .ok (.invokevirtual 157, 3) := by decide +kernel
theorem dX11_note_17 : decode cX11_note 17 = .ok (.ifCond .ne 5, 3) := by decide +kernel
theorem dX11_note_20 : decode cX11_note 20 = .ok (.iconst (-1), 1) := by decide +kernel
theorem dX11_note_21 : decode cX11_note 21 = .ok (.ireturn, 1) := by decide +kernel
theorem dX11_note_22 : decode cX11_note 22 = .ok (.iload_n 1, 1) := by decide +kernel
theorem dX11_note_23 : decode cX11_note 23 = .ok (.iconst 2, 1) := by decide +kernel
theorem dX11_note_24 : decode cX11_note 24 = .ok (.if_icmp .eq 8, 3) := by decide +kernel
theorem dX11_note_27 : decode cX11_note 27 = .ok (.iload_n 1, 1) := by decide +kernel
theorem dX11_note_28 : decode cX11_note 28 = .ok (.iconst 3, 1) := by decide +kernel
theorem dX11_note_29 : decode cX11_note 29 = .ok (.if_icmp .ne 7, 3) := by decide +kernel
theorem dX11_note_32 : decode cX11_note 32 = .ok (.iconst 1, 1) := by decide +kernel
theorem dX11_note_33 : decode cX11_note 33 = .ok (.goto 4, 3) := by decide +kernel
theorem dX11_note_36 : decode cX11_note 36 = .ok (.iconst 0, 1) := by decide +kernel
theorem dX11_note_37 : decode cX11_note 37 = .ok (.istore 4, 2) := by decide +kernel
theorem dX11_note_39 : decode cX11_note 39 = .ok (.iload 4, 2) := by decide +kernel
theorem dX11_note_41 : decode cX11_note 41 = .ok (.ifCond .eq 22, 3) := by decide +kernel
theorem dX11_note_44 : decode cX11_note 44 = .ok (.aload_n 0, 1) := by decide +kernel
theorem dX11_note_45 : decode cX11_note 45 = .ok (.getfield 21, 3) := by decide +kernel
theorem dX11_note_48 : decode cX11_note 48 = .ok (.iload_n 3, 1) := by decide +kernel
theorem dX11_note_49 : decode cX11_note 49 = .ok (.invokevirtual 157, 3) := by decide +kernel
theorem dX11_note_52 : decode cX11_note 52 = .ok (.ifCond .eq 18, 3) := by decide +kernel
theorem dX11_note_55 : decode cX11_note 55 = .ok (.iload_n 2, 1) := by decide +kernel
theorem dX11_note_56 : decode cX11_note 56 = .ok (.iload_n 3, 1) := by decide +kernel
theorem dX11_note_57 : decode cX11_note 57 = .ok (.if_icmp .ne 15, 3) := by decide +kernel
theorem dX11_note_60 : decode cX11_note 60 = .ok (.goto 10, 3) := by decide +kernel
theorem dX11_note_63 : decode cX11_note 63 = .ok (.iload_n 3, 1) := by decide +kernel
theorem dX11_note_64 : decode cX11_note 64 = .ok (.invokestatic 160, 3) := by decide +kernel
theorem dX11_note_67 : decode cX11_note 67 = .ok (.ifCond .ne 5, 3) := by decide +kernel
theorem dX11_note_70 : decode cX11_note 70 = .ok (.iconst (-1), 1) := by decide +kernel
theorem dX11_note_71 : decode cX11_note 71 = .ok (.ireturn, 1) := by decide +kernel
theorem dX11_note_72 : decode cX11_note 72 = .ok (.aload_n 0, 1) := by decide +kernel
theorem dX11_note_73 : decode cX11_note 73 = .ok (.getfield 37, 3) := by decide +kernel
theorem dX11_note_76 : decode cX11_note 76 = .ok (.iload_n 1, 1) := by decide +kernel
theorem dX11_note_77 : decode cX11_note 77 = .ok (.iload_n 2, 1) := by decide +kernel
theorem dX11_note_78 : decode cX11_note 78 = .ok (.iload_n 3, 1) := by decide +kernel
theorem dX11_note_79 : decode cX11_note 79 = .ok (.invokevirtual 163, 3) := by decide +kernel
theorem dX11_note_82 : decode cX11_note 82 = .ok (.ireturn, 1) := by decide +kernel
theorem dX11_strike_0 : decode cX11_strike 0 = .ok (.iload_n 1, 1) := by decide +kernel
theorem dX11_strike_1 : decode cX11_strike 1 = .ok (.ifCond .lt 14, 3) := by decide +kernel
theorem dX11_strike_4 : decode cX11_strike 4 = .ok (.iload_n 1, 1) := by decide +kernel
theorem dX11_strike_5 : decode cX11_strike 5 = .ok (.aload_n 0, 1) := by decide +kernel
theorem dX11_strike_6 : decode cX11_strike 6 = .ok (.getfield 37, 3) := by decide +kernel
theorem dX11_strike_9 : decode cX11_strike 9 = .ok (.getfield 165, 3) := by decide +kernel
theorem dX11_strike_12 : decode cX11_strike 12 = .ok (.if_icmp .lt 5, 3) := by decide +kernel
theorem dX11_strike_15 : decode cX11_strike 15 = .ok (.iconst (-1), 1) := by decide +kernel
theorem dX11_strike_16 : decode cX11_strike 16 = .ok (.ireturn, 1) := by decide +kernel
theorem dX11_strike_17 : decode cX11_strike 17 = .ok (.aload_n 0, 1) := by decide +kernel
theorem dX11_strike_18 : decode cX11_strike 18 = .ok (.getfield 37, 3) := by decide +kernel
theorem dX11_strike_21 : decode cX11_strike 21 = .ok (.bipush 6, 2) := by decide +kernel
theorem dX11_strike_23 : decode cX11_strike 23 = .ok (.iload_n 1, 1) := by decide +kernel
theorem dX11_strike_24 : decode cX11_strike 24 = .ok (.iconst 0, 1) := by decide +kernel
theorem dX11_strike_25 : decode cX11_strike 25 = .ok (.invokevirtual 163, 3) := by decide +kernel
theorem dX11_strike_28 : decode cX11_strike 28 = .ok (.ireturn, 1) := by decide +kernel
theorem dX11_years_0 : decode cX11_years 0 = .ok (.aload_n 0, 1) := by decide +kernel
theorem dX11_years_1 : decode cX11_years 1 = .ok (.getfield 21, 3) := by decide +kernel
theorem dX11_years_4 : decode cX11_years 4 = .ok (.iload_n 1, 1) := by decide +kernel
theorem dX11_years_5 : decode cX11_years 5 = .ok (.invokevirtual 157, 3) := by decide +kernel
theorem dX11_years_8 : decode cX11_years 8 = .ok (.ifCond .eq 34, 3) := by decide +kernel
theorem dX11_years_11 : decode cX11_years 11 = .ok (.aload_n 0, 1) := by decide +kernel
theorem dX11_years_12 : decode cX11_years 12 = .ok (.getfield 37, 3) := by decide +kernel
theorem dX11_years_15 : decode cX11_years 15 = .ok (.iload_n 2, 1) := by decide +kernel
theorem dX11_years_16 : decode cX11_years 16 = .ok (.invokevirtual 166, 3) := by decide +kernel
theorem dX11_years_19 : decode cX11_years 19 = .ok (.ifCond .eq 23, 3) := by decide +kernel
theorem dX11_years_22 : decode cX11_years 22 = .ok (.iload_n 3, 1) := by decide +kernel
theorem dX11_years_23 : decode cX11_years 23 = .ok (.ifCond .lt 19, 3) := by decide +kernel
theorem dX11_years_26 : decode cX11_years 26 = .ok (.iload_n 3, 1) := by decide +kernel
theorem dX11_years_27 : decode cX11_years 27 = .ok (.iconst 3, 1) := by decide +kernel
theorem dX11_years_28 : decode cX11_years 28 = .ok (.if_icmp .gt 14, 3) := by decide +kernel
theorem dX11_years_31 : decode cX11_years 31 = .ok (.aload_n 0, 1) := by decide +kernel
theorem dX11_years_32 : decode cX11_years 32 = .ok (.getfield 37, 3) := by decide +kernel
theorem dX11_years_35 : decode cX11_years 35 = .ok (.iload_n 2, 1) := by decide +kernel
theorem dX11_years_36 : decode cX11_years 36 = .ok (.invokevirtual 169, 3) := by decide +kernel
theorem dX11_years_39 : decode cX11_years 39 = .ok (.ifCond .ne 5, 3) := by decide +kernel
theorem dX11_years_42 : decode cX11_years 42 = .ok (.iconst (-1), 1) := by decide +kernel
theorem dX11_years_43 : decode cX11_years 43 = .ok (.ireturn, 1) := by decide +kernel
theorem dX11_years_44 : decode cX11_years 44 = .ok (.aload_n 0, 1) := by decide +kernel
theorem dX11_years_45 : decode cX11_years 45 = .ok (.getfield 37, 3) := by decide +kernel
theorem dX11_years_48 : decode cX11_years 48 = .ok (.iload_n 1, 1) := by decide +kernel
theorem dX11_years_49 : decode cX11_years 49 = .ok (.iload_n 3, 1) := by decide +kernel
theorem dX11_years_50 : decode cX11_years 50 = .ok (.invokevirtual 172, 3) := by decide +kernel
theorem dX11_years_53 : decode cX11_years 53 = .ok (.ireturn, 1) := by decide +kernel
theorem dX11_quarrel_0 : decode cX11_quarrel 0 = .ok (.aload_n 0, 1) := by decide +kernel
theorem dX11_quarrel_1 : decode cX11_quarrel 1 = .ok (.getfield 37, 3) := by decide +kernel
theorem dX11_quarrel_4 : decode cX11_quarrel 4 = .ok (.invokevirtual 175, 3) := by decide +kernel
theorem dX11_quarrel_7 : decode cX11_quarrel 7 = .ok (.ireturn, 1) := by decide +kernel
theorem dX11_stood_0 : decode cX11_stood 0 = .ok (.aload_n 0, 1) := by decide +kernel
theorem dX11_stood_1 : decode cX11_stood 1 = .ok (.getfield 21, 3) := by decide +kernel
theorem dX11_stood_4 : decode cX11_stood 4 = .ok (.iload_n 1, 1) := by decide +kernel
theorem dX11_stood_5 : decode cX11_stood 5 = .ok (.invokevirtual 157, 3) := by decide +kernel
theorem dX11_stood_8 : decode cX11_stood 8 = .ok (.ifCond .eq 21, 3) := by decide +kernel
theorem dX11_stood_11 : decode cX11_stood 11 = .ok (.iload_n 2, 1) := by decide +kernel
theorem dX11_stood_12 : decode cX11_stood 12 = .ok (.invokestatic 160, 3) := by decide +kernel
theorem dX11_stood_15 : decode cX11_stood 15 = .ok (.ifCond .eq 14, 3) := by decide +kernel
theorem dX11_stood_18 : decode cX11_stood 18 = .ok (.aload_n 0, 1) := by decide +kernel
theorem dX11_stood_19 : decode cX11_stood 19 = .ok (.getfield 37, 3) := by decide +kernel
theorem dX11_stood_22 : decode cX11_stood 22 = .ok (.iload_n 3, 1) := by decide +kernel
theorem dX11_stood_23 : decode cX11_stood 23 = .ok (.invokevirtual 166, 3) := by decide +kernel
theorem dX11_stood_26 : decode cX11_stood 26 = .ok (.ifCond .ne 5, 3) := by decide +kernel
theorem dX11_stood_29 : decode cX11_stood 29 = .ok (.iconst (-1), 1) := by decide +kernel
theorem dX11_stood_30 : decode cX11_stood 30 = .ok (.ireturn, 1) := by decide +kernel
theorem dX11_stood_31 : decode cX11_stood 31 = .ok (.aload_n 0, 1) := by decide +kernel
theorem dX11_stood_32 : decode cX11_stood 32 = .ok (.getfield 37, 3) := by decide +kernel
theorem dX11_stood_35 : decode cX11_stood 35 = .ok (.iload_n 3, 1) := by decide +kernel
theorem dX11_stood_36 : decode cX11_stood 36 = .ok (.invokevirtual 169, 3) := by decide +kernel
theorem dX11_stood_39 : decode cX11_stood 39 = .ok (.pop, 1) := by decide +kernel
theorem dX11_stood_40 : decode cX11_stood 40 = .ok (.aload_n 0, 1) := by decide +kernel
theorem dX11_stood_41 : decode cX11_stood 41 = .ok (.getfield 37, 3) := by decide +kernel
theorem dX11_stood_44 : decode cX11_stood 44 = .ok (.iload_n 1, 1) := by decide +kernel
theorem dX11_stood_45 : decode cX11_stood 45 = .ok (.iload_n 2, 1) := by decide +kernel
theorem dX11_stood_46 : decode cX11_stood 46 = .ok (.invokevirtual 179, 3) := by decide +kernel
theorem dX11_stood_49 : decode cX11_stood 49 = .ok (.ireturn, 1) := by decide +kernel
theorem dX11_groups_0 : decode cX11_groups 0 = .ok (.iload_n 1, 1) := by decide +kernel
theorem dX11_groups_1 : decode cX11_groups 1 = .ok (.iload_n 2, 1) := by decide +kernel
theorem dX11_groups_2 : decode cX11_groups 2 = .ok (.iload_n 3, 1) := by decide +kernel
theorem dX11_groups_3 : decode cX11_groups 3 = .ok (.iload 4, 2) := by decide +kernel
theorem dX11_groups_5 : decode cX11_groups 5 = .ok (.invokestatic 182, 3) := by decide +kernel
theorem dX11_groups_8 : decode cX11_groups 8 = .ok (.ifCond .ne 5, 3) := by decide +kernel
theorem dX11_groups_11 : decode cX11_groups 11 = .ok (.iconst (-1), 1) := by decide +kernel
theorem dX11_groups_12 : decode cX11_groups 12 = .ok (.ireturn, 1) := by decide +kernel
theorem dX11_groups_13 : decode cX11_groups 13 = .ok (.aload_n 0, 1) := by decide +kernel
theorem dX11_groups_14 : decode cX11_groups 14 = .ok (.getfield 46, 3) := by decide +kernel
theorem dX11_groups_17 : decode cX11_groups 17 = .ok (.iload_n 1, 1) := by decide +kernel
theorem dX11_groups_18 : decode cX11_groups 18 = .ok (.iload_n 2, 1) := by decide +kernel
theorem dX11_groups_19 : decode cX11_groups 19 = .ok (.iload_n 3, 1) := by decide +kernel
theorem dX11_groups_20 : decode cX11_groups 20 = .ok (.iload 4, 2) := by decide +kernel
theorem dX11_groups_22 : decode cX11_groups 22 = .ok (.iconst 0, 1) := by decide +kernel
theorem dX11_groups_23 : decode cX11_groups 23 = .ok (.invokevirtual 185, 3) := by decide +kernel
theorem dX11_groups_26 : decode cX11_groups 26 = .ok (.aload_n 0, 1) := by decide +kernel
theorem dX11_groups_27 : decode cX11_groups 27 = .ok (.getfield 46, 3) := by decide +kernel
theorem dX11_groups_30 : decode cX11_groups 30 = .ok (.aload_n 0, 1) := by decide +kernel
theorem dX11_groups_31 : decode cX11_groups 31 = .ok (.getfield 46, 3) := by decide +kernel
theorem dX11_groups_34 : decode cX11_groups 34 = .ok (.getfield 188, 3) := by decide +kernel
theorem dX11_groups_37 : decode cX11_groups 37 = .ok (.invokevirtual 191, 3) := by decide +kernel
theorem dX11_groups_40 : decode cX11_groups 40 = .ok (.ireturn, 1) := by decide +kernel
theorem dX11_cuts_0 : decode cX11_cuts 0 = .ok (.iload_n 1, 1) := by decide +kernel
theorem dX11_cuts_1 : decode cX11_cuts 1 = .ok (.iload_n 2, 1) := by decide +kernel
theorem dX11_cuts_2 : decode cX11_cuts 2 = .ok (.iload_n 3, 1) := by decide +kernel
theorem dX11_cuts_3 : decode cX11_cuts 3 = .ok (.iload 4, 2) := by decide +kernel
theorem dX11_cuts_5 : decode cX11_cuts 5 = .ok (.invokestatic 182, 3) := by decide +kernel
theorem dX11_cuts_8 : decode cX11_cuts 8 = .ok (.ifCond .ne 5, 3) := by decide +kernel
theorem dX11_cuts_11 : decode cX11_cuts 11 = .ok (.iconst (-1), 1) := by decide +kernel
theorem dX11_cuts_12 : decode cX11_cuts 12 = .ok (.ireturn, 1) := by decide +kernel
theorem dX11_cuts_13 : decode cX11_cuts 13 = .ok (.aload_n 0, 1) := by decide +kernel
theorem dX11_cuts_14 : decode cX11_cuts 14 = .ok (.getfield 46, 3) := by decide +kernel
theorem dX11_cuts_17 : decode cX11_cuts 17 = .ok (.iload_n 1, 1) := by decide +kernel
theorem dX11_cuts_18 : decode cX11_cuts 18 = .ok (.iload_n 2, 1) := by decide +kernel
theorem dX11_cuts_19 : decode cX11_cuts 19 = .ok (.iload_n 3, 1) := by decide +kernel
theorem dX11_cuts_20 : decode cX11_cuts 20 = .ok (.iload 4, 2) := by decide +kernel
theorem dX11_cuts_22 : decode cX11_cuts 22 = .ok (.iconst 0, 1) := by decide +kernel
theorem dX11_cuts_23 : decode cX11_cuts 23 = .ok (.invokevirtual 185, 3) := by decide +kernel
theorem dX11_cuts_26 : decode cX11_cuts 26 = .ok (.aload_n 0, 1) := by decide +kernel
theorem dX11_cuts_27 : decode cX11_cuts 27 = .ok (.getfield 46, 3) := by decide +kernel
theorem dX11_cuts_30 : decode cX11_cuts 30 = .ok (.invokevirtual 195, 3) := by decide +kernel
theorem dX11_cuts_33 : decode cX11_cuts 33 = .ok (.ireturn, 1) := by decide +kernel
theorem dX11_join_0 : decode cX11_join 0 = .ok (.iload_n 1, 1) := by decide +kernel
theorem dX11_join_1 : decode cX11_join 1 = .ok (.iload_n 2, 1) := by decide +kernel
theorem dX11_join_2 : decode cX11_join 2 = .ok (.iload_n 3, 1) := by decide +kernel
theorem dX11_join_3 : decode cX11_join 3 = .ok (.iload 4, 2) := by decide +kernel
theorem dX11_join_5 : decode cX11_join 5 = .ok (.invokestatic 182, 3) := by decide +kernel
theorem dX11_join_8 : decode cX11_join 8 = .ok (.ifCond .ne 5, 3) := by decide +kernel
theorem dX11_join_11 : decode cX11_join 11 = .ok (.iconst (-1), 1) := by decide +kernel
theorem dX11_join_12 : decode cX11_join 12 = .ok (.ireturn, 1) := by decide +kernel
theorem dX11_join_13 : decode cX11_join 13 = .ok (.aload_n 0, 1) := by decide +kernel
theorem dX11_join_14 : decode cX11_join 14 = .ok (.getfield 46, 3) := by decide +kernel
theorem dX11_join_17 : decode cX11_join 17 = .ok (.iload_n 1, 1) := by decide +kernel
theorem dX11_join_18 : decode cX11_join 18 = .ok (.iload_n 2, 1) := by decide +kernel
theorem dX11_join_19 : decode cX11_join 19 = .ok (.iload_n 3, 1) := by decide +kernel
theorem dX11_join_20 : decode cX11_join 20 = .ok (.iload 4, 2) := by decide +kernel
theorem dX11_join_22 : decode cX11_join 22 = .ok (.iconst 1, 1) := by decide +kernel
theorem dX11_join_23 : decode cX11_join 23 = .ok (.invokevirtual 185, 3) := by decide +kernel
theorem dX11_join_26 : decode cX11_join 26 = .ok (.aload_n 0, 1) := by decide +kernel
theorem dX11_join_27 : decode cX11_join 27 = .ok (.getfield 53, 3) := by decide +kernel
theorem dX11_join_30 : decode cX11_join 30 = .ok (.aload_n 0, 1) := by decide +kernel
theorem dX11_join_31 : decode cX11_join 31 = .ok (.getfield 46, 3) := by decide +kernel
theorem dX11_join_34 : decode cX11_join 34 = .ok (.invokevirtual 198, 3) := by decide +kernel
theorem dX11_join_37 : decode cX11_join 37 = .ok (.ireturn, 1) := by decide +kernel
theorem dX11_joined_0 : decode cX11_joined 0 = .ok (.aload_n 0, 1) := by decide +kernel
theorem dX11_joined_1 : decode cX11_joined 1 = .ok (.getfield 53, 3) := by decide +kernel
theorem dX11_joined_4 : decode cX11_joined 4 = .ok (.getfield 202, 3) := by decide +kernel
theorem dX11_joined_7 : decode cX11_joined 7 = .ok (.ifCond .ne 5, 3) := by decide +kernel
theorem dX11_joined_10 : decode cX11_joined 10 = .ok (.iconst (-1), 1) := by decide +kernel
theorem dX11_joined_11 : decode cX11_joined 11 = .ok (.ireturn, 1) := by decide +kernel
theorem dX11_joined_12 : decode cX11_joined 12 = .ok (.iload_n 1, 1) := by decide +kernel
theorem dX11_joined_13 : decode cX11_joined 13 = .ok (.tableswitch 89 0 2 #[27, 35, 60], 27) := by decide +kernel
theorem dX11_joined_40 : decode cX11_joined 40 = .ok (.aload_n 0, 1) := by decide +kernel
theorem dX11_joined_41 : decode cX11_joined 41 = .ok (.getfield 53, 3) := by decide +kernel
theorem dX11_joined_44 : decode cX11_joined 44 = .ok (.getfield 205, 3) := by decide +kernel
theorem dX11_joined_47 : decode cX11_joined 47 = .ok (.ireturn, 1) := by decide +kernel
theorem dX11_joined_48 : decode cX11_joined 48 = .ok (.aload_n 0, 1) := by decide +kernel
theorem dX11_joined_49 : decode cX11_joined 49 = .ok (.getfield 21, 3) := by decide +kernel
theorem dX11_joined_52 : decode cX11_joined 52 = .ok (.iload_n 2, 1) := by decide +kernel
theorem dX11_joined_53 : decode cX11_joined 53 = .ok (.invokevirtual 157, 3) := by decide +kernel
theorem dX11_joined_56 : decode cX11_joined 56 = .ok (.ifCond .eq 15, 3) := by decide +kernel
theorem dX11_joined_59 : decode cX11_joined 59 = .ok (.aload_n 0, 1) := by decide +kernel
theorem dX11_joined_60 : decode cX11_joined 60 = .ok (.getfield 53, 3) := by decide +kernel
theorem dX11_joined_63 : decode cX11_joined 63 = .ok (.getfield 206, 3) := by decide +kernel
theorem dX11_joined_66 : decode cX11_joined 66 = .ok (.iload_n 2, 1) := by decide +kernel
theorem dX11_joined_67 : decode cX11_joined 67 = .ok (.iaload, 1) := by decide +kernel
theorem dX11_joined_68 : decode cX11_joined 68 = .ok (.goto 4, 3) := by decide +kernel
theorem dX11_joined_71 : decode cX11_joined 71 = .ok (.iconst (-1), 1) := by decide +kernel
theorem dX11_joined_72 : decode cX11_joined 72 = .ok (.ireturn, 1) := by decide +kernel
theorem dX11_joined_73 : decode cX11_joined 73 = .ok (.iload_n 2, 1) := by decide +kernel
theorem dX11_joined_74 : decode cX11_joined 74 = .ok (.ifCond .lt 26, 3) := by decide +kernel
theorem dX11_joined_77 : decode cX11_joined 77 = .ok (.iload_n 2, 1) := by decide +kernel
theorem dX11_joined_78 : decode cX11_joined 78 = .ok (.aload_n 0, 1) := by decide +kernel
theorem dX11_joined_79 : decode cX11_joined 79 = .ok (.getfield 53, 3) := by decide +kernel
theorem dX11_joined_82 : decode cX11_joined 82 = .ok (.getfield 205, 3) := by decide +kernel
theorem dX11_joined_85 : decode cX11_joined 85 = .ok (.if_icmp .ge 15, 3) := by decide +kernel
theorem dX11_joined_88 : decode cX11_joined 88 = .ok (.aload_n 0, 1) := by decide +kernel
theorem dX11_joined_89 : decode cX11_joined 89 = .ok (.getfield 53, 3) := by decide +kernel
theorem dX11_joined_92 : decode cX11_joined 92 = .ok (.getfield 210, 3) := by decide +kernel
theorem dX11_joined_95 : decode cX11_joined 95 = .ok (.iload_n 2, 1) := by decide +kernel
theorem dX11_joined_96 : decode cX11_joined 96 = .ok (.iaload, 1) := by decide +kernel
theorem dX11_joined_97 : decode cX11_joined 97 = .ok (.goto 4, 3) := by decide +kernel
theorem dX11_joined_100 : decode cX11_joined 100 = .ok (.iconst (-1), 1) := by decide +kernel
theorem dX11_joined_101 : decode cX11_joined 101 = .ok (.ireturn, 1) := by decide +kernel
theorem dX11_joined_102 : decode cX11_joined 102 = .ok (.iconst (-1), 1) := by decide +kernel
theorem dX11_joined_103 : decode cX11_joined 103 = .ok (.ireturn, 1) := by decide +kernel
theorem dX11_dig_0 : decode cX11_dig 0 = .ok (.aload_n 0, 1) := by decide +kernel
theorem dX11_dig_1 : decode cX11_dig 1 = .ok (.getfield 53, 3) := by decide +kernel
theorem dX11_dig_4 : decode cX11_dig 4 = .ok (.getfield 202, 3) := by decide +kernel
theorem dX11_dig_7 : decode cX11_dig 7 = .ok (.ifCond .eq 13, 3) := by decide +kernel
theorem dX11_dig_10 : decode cX11_dig 10 = .ok (.aload_n 0, 1) := by decide +kernel
theorem dX11_dig_11 : decode cX11_dig 11 = .ok (.getfield 53, 3) := by decide +kernel
theorem dX11_dig_14 : decode cX11_dig 14 = .ok (.invokevirtual 213, 3) := by decide +kernel
theorem dX11_dig_17 : decode cX11_dig 17 = .ok (.goto 4, 3) := by decide +kernel
theorem dX11_dig_20 : decode cX11_dig 20 = .ok (.iconst (-1), 1) := by decide +kernel
theorem dX11_dig_21 : decode cX11_dig 21 = .ok (.ireturn, 1) := by decide +kernel
theorem dX11_dug_0 : decode cX11_dug 0 = .ok (.aload_n 0, 1) := by decide +kernel
theorem dX11_dug_1 : decode cX11_dug 1 = .ok (.getfield 21, 3) := by decide +kernel
theorem dX11_dug_4 : decode cX11_dug 4 = .ok (.iload_n 1, 1) := by decide +kernel
theorem dX11_dug_5 : decode cX11_dug 5 = .ok (.invokevirtual 157, 3) := by decide +kernel
theorem dX11_dug_8 : decode cX11_dug 8 = .ok (.ifCond .eq 16, 3) := by decide +kernel
theorem dX11_dug_11 : decode cX11_dug 11 = .ok (.aload_n 0, 1) := by decide +kernel
theorem dX11_dug_12 : decode cX11_dug 12 = .ok (.getfield 21, 3) := by decide +kernel
theorem dX11_dug_15 : decode cX11_dug 15 = .ok (.getfield 216, 3) := by decide +kernel
theorem dX11_dug_18 : decode cX11_dug 18 = .ok (.iload_n 1, 1) := by decide +kernel
theorem dX11_dug_19 : decode cX11_dug 19 = .ok (.iaload, 1) := by decide +kernel
theorem dX11_dug_20 : decode cX11_dug 20 = .ok (.iconst 1, 1) := by decide +kernel
theorem dX11_dug_21 : decode cX11_dug 21 = .ok (.if_icmp .eq 5, 3) := by decide +kernel
theorem dX11_dug_24 : decode cX11_dug 24 = .ok (.iconst 0, 1) := by decide +kernel
theorem dX11_dug_25 : decode cX11_dug 25 = .ok (.ireturn, 1) := by decide +kernel
theorem dX11_dug_26 : decode cX11_dug 26 = .ok (.aload_n 0, 1) := by decide +kernel
theorem dX11_dug_27 : decode cX11_dug 27 = .ok (.getfield 21, 3) := by decide +kernel
theorem dX11_dug_30 : decode cX11_dug 30 = .ok (.getfield 216, 3) := by decide +kernel
theorem dX11_dug_33 : decode cX11_dug 33 = .ok (.iload_n 1, 1) := by decide +kernel
theorem dX11_dug_34 : decode cX11_dug 34 = .ok (.iload_n 2, 1) := by decide +kernel
theorem dX11_dug_35 : decode cX11_dug 35 = .ok (.ifCond .eq 7, 3) := by decide +kernel
theorem dX11_dug_38 : decode cX11_dug 38 = .ok (.iconst 0, 1) := by decide +kernel
theorem dX11_dug_39 : decode cX11_dug 39 = .ok (.goto 4, 3) := by decide +kernel
theorem dX11_dug_42 : decode cX11_dug 42 = .ok (.iconst 2, 1) := by decide +kernel
theorem dX11_dug_43 : decode cX11_dug 43 = .ok (.iastore, 1) := by decide +kernel
theorem dX11_dug_44 : decode cX11_dug 44 = .ok (.aload_n 0, 1) := by decide +kernel
theorem dX11_dug_45 : decode cX11_dug 45 = .ok (.getfield 53, 3) := by decide +kernel
theorem dX11_dug_48 : decode cX11_dug 48 = .ok (.invokevirtual 107, 3) := by decide +kernel
theorem dX11_dug_51 : decode cX11_dug 51 = .ok (.iconst 1, 1) := by decide +kernel
theorem dX11_dug_52 : decode cX11_dug 52 = .ok (.ireturn, 1) := by decide +kernel
theorem dX11_feed_0 : decode cX11_feed 0 = .ok (.aload_n 0, 1) := by decide +kernel
theorem dX11_feed_1 : decode cX11_feed 1 = .ok (.getfield 60, 3) := by decide +kernel
theorem dX11_feed_4 : decode cX11_feed 4 = .ok (.invokevirtual 219, 3) := by decide +kernel
theorem dX11_feed_7 : decode cX11_feed 7 = .ok (.ifCond .ne 5, 3) := by decide +kernel
theorem dX11_feed_10 : decode cX11_feed 10 = .ok (.iconst (-1), 1) := by decide +kernel
theorem dX11_feed_11 : decode cX11_feed 11 = .ok (.ireturn, 1) := by decide +kernel
theorem dX11_feed_12 : decode cX11_feed 12 = .ok (.aload_n 0, 1) := by decide +kernel
theorem dX11_feed_13 : decode cX11_feed 13 = .ok (.getfield 60, 3) := by decide +kernel
theorem dX11_feed_16 : decode cX11_feed 16 = .ok (.iload_n 1, 1) := by decide +kernel
theorem dX11_feed_17 : decode cX11_feed 17 = .ok (.invokevirtual 223, 3) := by decide +kernel
theorem dX11_feed_20 : decode cX11_feed 20 = .ok (.aload_n 0, 1) := by decide +kernel
theorem dX11_feed_21 : decode cX11_feed 21 = .ok (.getfield 60, 3) := by decide +kernel
theorem dX11_feed_24 : decode cX11_feed 24 = .ok (.iload_n 2, 1) := by decide +kernel
theorem dX11_feed_25 : decode cX11_feed 25 = .ok (.invokevirtual 223, 3) := by decide +kernel
theorem dX11_feed_28 : decode cX11_feed 28 = .ok (.aload_n 0, 1) := by decide +kernel
theorem dX11_feed_29 : decode cX11_feed 29 = .ok (.getfield 60, 3) := by decide +kernel
theorem dX11_feed_32 : decode cX11_feed 32 = .ok (.iload_n 3, 1) := by decide +kernel
theorem dX11_feed_33 : decode cX11_feed 33 = .ok (.invokevirtual 223, 3) := by decide +kernel
theorem dX11_feed_36 : decode cX11_feed 36 = .ok (.aload_n 0, 1) := by decide +kernel
theorem dX11_feed_37 : decode cX11_feed 37 = .ok (.getfield 60, 3) := by decide +kernel
theorem dX11_feed_40 : decode cX11_feed 40 = .ok (.iload 4, 2) := by decide +kernel
theorem dX11_feed_42 : decode cX11_feed 42 = .ok (.invokevirtual 223, 3) := by decide +kernel
theorem dX11_feed_45 : decode cX11_feed 45 = .ok (.aload_n 0, 1) := by decide +kernel
theorem dX11_feed_46 : decode cX11_feed 46 = .ok (.getfield 60, 3) := by decide +kernel
theorem dX11_feed_49 : decode cX11_feed 49 = .ok (.iload 5, 2) := by decide +kernel
theorem dX11_feed_51 : decode cX11_feed 51 = .ok (.invokevirtual 223, 3) := by decide +kernel
theorem dX11_feed_54 : decode cX11_feed 54 = .ok (.aload_n 0, 1) := by decide +kernel
theorem dX11_feed_55 : decode cX11_feed 55 = .ok (.getfield 60, 3) := by decide +kernel
theorem dX11_feed_58 : decode cX11_feed 58 = .ok (.getfield 227, 3) := by decide +kernel
theorem dX11_feed_61 : decode cX11_feed 61 = .ok (.ireturn, 1) := by decide +kernel
theorem dX11_rules_0 : decode cX11_rules 0 = .ok (.iload_n 1, 1) := by decide +kernel
theorem dX11_rules_1 : decode cX11_rules 1 = .ok (.ifCond .lt 14, 3) := by decide +kernel
theorem dX11_rules_4 : decode cX11_rules 4 = .ok (.iload_n 1, 1) := by decide +kernel
theorem dX11_rules_5 : decode cX11_rules 5 = .ok (.aload_n 0, 1) := by decide +kernel
theorem dX11_rules_6 : decode cX11_rules 6 = .ok (.getfield 60, 3) := by decide +kernel
theorem dX11_rules_9 : decode cX11_rules 9 = .ok (.getfield 227, 3) := by decide +kernel
theorem dX11_rules_12 : decode cX11_rules 12 = .ok (.if_icmp .le 6, 3) := by decide +kernel
theorem dX11_rules_15 : decode cX11_rules 15 = .ok (.bipush (-2), 2) := by decide +kernel
theorem dX11_rules_17 : decode cX11_rules 17 = .ok (.ireturn, 1) := by decide +kernel
theorem dX11_rules_18 : decode cX11_rules 18 = .ok (.aload_n 0, 1) := by decide +kernel
theorem dX11_rules_19 : decode cX11_rules 19 = .ok (.getfield 69, 3) := by decide +kernel
theorem dX11_rules_22 : decode cX11_rules 22 = .ok (.iload_n 1, 1) := by decide +kernel
theorem dX11_rules_23 : decode cX11_rules 23 = .ok (.invokevirtual 228, 3) := by decide +kernel
theorem dX11_rules_26 : decode cX11_rules 26 = .ok (.istore_n 2, 1) := by decide +kernel
theorem dX11_rules_27 : decode cX11_rules 27 = .ok (.aload_n 0, 1) := by decide +kernel
theorem dX11_rules_28 : decode cX11_rules 28 = .ok (.getfield 60, 3) := by decide +kernel
theorem dX11_rules_31 : decode cX11_rules 31 = .ok (.iconst 0, 1) := by decide +kernel
theorem dX11_rules_32 : decode cX11_rules 32 = .ok (.putfield 227, 3) := by decide +kernel
theorem dX11_rules_35 : decode cX11_rules 35 = .ok (.iload_n 2, 1) := by decide +kernel
theorem dX11_rules_36 : decode cX11_rules 36 = .ok (.ifCond .ne 5, 3) := by decide +kernel
theorem dX11_rules_39 : decode cX11_rules 39 = .ok (.iconst (-1), 1) := by decide +kernel
theorem dX11_rules_40 : decode cX11_rules 40 = .ok (.ireturn, 1) := by decide +kernel
theorem dX11_rules_41 : decode cX11_rules 41 = .ok (.aload_n 0, 1) := by decide +kernel
theorem dX11_rules_42 : decode cX11_rules 42 = .ok (.aload_n 0, 1) := by decide +kernel
theorem dX11_rules_43 : decode cX11_rules 43 = .ok (.getfield 69, 3) := by decide +kernel
theorem dX11_rules_46 : decode cX11_rules 46 = .ok (.aload_n 0, 1) := by decide +kernel
theorem dX11_rules_47 : decode cX11_rules 47 = .ok (.getfield 76, 3) := by decide +kernel
theorem dX11_rules_50 : decode cX11_rules 50 = .ok (.invokevirtual 231, 3) := by decide +kernel
theorem dX11_rules_53 : decode cX11_rules 53 = .ok (.putfield 76, 3) := by decide +kernel
theorem dX11_rules_56 : decode cX11_rules 56 = .ok (.aload_n 0, 1) := by decide +kernel
theorem dX11_rules_57 : decode cX11_rules 57 = .ok (.getfield 85, 3) := by decide +kernel
theorem dX11_rules_60 : decode cX11_rules 60 = .ok (.iconst 0, 1) := by decide +kernel
theorem dX11_rules_61 : decode cX11_rules 61 = .ok (.putfield 108, 3) := by decide +kernel
theorem dX11_rules_64 : decode cX11_rules 64 = .ok (.aload_n 0, 1) := by decide +kernel
theorem dX11_rules_65 : decode cX11_rules 65 = .ok (.getfield 76, 3) := by decide +kernel
theorem dX11_rules_68 : decode cX11_rules 68 = .ok (.getfield 235, 3) := by decide +kernel
theorem dX11_rules_71 : decode cX11_rules 71 = .ok (.ireturn, 1) := by decide +kernel
theorem dX11_fault_0 : decode cX11_fault 0 = .ok (.iload_n 1, 1) := by decide +kernel
theorem dX11_fault_1 : decode cX11_fault 1 = .ok (.lookupswitch 43 #[(0, 27), (1, 35)], 27) := by decide +kernel
theorem dX11_fault_28 : decode cX11_fault 28 = .ok (.aload_n 0, 1) := by decide +kernel
theorem dX11_fault_29 : decode cX11_fault 29 = .ok (.getfield 69, 3) := by decide +kernel
theorem dX11_fault_32 : decode cX11_fault 32 = .ok (.getfield 238, 3) := by decide +kernel
theorem dX11_fault_35 : decode cX11_fault 35 = .ok (.ireturn, 1) := by decide +kernel
theorem dX11_fault_36 : decode cX11_fault 36 = .ok (.aload_n 0, 1) := by decide +kernel
theorem dX11_fault_37 : decode cX11_fault 37 = .ok (.getfield 69, 3) := by decide +kernel
theorem dX11_fault_40 : decode cX11_fault 40 = .ok (.getfield 241, 3) := by decide +kernel
theorem dX11_fault_43 : decode cX11_fault 43 = .ok (.ireturn, 1) := by decide +kernel
theorem dX11_fault_44 : decode cX11_fault 44 = .ok (.iconst (-1), 1) := by decide +kernel
theorem dX11_fault_45 : decode cX11_fault 45 = .ok (.ireturn, 1) := by decide +kernel
theorem dX11_send_0 : decode cX11_send 0 = .ok (.iload_n 2, 1) := by decide +kernel
theorem dX11_send_1 : decode cX11_send 1 = .ok (.ifCond .lt 37, 3) := by decide +kernel
theorem dX11_send_4 : decode cX11_send 4 = .ok (.iload_n 2, 1) := by decide +kernel
theorem dX11_send_5 : decode cX11_send 5 = .ok (.aload_n 0, 1) := by decide +kernel
theorem dX11_send_6 : decode cX11_send 6 = .ok (.getfield 76, 3) := by decide +kernel
theorem dX11_send_9 : decode cX11_send 9 = .ok (.getfield 235, 3) := by decide +kernel
theorem dX11_send_12 : decode cX11_send 12 = .ok (.if_icmp .ge 26, 3) := by decide +kernel
theorem dX11_send_15 : decode cX11_send 15 = .ok (.aload_n 0, 1) := by decide +kernel
theorem dX11_send_16 : decode cX11_send 16 = .ok (.getfield 21, 3) := by decide +kernel
theorem dX11_send_19 : decode cX11_send 19 = .ok (.iload_n 1, 1) := by decide +kernel
theorem dX11_send_20 : decode cX11_send 20 = .ok (.invokevirtual 157, 3) := by decide +kernel
theorem dX11_send_23 : decode cX11_send 23 = .ok (.ifCond .eq 15, 3) := by decide +kernel
theorem dX11_send_26 : decode cX11_send 26 = .ok (.iload_n 3, 1) := by decide +kernel
theorem dX11_send_27 : decode cX11_send 27 = .ok (.iload 4, 2) := by decide +kernel
theorem dX11_send_29 : decode cX11_send 29 = .ok (.iload 5, 2) := by decide +kernel
theorem dX11_send_31 : decode cX11_send 31 = .ok (.iconst 1, 1) := by decide +kernel
theorem dX11_send_32 : decode cX11_send 32 = .ok (.invokestatic 182, 3) := by decide +kernel
theorem dX11_send_35 : decode cX11_send 35 = .ok (.ifCond .ne 5, 3) := by decide +kernel
theorem dX11_send_38 : decode cX11_send 38 = .ok (.iconst (-1), 1) := by decide +kernel
theorem dX11_send_39 : decode cX11_send 39 = .ok (.ireturn, 1) := by decide +kernel
theorem dX11_send_40 : decode cX11_send 40 = .ok (.aload_n 0, 1) := by decide +kernel
theorem dX11_send_41 : decode cX11_send 41 = .ok (.getfield 46, 3) := by decide +kernel
theorem dX11_send_44 : decode cX11_send 44 = .ok (.iload_n 3, 1) := by decide +kernel
theorem dX11_send_45 : decode cX11_send 45 = .ok (.iload 4, 2) := by decide +kernel
theorem dX11_send_47 : decode cX11_send 47 = .ok (.iload 5, 2) := by decide +kernel
theorem dX11_send_49 : decode cX11_send 49 = .ok (.iconst 1, 1) := by decide +kernel
theorem dX11_send_50 : decode cX11_send 50 = .ok (.iconst 0, 1) := by decide +kernel
theorem dX11_send_51 : decode cX11_send 51 = .ok (.invokevirtual 185, 3) := by decide +kernel
theorem dX11_send_54 : decode cX11_send 54 = .ok (.aload_n 0, 1) := by decide +kernel
theorem dX11_send_55 : decode cX11_send 55 = .ok (.getfield 46, 3) := by decide +kernel
theorem dX11_send_58 : decode cX11_send 58 = .ok (.getfield 188, 3) := by decide +kernel
theorem dX11_send_61 : decode cX11_send 61 = .ok (.iload_n 1, 1) := by decide +kernel
theorem dX11_send_62 : decode cX11_send 62 = .ok (.ishr, 1) := by decide +kernel
theorem dX11_send_63 : decode cX11_send 63 = .ok (.iconst 1, 1) := by decide +kernel
theorem dX11_send_64 : decode cX11_send 64 = .ok (.iand, 1) := by decide +kernel
theorem dX11_send_65 : decode cX11_send 65 = .ok (.ifCond .ne 5, 3) := by decide +kernel
theorem dX11_send_68 : decode cX11_send 68 = .ok (.iconst (-1), 1) := by decide +kernel
theorem dX11_send_69 : decode cX11_send 69 = .ok (.ireturn, 1) := by decide +kernel
theorem dX11_send_70 : decode cX11_send 70 = .ok (.aload_n 0, 1) := by decide +kernel
theorem dX11_send_71 : decode cX11_send 71 = .ok (.getfield 85, 3) := by decide +kernel
theorem dX11_send_74 : decode cX11_send 74 = .ok (.aload_n 0, 1) := by decide +kernel
theorem dX11_send_75 : decode cX11_send 75 = .ok (.getfield 76, 3) := by decide +kernel
theorem dX11_send_78 : decode cX11_send 78 = .ok (.iload_n 1, 1) := by decide +kernel
theorem dX11_send_79 : decode cX11_send 79 = .ok (.iload_n 2, 1) := by decide +kernel
theorem dX11_send_80 : decode cX11_send 80 = .ok (.invokevirtual 244, 3) := by decide +kernel
theorem dX11_send_83 : decode cX11_send 83 = .ok (.ireturn, 1) := by decide +kernel
theorem dX11_heard_0 : decode cX11_heard 0 = .ok (.aload_n 0, 1) := by decide +kernel
theorem dX11_heard_1 : decode cX11_heard 1 = .ok (.getfield 85, 3) := by decide +kernel
theorem dX11_heard_4 : decode cX11_heard 4 = .ok (.getfield 108, 3) := by decide +kernel
theorem dX11_heard_7 : decode cX11_heard 7 = .ok (.ifCond .eq 29, 3) := by decide +kernel
theorem dX11_heard_10 : decode cX11_heard 10 = .ok (.aload_n 0, 1) := by decide +kernel
theorem dX11_heard_11 : decode cX11_heard 11 = .ok (.getfield 21, 3) := by decide +kernel
theorem dX11_heard_14 : decode cX11_heard 14 = .ok (.iload_n 1, 1) := by decide +kernel
theorem dX11_heard_15 : decode cX11_heard 15 = .ok (.invokevirtual 157, 3) := by decide +kernel
theorem dX11_heard_18 : decode cX11_heard 18 = .ok (.ifCond .eq 18, 3) := by decide +kernel
theorem dX11_heard_21 : decode cX11_heard 21 = .ok (.iload_n 2, 1) := by decide +kernel
theorem dX11_heard_22 : decode cX11_heard 22 = .ok (.ifCond .lt 14, 3) := by decide +kernel
theorem dX11_heard_25 : decode cX11_heard 25 = .ok (.iload_n 2, 1) := by decide +kernel
theorem dX11_heard_26 : decode cX11_heard 26 = .ok (.aload_n 0, 1) := by decide +kernel
theorem dX11_heard_27 : decode cX11_heard 27 = .ok (.getfield 76, 3) := by decide +kernel
theorem dX11_heard_30 : decode cX11_heard 30 = .ok (.getfield 235, 3) := by decide +kernel
theorem dX11_heard_33 : decode cX11_heard 33 = .ok (.if_icmp .lt 5, 3) := by decide +kernel
theorem dX11_heard_36 : decode cX11_heard 36 = .ok (.iconst (-1), 1) := by decide +kernel
theorem dX11_heard_37 : decode cX11_heard 37 = .ok (.ireturn, 1) := by decide +kernel
theorem dX11_heard_38 : decode cX11_heard 38 = .ok (.aload_n 0, 1) := by decide +kernel
theorem dX11_heard_39 : decode cX11_heard 39 = .ok (.getfield 85, 3) := by decide +kernel
theorem dX11_heard_42 : decode cX11_heard 42 = .ok (.iload_n 1, 1) := by decide +kernel
theorem dX11_heard_43 : decode cX11_heard 43 = .ok (.iload_n 2, 1) := by decide +kernel
theorem dX11_heard_44 : decode cX11_heard 44 = .ok (.iload_n 3, 1) := by decide +kernel
theorem dX11_heard_45 : decode cX11_heard 45 = .ok (.invokevirtual 248, 3) := by decide +kernel
theorem dX11_heard_48 : decode cX11_heard 48 = .ok (.ireturn, 1) := by decide +kernel
theorem dX11_sent_0 : decode cX11_sent 0 = .ok (.aload_n 0, 1) := by decide +kernel
theorem dX11_sent_1 : decode cX11_sent 1 = .ok (.getfield 85, 3) := by decide +kernel
theorem dX11_sent_4 : decode cX11_sent 4 = .ok (.getfield 108, 3) := by decide +kernel
theorem dX11_sent_7 : decode cX11_sent 7 = .ok (.ifCond .eq 24, 3) := by decide +kernel
theorem dX11_sent_10 : decode cX11_sent 10 = .ok (.iload_n 1, 1) := by decide +kernel
theorem dX11_sent_11 : decode cX11_sent 11 = .ok (.ifCond .lt 20, 3) := by decide +kernel
theorem dX11_sent_14 : decode cX11_sent 14 = .ok (.iload_n 1, 1) := by decide +kernel
theorem dX11_sent_15 : decode cX11_sent 15 = .ok (.iconst 5, 1) := by decide +kernel
theorem dX11_sent_16 : decode cX11_sent 16 = .ok (.if_icmp .ge 15, 3) := by decide +kernel
theorem dX11_sent_19 : decode cX11_sent 19 = .ok (.aload_n 0, 1) := by decide +kernel
theorem dX11_sent_20 : decode cX11_sent 20 = .ok (.getfield 85, 3) := by decide +kernel
theorem dX11_sent_23 : decode cX11_sent 23 = .ok (.getfield 251, 3) := by decide +kernel
theorem dX11_sent_26 : decode cX11_sent 26 = .ok (.iload_n 1, 1) := by decide +kernel
theorem dX11_sent_27 : decode cX11_sent 27 = .ok (.iaload, 1) := by decide +kernel
theorem dX11_sent_28 : decode cX11_sent 28 = .ok (.goto 4, 3) := by decide +kernel
theorem dX11_sent_31 : decode cX11_sent 31 = .ok (.iconst (-1), 1) := by decide +kernel
theorem dX11_sent_32 : decode cX11_sent 32 = .ok (.ireturn, 1) := by decide +kernel
theorem dX11_way_0 : decode cX11_way 0 = .ok (.aload_n 0, 1) := by decide +kernel
theorem dX11_way_1 : decode cX11_way 1 = .ok (.getfield 21, 3) := by decide +kernel
theorem dX11_way_4 : decode cX11_way 4 = .ok (.iload_n 1, 1) := by decide +kernel
theorem dX11_way_5 : decode cX11_way 5 = .ok (.invokevirtual 254, 3) := by decide +kernel
theorem dX11_way_8 : decode cX11_way 8 = .ok (.ifCond .eq 14, 3) := by decide +kernel
theorem dX11_way_11 : decode cX11_way 11 = .ok (.aload_n 0, 1) := by decide +kernel
theorem dX11_way_12 : decode cX11_way 12 = .ok (.getfield 21, 3) := by decide +kernel
theorem dX11_way_15 : decode cX11_way 15 = .ok (.iload_n 2, 1) := by decide +kernel
theorem dX11_way_16 : decode cX11_way 16 = .ok (.invokevirtual 254, 3) := by decide +kernel
theorem dX11_way_19 : decode cX11_way 19 = .ok (.ifCond .ne 5, 3) := by decide +kernel
theorem dX11_way_22 : decode cX11_way 22 = .ok (.iconst (-1), 1) := by decide +kernel
theorem dX11_way_23 : decode cX11_way 23 = .ok (.ireturn, 1) := by decide +kernel
theorem dX11_way_24 : decode cX11_way 24 = .ok (.aload_n 0, 1) := by decide +kernel
theorem dX11_way_25 : decode cX11_way 25 = .ok (.getfield 92, 3) := by decide +kernel
theorem dX11_way_28 : decode cX11_way 28 = .ok (.iload_n 1, 1) := by decide +kernel
theorem dX11_way_29 : decode cX11_way 29 = .ok (.invokevirtual 257, 3) := by decide +kernel
theorem dX11_way_32 : decode cX11_way 32 = .ok (.aload_n 0, 1) := by decide +kernel
theorem dX11_way_33 : decode cX11_way 33 = .ok (.getfield 92, 3) := by decide +kernel
theorem dX11_way_36 : decode cX11_way 36 = .ok (.getfield 260, 3) := by decide +kernel
theorem dX11_way_39 : decode cX11_way 39 = .ok (.iload_n 1, 1) := by decide +kernel
theorem dX11_way_40 : decode cX11_way 40 = .ok (.aaload, 1) := by decide +kernel
theorem dX11_way_41 : decode cX11_way 41 = .ok (.aload_n 0, 1) := by decide +kernel
theorem dX11_way_42 : decode cX11_way 42 = .ok (.getfield 21, 3) := by decide +kernel
theorem dX11_way_45 : decode cX11_way 45 = .ok (.getfield 264, 3) := by decide +kernel
theorem dX11_way_48 : decode cX11_way 48 = .ok (.iload_n 2, 1) := by decide +kernel
theorem dX11_way_49 : decode cX11_way 49 = .ok (.iaload, 1) := by decide +kernel
theorem dX11_way_50 : decode cX11_way 50 = .ok (.iaload, 1) := by decide +kernel
theorem dX11_way_51 : decode cX11_way 51 = .ok (.ireturn, 1) := by decide +kernel
theorem dX11_store_0 : decode cX11_store 0 = .ok (.aload_n 0, 1) := by decide +kernel
theorem dX11_store_1 : decode cX11_store 1 = .ok (.getfield 21, 3) := by decide +kernel
theorem dX11_store_4 : decode cX11_store 4 = .ok (.iload_n 1, 1) := by decide +kernel
theorem dX11_store_5 : decode cX11_store 5 = .ok (.invokevirtual 157, 3) := by decide +kernel
theorem dX11_store_8 : decode cX11_store 8 = .ok (.ifCond .eq 26, 3) := by decide +kernel
theorem dX11_store_11 : decode cX11_store 11 = .ok (.aload_n 0, 1) := by decide +kernel
theorem dX11_store_12 : decode cX11_store 12 = .ok (.getfield 21, 3) := by decide +kernel
theorem dX11_store_15 : decode cX11_store 15 = .ok (.getfield 216, 3) := by decide +kernel
theorem dX11_store_18 : decode cX11_store 18 = .ok (.iload_n 1, 1) := by decide +kernel
theorem dX11_store_19 : decode cX11_store 19 = .ok (.iaload, 1) := by decide +kernel
theorem dX11_store_20 : decode cX11_store 20 = .ok (.ifCond .ne 14, 3) := by decide +kernel
theorem dX11_store_23 : decode cX11_store 23 = .ok (.iload_n 2, 1) := by decide +kernel
theorem dX11_store_24 : decode cX11_store 24 = .ok (.ifCond .lt 10, 3) := by decide +kernel
theorem dX11_store_27 : decode cX11_store 27 = .ok (.iload_n 2, 1) := by decide +kernel
theorem dX11_store_28 : decode cX11_store 28 = .ok (.sipush 9999, 3) := by decide +kernel
theorem dX11_store_31 : decode cX11_store 31 = .ok (.if_icmp .le 5, 3) := by decide +kernel
theorem dX11_store_34 : decode cX11_store 34 = .ok (.iconst 0, 1) := by decide +kernel
theorem dX11_store_35 : decode cX11_store 35 = .ok (.ireturn, 1) := by decide +kernel
theorem dX11_store_36 : decode cX11_store 36 = .ok (.aload_n 0, 1) := by decide +kernel
theorem dX11_store_37 : decode cX11_store 37 = .ok (.getfield 21, 3) := by decide +kernel
theorem dX11_store_40 : decode cX11_store 40 = .ok (.getfield 267, 3) := by decide +kernel
theorem dX11_store_43 : decode cX11_store 43 = .ok (.iload_n 1, 1) := by decide +kernel
theorem dX11_store_44 : decode cX11_store 44 = .ok (.iload_n 2, 1) := by decide +kernel
theorem dX11_store_45 : decode cX11_store 45 = .ok (.iastore, 1) := by decide +kernel
theorem dX11_store_46 : decode cX11_store 46 = .ok (.iconst 1, 1) := by decide +kernel
theorem dX11_store_47 : decode cX11_store 47 = .ok (.ireturn, 1) := by decide +kernel
theorem dX11_supply_0 : decode cX11_supply 0 = .ok (.iload_n 1, 1) := by decide +kernel
theorem dX11_supply_1 : decode cX11_supply 1 = .ok (.iconst 1, 1) := by decide +kernel
theorem dX11_supply_2 : decode cX11_supply 2 = .ok (.if_icmp .lt 9, 3) := by decide +kernel
theorem dX11_supply_5 : decode cX11_supply 5 = .ok (.iload_n 1, 1) := by decide +kernel
theorem dX11_supply_6 : decode cX11_supply 6 = .ok (.bipush 99, 2) := by decide +kernel
theorem dX11_supply_8 : decode cX11_supply 8 = .ok (.if_icmp .le 5, 3) := by decide +kernel
theorem dX11_supply_11 : decode cX11_supply 11 = .ok (.iconst (-1), 1) := by decide +kernel
theorem dX11_supply_12 : decode cX11_supply 12 = .ok (.ireturn, 1) := by decide +kernel
theorem dX11_supply_13 : decode cX11_supply 13 = .ok (.aload_n 0, 1) := by decide +kernel
theorem dX11_supply_14 : decode cX11_supply 14 = .ok (.getfield 92, 3) := by decide +kernel
theorem dX11_supply_17 : decode cX11_supply 17 = .ok (.invokevirtual 270, 3) := by decide +kernel
theorem dX11_supply_20 : decode cX11_supply 20 = .ok (.aload_n 0, 1) := by decide +kernel
theorem dX11_supply_21 : decode cX11_supply 21 = .ok (.getfield 92, 3) := by decide +kernel
theorem dX11_supply_24 : decode cX11_supply 24 = .ok (.iload_n 1, 1) := by decide +kernel
theorem dX11_supply_25 : decode cX11_supply 25 = .ok (.invokevirtual 273, 3) := by decide +kernel
theorem dX11_supply_28 : decode cX11_supply 28 = .ok (.ireturn, 1) := by decide +kernel
theorem dX11_supplied_0 : decode cX11_supplied 0 = .ok (.aload_n 0, 1) := by decide +kernel
theorem dX11_supplied_1 : decode cX11_supplied 1 = .ok (.getfield 92, 3) := by decide +kernel
theorem dX11_supplied_4 : decode cX11_supplied 4 = .ok (.iload_n 1, 1) := by decide +kernel
theorem dX11_supplied_5 : decode cX11_supplied 5 = .ok (.iload_n 2, 1) := by decide +kernel
theorem dX11_supplied_6 : decode cX11_supplied 6 = .ok (.invokevirtual 276, 3) := by decide +kernel
theorem dX11_supplied_9 : decode cX11_supplied 9 = .ok (.ireturn, 1) := by decide +kernel
theorem dX11_look_0 : decode cX11_look 0 = .ok (.aload_n 0, 1) := by decide +kernel
theorem dX11_look_1 : decode cX11_look 1 = .ok (.getfield 21, 3) := by decide +kernel
theorem dX11_look_4 : decode cX11_look 4 = .ok (.iload_n 1, 1) := by decide +kernel
theorem dX11_look_5 : decode cX11_look 5 = .ok (.invokevirtual 157, 3) := by decide +kernel
theorem dX11_look_8 : decode cX11_look 8 = .ok (.ifCond .eq 15, 3) := by decide +kernel
theorem dX11_look_11 : decode cX11_look 11 = .ok (.aload_n 0, 1) := by decide +kernel
theorem dX11_look_12 : decode cX11_look 12 = .ok (.getfield 21, 3) := by decide +kernel
theorem dX11_look_15 : decode cX11_look 15 = .ok (.iload_n 1, 1) := by decide +kernel
theorem dX11_look_16 : decode cX11_look 16 = .ok (.iload_n 2, 1) := by decide +kernel
theorem dX11_look_17 : decode cX11_look 17 = .ok (.invokevirtual 279, 3) := by decide +kernel
theorem dX11_look_20 : decode cX11_look 20 = .ok (.goto 4, 3) := by decide +kernel
theorem dX11_look_23 : decode cX11_look 23 = .ok (.iconst (-1), 1) := by decide +kernel
theorem dX11_look_24 : decode cX11_look 24 = .ok (.ireturn, 1) := by decide +kernel
theorem dX11_count_0 : decode cX11_count 0 = .ok (.iload_n 1, 1) := by decide +kernel
theorem dX11_count_1 : decode cX11_count 1 = .ok (.tableswitch 111 0 7 #[47, 55, 63, 71, 79, 87, 95, 103], 47) := by decide +kernel
theorem dX11_count_48 : decode cX11_count 48 = .ok (.aload_n 0, 1) := by decide +kernel
theorem dX11_count_49 : decode cX11_count 49 = .ok (.getfield 10, 3) := by decide +kernel
theorem dX11_count_52 : decode cX11_count 52 = .ok (.getfield 282, 3) := by decide +kernel
theorem dX11_count_55 : decode cX11_count 55 = .ok (.ireturn, 1) := by decide +kernel
theorem dX11_count_56 : decode cX11_count 56 = .ok (.aload_n 0, 1) := by decide +kernel
theorem dX11_count_57 : decode cX11_count 57 = .ok (.getfield 10, 3) := by decide +kernel
theorem dX11_count_60 : decode cX11_count 60 = .ok (.getfield 285, 3) := by decide +kernel
theorem dX11_count_63 : decode cX11_count 63 = .ok (.ireturn, 1) := by decide +kernel
theorem dX11_count_64 : decode cX11_count 64 = .ok (.aload_n 0, 1) := by decide +kernel
theorem dX11_count_65 : decode cX11_count 65 = .ok (.getfield 21, 3) := by decide +kernel
theorem dX11_count_68 : decode cX11_count 68 = .ok (.getfield 100, 3) := by decide +kernel
theorem dX11_count_71 : decode cX11_count 71 = .ok (.ireturn, 1) := by decide +kernel
theorem dX11_count_72 : decode cX11_count 72 = .ok (.aload_n 0, 1) := by decide +kernel
theorem dX11_count_73 : decode cX11_count 73 = .ok (.getfield 37, 3) := by decide +kernel
theorem dX11_count_76 : decode cX11_count 76 = .ok (.getfield 165, 3) := by decide +kernel
theorem dX11_count_79 : decode cX11_count 79 = .ok (.ireturn, 1) := by decide +kernel
theorem dX11_count_80 : decode cX11_count 80 = .ok (.aload_n 0, 1) := by decide +kernel
theorem dX11_count_81 : decode cX11_count 81 = .ok (.getfield 76, 3) := by decide +kernel
theorem dX11_count_84 : decode cX11_count 84 = .ok (.getfield 235, 3) := by decide +kernel
theorem dX11_count_87 : decode cX11_count 87 = .ok (.ireturn, 1) := by decide +kernel
theorem dX11_count_88 : decode cX11_count 88 = .ok (.aload_n 0, 1) := by decide +kernel
theorem dX11_count_89 : decode cX11_count 89 = .ok (.getfield 76, 3) := by decide +kernel
theorem dX11_count_92 : decode cX11_count 92 = .ok (.getfield 288, 3) := by decide +kernel
theorem dX11_count_95 : decode cX11_count 95 = .ok (.ireturn, 1) := by decide +kernel
theorem dX11_count_96 : decode cX11_count 96 = .ok (.aload_n 0, 1) := by decide +kernel
theorem dX11_count_97 : decode cX11_count 97 = .ok (.getfield 76, 3) := by decide +kernel
theorem dX11_count_100 : decode cX11_count 100 = .ok (.getfield 290, 3) := by decide +kernel
theorem dX11_count_103 : decode cX11_count 103 = .ok (.ireturn, 1) := by decide +kernel
theorem dX11_count_104 : decode cX11_count 104 = .ok (.aload_n 0, 1) := by decide +kernel
theorem dX11_count_105 : decode cX11_count 105 = .ok (.getfield 76, 3) := by decide +kernel
theorem dX11_count_108 : decode cX11_count 108 = .ok (.getfield 293, 3) := by decide +kernel
theorem dX11_count_111 : decode cX11_count 111 = .ok (.ireturn, 1) := by decide +kernel
theorem dX11_count_112 : decode cX11_count 112 = .ok (.iconst (-1), 1) := by decide +kernel
theorem dX11_count_113 : decode cX11_count 113 = .ok (.ireturn, 1) := by decide +kernel
theorem dX11_isSeason_0 : decode cX11_isSeason 0 = .ok (.iload_n 0, 1) := by decide +kernel
theorem dX11_isSeason_1 : decode cX11_isSeason 1 = .ok (.ifCond .lt 22, 3) := by decide +kernel
theorem dX11_isSeason_4 : decode cX11_isSeason 4 = .ok (.iload_n 0, 1) := by decide +kernel
theorem dX11_isSeason_5 : decode cX11_isSeason 5 = .ok (.bipush 12, 2) := by decide +kernel
theorem dX11_isSeason_7 : decode cX11_isSeason 7 = .ok (.if_icmp .ge 16, 3) := by decide +kernel
theorem dX11_isSeason_10 : decode cX11_isSeason 10 = .ok (.iload_n 1, 1) := by decide +kernel
theorem dX11_isSeason_11 : decode cX11_isSeason 11 = .ok (.ifCond .lt 12, 3) := by decide +kernel
theorem dX11_isSeason_14 : decode cX11_isSeason 14 = .ok (.iload_n 1, 1) := by decide +kernel
theorem dX11_isSeason_15 : decode cX11_isSeason 15 = .ok (.iconst 2, 1) := by decide +kernel
theorem dX11_isSeason_16 : decode cX11_isSeason 16 = .ok (.if_icmp .ge 7, 3) := by decide +kernel
theorem dX11_isSeason_19 : decode cX11_isSeason 19 = .ok (.iconst 1, 1) := by decide +kernel
theorem dX11_isSeason_20 : decode cX11_isSeason 20 = .ok (.goto 4, 3) := by decide +kernel
theorem dX11_isSeason_23 : decode cX11_isSeason 23 = .ok (.iconst 0, 1) := by decide +kernel
theorem dX11_isSeason_24 : decode cX11_isSeason 24 = .ok (.ireturn, 1) := by decide +kernel
theorem dX11_isYear_0 : decode cX11_isYear 0 = .ok (.iload_n 0, 1) := by decide +kernel
theorem dX11_isYear_1 : decode cX11_isYear 1 = .ok (.ifCond .lt 14, 3) := by decide +kernel
theorem dX11_isYear_4 : decode cX11_isYear 4 = .ok (.iload_n 0, 1) := by decide +kernel
theorem dX11_isYear_5 : decode cX11_isYear 5 = .ok (.sipush 500, 3) := by decide +kernel
theorem dX11_isYear_8 : decode cX11_isYear 8 = .ok (.if_icmp .gt 7, 3) := by decide +kernel
theorem dX11_isYear_11 : decode cX11_isYear 11 = .ok (.iconst 1, 1) := by decide +kernel
theorem dX11_isYear_12 : decode cX11_isYear 12 = .ok (.goto 4, 3) := by decide +kernel
theorem dX11_isYear_15 : decode cX11_isYear 15 = .ok (.iconst 0, 1) := by decide +kernel
theorem dX11_isYear_16 : decode cX11_isYear 16 = .ok (.ireturn, 1) := by decide +kernel
theorem dX11_isLine_0 : decode cX11_isLine 0 = .ok (.iload_n 0, 1) := by decide +kernel
theorem dX11_isLine_1 : decode cX11_isLine 1 = .ok (.iload_n 1, 1) := by decide +kernel
theorem dX11_isLine_2 : decode cX11_isLine 2 = .ok (.invokestatic 138, 3) := by decide +kernel
theorem dX11_isLine_5 : decode cX11_isLine 5 = .ok (.ifCond .eq 24, 3) := by decide +kernel
theorem dX11_isLine_8 : decode cX11_isLine 8 = .ok (.iload_n 2, 1) := by decide +kernel
theorem dX11_isLine_9 : decode cX11_isLine 9 = .ok (.invokestatic 160, 3) := by decide +kernel
theorem dX11_isLine_12 : decode cX11_isLine 12 = .ok (.ifCond .eq 17, 3) := by decide +kernel
theorem dX11_isLine_15 : decode cX11_isLine 15 = .ok (.iload_n 3, 1) := by decide +kernel
theorem dX11_isLine_16 : decode cX11_isLine 16 = .ok (.iconst 1, 1) := by decide +kernel
theorem dX11_isLine_17 : decode cX11_isLine 17 = .ok (.if_icmp .eq 8, 3) := by decide +kernel
theorem dX11_isLine_20 : decode cX11_isLine 20 = .ok (.iload_n 3, 1) := by decide +kernel
theorem dX11_isLine_21 : decode cX11_isLine 21 = .ok (.iconst 2, 1) := by decide +kernel
theorem dX11_isLine_22 : decode cX11_isLine 22 = .ok (.if_icmp .ne 7, 3) := by decide +kernel
theorem dX11_isLine_25 : decode cX11_isLine 25 = .ok (.iconst 1, 1) := by decide +kernel
theorem dX11_isLine_26 : decode cX11_isLine 26 = .ok (.goto 4, 3) := by decide +kernel
theorem dX11_isLine_29 : decode cX11_isLine 29 = .ok (.iconst 0, 1) := by decide +kernel
theorem dX11_isLine_30 : decode cX11_isLine 30 = .ok (.ireturn, 1) := by decide +kernel
theorem dJ0_length_8abf5_0 : decode cJ0_length_8abf5 0 = .ok (.aload_n 0, 1) := by decide +kernel
theorem dJ0_length_8abf5_1 : decode cJ0_length_8abf5 1 = .ok (.getfield 9, 3) := by decide +kernel
theorem dJ0_length_8abf5_4 : decode cJ0_length_8abf5 4 = .ok (.arraylength, 1) := by decide +kernel
theorem dJ0_length_8abf5_5 : decode cJ0_length_8abf5 5 = .ok (.aload_n 0, 1) := by decide +kernel
theorem dJ0_length_8abf5_6 : decode cJ0_length_8abf5 6 = .ok (.invokevirtual 335, 3) := by decide +kernel
theorem dJ0_length_8abf5_9 : decode cJ0_length_8abf5 9 = .ok (.ishr, 1) := by decide +kernel
theorem dJ0_length_8abf5_10 : decode cJ0_length_8abf5 10 = .ok (.ireturn, 1) := by decide +kernel
theorem dJ0_charAt_5068e_0 : decode cJ0_charAt_5068e 0 = .ok (.aload_n 0, 1) := by decide +kernel
theorem dJ0_charAt_5068e_1 : decode cJ0_charAt_5068e 1 = .ok (.invokevirtual 492, 3) := by decide +kernel
theorem dJ0_charAt_5068e_4 : decode cJ0_charAt_5068e 4 = .ok (.ifCond .eq 12, 3) := by decide +kernel
theorem dJ0_charAt_5068e_7 : decode cJ0_charAt_5068e 7 = .ok (.aload_n 0, 1) := by decide +kernel
theorem dJ0_charAt_5068e_8 : decode cJ0_charAt_5068e 8 = .ok (.getfield 9, 3) := by decide +kernel
theorem dJ0_charAt_5068e_11 : decode cJ0_charAt_5068e 11 = .ok (.iload_n 1, 1) := by decide +kernel
theorem dJ0_charAt_5068e_12 : decode cJ0_charAt_5068e 12 = .ok (.invokestatic 495, 3) := by decide +kernel
theorem dJ0_charAt_5068e_15 : decode cJ0_charAt_5068e 15 = .ok (.ireturn, 1) := by decide +kernel
theorem dJ0_charAt_5068e_16 : decode cJ0_charAt_5068e 16 = .ok (.aload_n 0, 1) := by decide +kernel
theorem dJ0_charAt_5068e_17 : decode cJ0_charAt_5068e 17 = .ok (.getfield 9, 3) := by decide +kernel
theorem dJ0_charAt_5068e_20 : decode cJ0_charAt_5068e 20 = .ok (.iload_n 1, 1) := by decide +kernel
theorem dJ0_charAt_5068e_21 : decode cJ0_charAt_5068e 21 = .ok (.invokestatic 498, 3) := by decide +kernel
theorem dJ0_charAt_5068e_24 : decode cJ0_charAt_5068e 24 = .ok (.ireturn, 1) := by decide +kernel
theorem dJ0_coder_7d493_0 : decode cJ0_coder_7d493 0 = .ok (.getstatic 38, 3) := by decide +kernel
theorem dJ0_coder_7d493_3 : decode cJ0_coder_7d493 3 = .ok (.ifCond .eq 10, 3) := by decide +kernel
theorem dJ0_coder_7d493_6 : decode cJ0_coder_7d493 6 = .ok (.aload_n 0, 1) := by decide +kernel
theorem dJ0_coder_7d493_7 : decode cJ0_coder_7d493 7 = .ok (.getfield 15, 3) := by decide +kernel
theorem dJ0_coder_7d493_10 : decode cJ0_coder_7d493 10 = .ok (.goto 4, 3) := by decide +kernel
theorem dJ0_coder_7d493_13 : decode cJ0_coder_7d493 13 = .ok (.iconst 1, 1) := by decide +kernel
theorem dJ0_coder_7d493_14 : decode cJ0_coder_7d493 14 = .ok (.ireturn, 1) := by decide +kernel
theorem dJ0_isLatin1_aae02_0 : decode cJ0_isLatin1_aae02 0 = .ok (.getstatic 38, 3) := by decide +kernel
theorem dJ0_isLatin1_aae02_3 : decode cJ0_isLatin1_aae02 3 = .ok (.ifCond .eq 14, 3) := by decide +kernel
theorem dJ0_isLatin1_aae02_6 : decode cJ0_isLatin1_aae02 6 = .ok (.aload_n 0, 1) := by decide +kernel
theorem dJ0_isLatin1_aae02_7 : decode cJ0_isLatin1_aae02 7 = .ok (.getfield 15, 3) := by decide +kernel
theorem dJ0_isLatin1_aae02_10 : decode cJ0_isLatin1_aae02 10 = .ok (.ifCond .ne 7, 3) := by decide +kernel
theorem dJ0_isLatin1_aae02_13 : decode cJ0_isLatin1_aae02 13 = .ok (.iconst 1, 1) := by decide +kernel
theorem dJ0_isLatin1_aae02_14 : decode cJ0_isLatin1_aae02 14 = .ok (.goto 4, 3) := by decide +kernel
theorem dJ0_isLatin1_aae02_17 : decode cJ0_isLatin1_aae02 17 = .ok (.iconst 0, 1) := by decide +kernel
theorem dJ0_isLatin1_aae02_18 : decode cJ0_isLatin1_aae02 18 = .ok (.ireturn, 1) := by decide +kernel
theorem dJ0_checkIndex_df160_0 : decode cJ0_checkIndex_df160 0 = .ok (.iload_n 0, 1) := by decide +kernel
theorem dJ0_checkIndex_df160_1 : decode cJ0_checkIndex_df160 1 = .ok (.iload_n 1, 1) := by decide +kernel
theorem dJ0_checkIndex_df160_2 : decode cJ0_checkIndex_df160 2 = .ok (.getstatic 1053, 3) := by decide +kernel
theorem dJ0_checkIndex_df160_5 : decode cJ0_checkIndex_df160 5 = .ok (.invokestatic 1059, 3) := by decide +kernel
theorem dJ0_checkIndex_df160_8 : decode cJ0_checkIndex_df160 8 = .ok (.pop, 1) := by decide +kernel
theorem dJ0_checkIndex_df160_9 : decode cJ0_checkIndex_df160 9 = .ok (.return_, 1) := by decide +kernel
theorem dJ1_charAt_3b067_0 : decode cJ1_charAt_3b067 0 = .ok (.iload_n 1, 1) := by decide +kernel
theorem dJ1_charAt_3b067_1 : decode cJ1_charAt_3b067 1 = .ok (.aload_n 0, 1) := by decide +kernel
theorem dJ1_charAt_3b067_2 : decode cJ1_charAt_3b067 2 = .ok (.arraylength, 1) := by decide +kernel
theorem dJ1_charAt_3b067_3 : decode cJ1_charAt_3b067 3 = .ok (.invokestatic 9, 3) := by decide +kernel
theorem dJ1_charAt_3b067_6 : decode cJ1_charAt_3b067 6 = .ok (.aload_n 0, 1) := by decide +kernel
theorem dJ1_charAt_3b067_7 : decode cJ1_charAt_3b067 7 = .ok (.iload_n 1, 1) := by decide +kernel
theorem dJ1_charAt_3b067_8 : decode cJ1_charAt_3b067 8 = .ok (.baload, 1) := by decide +kernel
theorem dJ1_charAt_3b067_9 : decode cJ1_charAt_3b067 9 = .ok (.sipush 255, 3) := by decide +kernel
theorem dJ1_charAt_3b067_12 : decode cJ1_charAt_3b067 12 = .ok (.iand, 1) := by decide +kernel
theorem dJ1_charAt_3b067_13 : decode cJ1_charAt_3b067 13 = .ok (.i2c, 1) := by decide +kernel
theorem dJ1_charAt_3b067_14 : decode cJ1_charAt_3b067 14 = .ok (.ireturn, 1) := by decide +kernel
theorem dJ2_getChar_3b067_0 : decode cJ2_getChar_3b067 0 = .ok (.getstatic 44, 3) := by decide +kernel
theorem dJ2_getChar_3b067_3 : decode cJ2_getChar_3b067 3 = .ok (.ifCond .ne 25, 3) := by decide +kernel
theorem dJ2_getChar_3b067_6 : decode cJ2_getChar_3b067 6 = .ok (.iload_n 1, 1) := by decide +kernel
theorem dJ2_getChar_3b067_7 : decode cJ2_getChar_3b067 7 = .ok (.ifCond .lt 11, 3) := by decide +kernel
theorem dJ2_getChar_3b067_10 : decode cJ2_getChar_3b067 10 = .ok (.iload_n 1, 1) := by decide +kernel
theorem dJ2_getChar_3b067_11 : decode cJ2_getChar_3b067 11 = .ok (.aload_n 0, 1) := by decide +kernel
theorem dJ2_getChar_3b067_12 : decode cJ2_getChar_3b067 12 = .ok (.invokestatic 48, 3) := by decide +kernel
theorem dJ2_getChar_3b067_15 : decode cJ2_getChar_3b067 15 = .ok (.if_icmp .lt 13, 3) := by decide +kernel
theorem dJ2_getChar_3b067_18 : decode cJ2_getChar_3b067 18 = .ok (.new 52, 3) := by decide +kernel
theorem dJ2_getChar_3b067_21 : decode cJ2_getChar_3b067 21 = .ok (.dup, 1) := by decide +kernel
theorem dJ2_getChar_3b067_22 : decode cJ2_getChar_3b067 22 = .ok (.ldc 54, 2) := by decide +kernel
theorem dJ2_getChar_3b067_24 : decode cJ2_getChar_3b067 24 = .ok (.invokespecial 56, 3) := by decide +kernel
theorem dJ2_getChar_3b067_27 : decode cJ2_getChar_3b067 27 = .ok (.athrow, 1) := by decide +kernel
theorem dJ2_getChar_3b067_28 : decode cJ2_getChar_3b067 28 = .ok (.iload_n 1, 1) := by decide +kernel
theorem dJ2_getChar_3b067_29 : decode cJ2_getChar_3b067 29 = .ok (.iconst 1, 1) := by decide +kernel
theorem dJ2_getChar_3b067_30 : decode cJ2_getChar_3b067 30 = .ok (.ishl, 1) := by decide +kernel
theorem dJ2_getChar_3b067_31 : decode cJ2_getChar_3b067 31 = .ok (.istore_n 1, 1) := by decide +kernel
theorem dJ2_getChar_3b067_32 : decode cJ2_getChar_3b067 32 = .ok (.aload_n 0, 1) := by decide +kernel
theorem dJ2_getChar_3b067_33 : decode cJ2_getChar_3b067 33 = .ok (.iload_n 1, 1) := by decide +kernel
theorem dJ2_getChar_3b067_34 : decode cJ2_getChar_3b067 34 = .ok (.iinc 1 1, 3) := by decide +kernel
theorem dJ2_getChar_3b067_37 : decode cJ2_getChar_3b067 37 = .ok (.baload, 1) := by decide +kernel
theorem dJ2_getChar_3b067_38 : decode cJ2_getChar_3b067 38 = .ok (.sipush 255, 3) := by decide +kernel
theorem dJ2_getChar_3b067_41 : decode cJ2_getChar_3b067 41 = .ok (.iand, 1) := by decide +kernel
theorem dJ2_getChar_3b067_42 : decode cJ2_getChar_3b067 42 = .ok (.getstatic 59, 3) := by decide +kernel
theorem dJ2_getChar_3b067_45 : decode cJ2_getChar_3b067 45 = .ok (.ishl, 1) := by decide +kernel
theorem dJ2_getChar_3b067_46 : decode cJ2_getChar_3b067 46 = .ok (.aload_n 0, 1) := by decide +kernel
theorem dJ2_getChar_3b067_47 : decode cJ2_getChar_3b067 47 = .ok (.iload_n 1, 1) := by decide +kernel
theorem dJ2_getChar_3b067_48 : decode cJ2_getChar_3b067 48 = .ok (.baload, 1) := by decide +kernel
theorem dJ2_getChar_3b067_49 : decode cJ2_getChar_3b067 49 = .ok (.sipush 255, 3) := by decide +kernel
theorem dJ2_getChar_3b067_52 : decode cJ2_getChar_3b067 52 = .ok (.iand, 1) := by decide +kernel
theorem dJ2_getChar_3b067_53 : decode cJ2_getChar_3b067 53 = .ok (.getstatic 63, 3) := by decide +kernel
theorem dJ2_getChar_3b067_56 : decode cJ2_getChar_3b067 56 = .ok (.ishl, 1) := by decide +kernel
theorem dJ2_getChar_3b067_57 : decode cJ2_getChar_3b067 57 = .ok (.ior, 1) := by decide +kernel
theorem dJ2_getChar_3b067_58 : decode cJ2_getChar_3b067 58 = .ok (.i2c, 1) := by decide +kernel
theorem dJ2_getChar_3b067_59 : decode cJ2_getChar_3b067 59 = .ok (.ireturn, 1) := by decide +kernel
theorem dJ2_length_9d52b_0 : decode cJ2_length_9d52b 0 = .ok (.aload_n 0, 1) := by decide +kernel
theorem dJ2_length_9d52b_1 : decode cJ2_length_9d52b 1 = .ok (.arraylength, 1) := by decide +kernel
theorem dJ2_length_9d52b_2 : decode cJ2_length_9d52b 2 = .ok (.iconst 1, 1) := by decide +kernel
theorem dJ2_length_9d52b_3 : decode cJ2_length_9d52b 3 = .ok (.ishr, 1) := by decide +kernel
theorem dJ2_length_9d52b_4 : decode cJ2_length_9d52b 4 = .ok (.ireturn, 1) := by decide +kernel
theorem dJ2_charAt_3b067_0 : decode cJ2_charAt_3b067 0 = .ok (.iload_n 1, 1) := by decide +kernel
theorem dJ2_charAt_3b067_1 : decode cJ2_charAt_3b067 1 = .ok (.aload_n 0, 1) := by decide +kernel
theorem dJ2_charAt_3b067_2 : decode cJ2_charAt_3b067 2 = .ok (.invokestatic 67, 3) := by decide +kernel
theorem dJ2_charAt_3b067_5 : decode cJ2_charAt_3b067 5 = .ok (.aload_n 0, 1) := by decide +kernel
theorem dJ2_charAt_3b067_6 : decode cJ2_charAt_3b067 6 = .ok (.iload_n 1, 1) := by decide +kernel
theorem dJ2_charAt_3b067_7 : decode cJ2_charAt_3b067 7 = .ok (.invokestatic 71, 3) := by decide +kernel
theorem dJ2_charAt_3b067_10 : decode cJ2_charAt_3b067 10 = .ok (.ireturn, 1) := by decide +kernel
theorem dJ2_checkIndex_2214a_0 : decode cJ2_checkIndex_2214a 0 = .ok (.iload_n 0, 1) := by decide +kernel
theorem dJ2_checkIndex_2214a_1 : decode cJ2_checkIndex_2214a 1 = .ok (.aload_n 1, 1) := by decide +kernel
theorem dJ2_checkIndex_2214a_2 : decode cJ2_checkIndex_2214a 2 = .ok (.invokestatic 48, 3) := by decide +kernel
theorem dJ2_checkIndex_2214a_5 : decode cJ2_checkIndex_2214a 5 = .ok (.invokestatic 414, 3) := by decide +kernel
theorem dJ2_checkIndex_2214a_8 : decode cJ2_checkIndex_2214a 8 = .ok (.return_, 1) := by decide +kernel
theorem dJ3_checkIndex_8e157_0 : decode cJ3_checkIndex_8e157 0 = .ok (.iload_n 0, 1) := by decide +kernel
theorem dJ3_checkIndex_8e157_1 : decode cJ3_checkIndex_8e157 1 = .ok (.ifCond .lt 8, 3) := by decide +kernel
theorem dJ3_checkIndex_8e157_4 : decode cJ3_checkIndex_8e157 4 = .ok (.iload_n 0, 1) := by decide +kernel
theorem dJ3_checkIndex_8e157_5 : decode cJ3_checkIndex_8e157 5 = .ok (.iload_n 1, 1) := by decide +kernel
theorem dJ3_checkIndex_8e157_6 : decode cJ3_checkIndex_8e157 6 = .ok (.if_icmp .lt 10, 3) := by decide +kernel
theorem dJ3_checkIndex_8e157_9 : decode cJ3_checkIndex_8e157 9 = .ok (.aload_n 2, 1) := by decide +kernel
theorem dJ3_checkIndex_8e157_10 : decode cJ3_checkIndex_8e157 10 = .ok (.iload_n 0, 1) := by decide +kernel
theorem dJ3_checkIndex_8e157_11 : decode cJ3_checkIndex_8e157 11 = .ok (.iload_n 1, 1) := by decide +kernel
theorem dJ3_checkIndex_8e157_12 : decode cJ3_checkIndex_8e157 12 = .ok (.invokestatic 95, 3) := by decide +kernel
theorem dJ3_checkIndex_8e157_15 : decode cJ3_checkIndex_8e157 15 = .ok (.athrow, 1) := by decide +kernel
theorem dJ3_checkIndex_8e157_16 : decode cJ3_checkIndex_8e157 16 = .ok (.iload_n 0, 1) := by decide +kernel
theorem dJ3_checkIndex_8e157_17 : decode cJ3_checkIndex_8e157 17 = .ok (.ireturn, 1) := by decide +kernel
theorem dJ6_numberOfTrailingZeros_0f7a4_0 : decode cJ6_numberOfTrailingZeros_0f7a4 0 = .ok (.iload_n 0, 1) := by decide +kernel
theorem dJ6_numberOfTrailingZeros_0f7a4_1 : decode cJ6_numberOfTrailingZeros_0f7a4 1 = .ok (.iconst (-1), 1) := by decide +kernel
theorem dJ6_numberOfTrailingZeros_0f7a4_2 : decode cJ6_numberOfTrailingZeros_0f7a4 2 = .ok (.ixor, 1) := by decide +kernel
theorem dJ6_numberOfTrailingZeros_0f7a4_3 : decode cJ6_numberOfTrailingZeros_0f7a4 3 = .ok (.iload_n 0, 1) := by decide +kernel
theorem dJ6_numberOfTrailingZeros_0f7a4_4 : decode cJ6_numberOfTrailingZeros_0f7a4 4 = .ok (.iconst 1, 1) := by decide +kernel
theorem dJ6_numberOfTrailingZeros_0f7a4_5 : decode cJ6_numberOfTrailingZeros_0f7a4 5 = .ok (.isub, 1) := by decide +kernel
theorem dJ6_numberOfTrailingZeros_0f7a4_6 : decode cJ6_numberOfTrailingZeros_0f7a4 6 = .ok (.iand, 1) := by decide +kernel
theorem dJ6_numberOfTrailingZeros_0f7a4_7 : decode cJ6_numberOfTrailingZeros_0f7a4 7 = .ok (.istore_n 0, 1) := by decide +kernel
theorem dJ6_numberOfTrailingZeros_0f7a4_8 : decode cJ6_numberOfTrailingZeros_0f7a4 8 = .ok (.iload_n 0, 1) := by decide +kernel
theorem dJ6_numberOfTrailingZeros_0f7a4_9 : decode cJ6_numberOfTrailingZeros_0f7a4 9 = .ok (.ifCond .gt 8, 3) := by decide +kernel
theorem dJ6_numberOfTrailingZeros_0f7a4_12 : decode cJ6_numberOfTrailingZeros_0f7a4 12 = .ok (.iload_n 0, 1) := by decide +kernel
theorem dJ6_numberOfTrailingZeros_0f7a4_13 : decode cJ6_numberOfTrailingZeros_0f7a4 13 = .ok (.bipush 32, 2) := by decide +kernel
theorem dJ6_numberOfTrailingZeros_0f7a4_15 : decode cJ6_numberOfTrailingZeros_0f7a4 15 = .ok (.iand, 1) := by decide +kernel
theorem dJ6_numberOfTrailingZeros_0f7a4_16 : decode cJ6_numberOfTrailingZeros_0f7a4 16 = .ok (.ireturn, 1) := by decide +kernel
theorem dJ6_numberOfTrailingZeros_0f7a4_17 : decode cJ6_numberOfTrailingZeros_0f7a4 17 = .ok (.iconst 1, 1) := by decide +kernel
theorem dJ6_numberOfTrailingZeros_0f7a4_18 : decode cJ6_numberOfTrailingZeros_0f7a4 18 = .ok (.istore_n 1, 1) := by decide +kernel
theorem dJ6_numberOfTrailingZeros_0f7a4_19 : decode cJ6_numberOfTrailingZeros_0f7a4 19 = .ok (.iload_n 0, 1) := by decide +kernel
theorem dJ6_numberOfTrailingZeros_0f7a4_20 : decode cJ6_numberOfTrailingZeros_0f7a4 20 = .ok (.ldc_w 264, 3) := by decide +kernel
theorem dJ6_numberOfTrailingZeros_0f7a4_23 : decode cJ6_numberOfTrailingZeros_0f7a4 23 = .ok (.if_icmp .le 11, 3) := by decide +kernel
theorem dJ6_numberOfTrailingZeros_0f7a4_26 : decode cJ6_numberOfTrailingZeros_0f7a4 26 = .ok (.iinc 1 16, 3) := by decide +kernel
theorem dJ6_numberOfTrailingZeros_0f7a4_29 : decode cJ6_numberOfTrailingZeros_0f7a4 29 = .ok (.iload_n 0, 1) := by decide +kernel
theorem dJ6_numberOfTrailingZeros_0f7a4_30 : decode cJ6_numberOfTrailingZeros_0f7a4 30 = .ok (.bipush 16, 2) := by decide +kernel
theorem dJ6_numberOfTrailingZeros_0f7a4_32 : decode cJ6_numberOfTrailingZeros_0f7a4 32 = .ok (.iushr, 1) := by decide +kernel
theorem dJ6_numberOfTrailingZeros_0f7a4_33 : decode cJ6_numberOfTrailingZeros_0f7a4 33 = .ok (.istore_n 0, 1) := by decide +kernel
theorem dJ6_numberOfTrailingZeros_0f7a4_34 : decode cJ6_numberOfTrailingZeros_0f7a4 34 = .ok (.iload_n 0, 1) := by decide +kernel
theorem dJ6_numberOfTrailingZeros_0f7a4_35 : decode cJ6_numberOfTrailingZeros_0f7a4 35 = .ok (.sipush 256, 3) := by decide +kernel
theorem dJ6_numberOfTrailingZeros_0f7a4_38 : decode cJ6_numberOfTrailingZeros_0f7a4 38 = .ok (.if_icmp .le 11, 3) := by decide +kernel
theorem dJ6_numberOfTrailingZeros_0f7a4_41 : decode cJ6_numberOfTrailingZeros_0f7a4 41 = .ok (.iinc 1 8, 3) := by decide +kernel
theorem dJ6_numberOfTrailingZeros_0f7a4_44 : decode cJ6_numberOfTrailingZeros_0f7a4 44 = .ok (.iload_n 0, 1) := by decide +kernel
theorem dJ6_numberOfTrailingZeros_0f7a4_45 : decode cJ6_numberOfTrailingZeros_0f7a4 45 = .ok (.bipush 8, 2) := by decide +kernel
theorem dJ6_numberOfTrailingZeros_0f7a4_47 : decode cJ6_numberOfTrailingZeros_0f7a4 47 = .ok (.iushr, 1) := by decide +kernel
theorem dJ6_numberOfTrailingZeros_0f7a4_48 : decode cJ6_numberOfTrailingZeros_0f7a4 48 = .ok (.istore_n 0, 1) := by decide +kernel
theorem dJ6_numberOfTrailingZeros_0f7a4_49 : decode cJ6_numberOfTrailingZeros_0f7a4 49 = .ok (.iload_n 0, 1) := by decide +kernel
theorem dJ6_numberOfTrailingZeros_0f7a4_50 : decode cJ6_numberOfTrailingZeros_0f7a4 50 = .ok (.bipush 16, 2) := by decide +kernel
theorem dJ6_numberOfTrailingZeros_0f7a4_52 : decode cJ6_numberOfTrailingZeros_0f7a4 52 = .ok (.if_icmp .le 10, 3) := by decide +kernel
theorem dJ6_numberOfTrailingZeros_0f7a4_55 : decode cJ6_numberOfTrailingZeros_0f7a4 55 = .ok (.iinc 1 4, 3) := by decide +kernel
theorem dJ6_numberOfTrailingZeros_0f7a4_58 : decode cJ6_numberOfTrailingZeros_0f7a4 58 = .ok (.iload_n 0, 1) := by decide +kernel
theorem dJ6_numberOfTrailingZeros_0f7a4_59 : decode cJ6_numberOfTrailingZeros_0f7a4 59 = .ok (.iconst 4, 1) := by decide +kernel
theorem dJ6_numberOfTrailingZeros_0f7a4_60 : decode cJ6_numberOfTrailingZeros_0f7a4 60 = .ok (.iushr, 1) := by decide +kernel
theorem dJ6_numberOfTrailingZeros_0f7a4_61 : decode cJ6_numberOfTrailingZeros_0f7a4 61 = .ok (.istore_n 0, 1) := by decide +kernel
theorem dJ6_numberOfTrailingZeros_0f7a4_62 : decode cJ6_numberOfTrailingZeros_0f7a4 62 = .ok (.iload_n 0, 1) := by decide +kernel
theorem dJ6_numberOfTrailingZeros_0f7a4_63 : decode cJ6_numberOfTrailingZeros_0f7a4 63 = .ok (.iconst 4, 1) := by decide +kernel
theorem dJ6_numberOfTrailingZeros_0f7a4_64 : decode cJ6_numberOfTrailingZeros_0f7a4 64 = .ok (.if_icmp .le 10, 3) := by decide +kernel
theorem dJ6_numberOfTrailingZeros_0f7a4_67 : decode cJ6_numberOfTrailingZeros_0f7a4 67 = .ok (.iinc 1 2, 3) := by decide +kernel
theorem dJ6_numberOfTrailingZeros_0f7a4_70 : decode cJ6_numberOfTrailingZeros_0f7a4 70 = .ok (.iload_n 0, 1) := by decide +kernel
theorem dJ6_numberOfTrailingZeros_0f7a4_71 : decode cJ6_numberOfTrailingZeros_0f7a4 71 = .ok (.iconst 2, 1) := by decide +kernel
theorem dJ6_numberOfTrailingZeros_0f7a4_72 : decode cJ6_numberOfTrailingZeros_0f7a4 72 = .ok (.iushr, 1) := by decide +kernel
theorem dJ6_numberOfTrailingZeros_0f7a4_73 : decode cJ6_numberOfTrailingZeros_0f7a4 73 = .ok (.istore_n 0, 1) := by decide +kernel
theorem dJ6_numberOfTrailingZeros_0f7a4_74 : decode cJ6_numberOfTrailingZeros_0f7a4 74 = .ok (.iload_n 1, 1) := by decide +kernel
theorem dJ6_numberOfTrailingZeros_0f7a4_75 : decode cJ6_numberOfTrailingZeros_0f7a4 75 = .ok (.iload_n 0, 1) := by decide +kernel
theorem dJ6_numberOfTrailingZeros_0f7a4_76 : decode cJ6_numberOfTrailingZeros_0f7a4 76 = .ok (.iconst 1, 1) := by decide +kernel
theorem dJ6_numberOfTrailingZeros_0f7a4_77 : decode cJ6_numberOfTrailingZeros_0f7a4 77 = .ok (.iushr, 1) := by decide +kernel
theorem dJ6_numberOfTrailingZeros_0f7a4_78 : decode cJ6_numberOfTrailingZeros_0f7a4 78 = .ok (.iadd, 1) := by decide +kernel
theorem dJ6_numberOfTrailingZeros_0f7a4_79 : decode cJ6_numberOfTrailingZeros_0f7a4 79 = .ok (.ireturn, 1) := by decide +kernel
theorem dJ6_bitCount_0f7a4_0 : decode cJ6_bitCount_0f7a4 0 = .ok (.iload_n 0, 1) := by decide +kernel
theorem dJ6_bitCount_0f7a4_1 : decode cJ6_bitCount_0f7a4 1 = .ok (.iload_n 0, 1) := by decide +kernel
theorem dJ6_bitCount_0f7a4_2 : decode cJ6_bitCount_0f7a4 2 = .ok (.iconst 1, 1) := by decide +kernel
theorem dJ6_bitCount_0f7a4_3 : decode cJ6_bitCount_0f7a4 3 = .ok (.iushr, 1) := by decide +kernel
theorem dJ6_bitCount_0f7a4_4 : decode cJ6_bitCount_0f7a4 4 = .ok (.ldc_w 265, 3) := by decide +kernel
theorem dJ6_bitCount_0f7a4_7 : decode cJ6_bitCount_0f7a4 7 = .ok (.iand, 1) := by decide +kernel
theorem dJ6_bitCount_0f7a4_8 : decode cJ6_bitCount_0f7a4 8 = .ok (.isub, 1) := by decide +kernel
theorem dJ6_bitCount_0f7a4_9 : decode cJ6_bitCount_0f7a4 9 = .ok (.istore_n 0, 1) := by decide +kernel
theorem dJ6_bitCount_0f7a4_10 : decode cJ6_bitCount_0f7a4 10 = .ok (.iload_n 0, 1) := by decide +kernel
theorem dJ6_bitCount_0f7a4_11 : decode cJ6_bitCount_0f7a4 11 = .ok (.ldc_w 266, 3) := by decide +kernel
theorem dJ6_bitCount_0f7a4_14 : decode cJ6_bitCount_0f7a4 14 = .ok (.iand, 1) := by decide +kernel
theorem dJ6_bitCount_0f7a4_15 : decode cJ6_bitCount_0f7a4 15 = .ok (.iload_n 0, 1) := by decide +kernel
theorem dJ6_bitCount_0f7a4_16 : decode cJ6_bitCount_0f7a4 16 = .ok (.iconst 2, 1) := by decide +kernel
theorem dJ6_bitCount_0f7a4_17 : decode cJ6_bitCount_0f7a4 17 = .ok (.iushr, 1) := by decide +kernel
theorem dJ6_bitCount_0f7a4_18 : decode cJ6_bitCount_0f7a4 18 = .ok (.ldc_w 266, 3) := by decide +kernel
theorem dJ6_bitCount_0f7a4_21 : decode cJ6_bitCount_0f7a4 21 = .ok (.iand, 1) := by decide +kernel
theorem dJ6_bitCount_0f7a4_22 : decode cJ6_bitCount_0f7a4 22 = .ok (.iadd, 1) := by decide +kernel
theorem dJ6_bitCount_0f7a4_23 : decode cJ6_bitCount_0f7a4 23 = .ok (.istore_n 0, 1) := by decide +kernel
theorem dJ6_bitCount_0f7a4_24 : decode cJ6_bitCount_0f7a4 24 = .ok (.iload_n 0, 1) := by decide +kernel
theorem dJ6_bitCount_0f7a4_25 : decode cJ6_bitCount_0f7a4 25 = .ok (.iload_n 0, 1) := by decide +kernel
theorem dJ6_bitCount_0f7a4_26 : decode cJ6_bitCount_0f7a4 26 = .ok (.iconst 4, 1) := by decide +kernel
theorem dJ6_bitCount_0f7a4_27 : decode cJ6_bitCount_0f7a4 27 = .ok (.iushr, 1) := by decide +kernel
theorem dJ6_bitCount_0f7a4_28 : decode cJ6_bitCount_0f7a4 28 = .ok (.iadd, 1) := by decide +kernel
theorem dJ6_bitCount_0f7a4_29 : decode cJ6_bitCount_0f7a4 29 = .ok (.ldc_w 267, 3) := by decide +kernel
theorem dJ6_bitCount_0f7a4_32 : decode cJ6_bitCount_0f7a4 32 = .ok (.iand, 1) := by decide +kernel
theorem dJ6_bitCount_0f7a4_33 : decode cJ6_bitCount_0f7a4 33 = .ok (.istore_n 0, 1) := by decide +kernel
theorem dJ6_bitCount_0f7a4_34 : decode cJ6_bitCount_0f7a4 34 = .ok (.iload_n 0, 1) := by decide +kernel
theorem dJ6_bitCount_0f7a4_35 : decode cJ6_bitCount_0f7a4 35 = .ok (.iload_n 0, 1) := by decide +kernel
theorem dJ6_bitCount_0f7a4_36 : decode cJ6_bitCount_0f7a4 36 = .ok (.bipush 8, 2) := by decide +kernel
theorem dJ6_bitCount_0f7a4_38 : decode cJ6_bitCount_0f7a4 38 = .ok (.iushr, 1) := by decide +kernel
theorem dJ6_bitCount_0f7a4_39 : decode cJ6_bitCount_0f7a4 39 = .ok (.iadd, 1) := by decide +kernel
theorem dJ6_bitCount_0f7a4_40 : decode cJ6_bitCount_0f7a4 40 = .ok (.istore_n 0, 1) := by decide +kernel
theorem dJ6_bitCount_0f7a4_41 : decode cJ6_bitCount_0f7a4 41 = .ok (.iload_n 0, 1) := by decide +kernel
theorem dJ6_bitCount_0f7a4_42 : decode cJ6_bitCount_0f7a4 42 = .ok (.iload_n 0, 1) := by decide +kernel
theorem dJ6_bitCount_0f7a4_43 : decode cJ6_bitCount_0f7a4 43 = .ok (.bipush 16, 2) := by decide +kernel
theorem dJ6_bitCount_0f7a4_45 : decode cJ6_bitCount_0f7a4 45 = .ok (.iushr, 1) := by decide +kernel
theorem dJ6_bitCount_0f7a4_46 : decode cJ6_bitCount_0f7a4 46 = .ok (.iadd, 1) := by decide +kernel
theorem dJ6_bitCount_0f7a4_47 : decode cJ6_bitCount_0f7a4 47 = .ok (.istore_n 0, 1) := by decide +kernel
theorem dJ6_bitCount_0f7a4_48 : decode cJ6_bitCount_0f7a4 48 = .ok (.iload_n 0, 1) := by decide +kernel
theorem dJ6_bitCount_0f7a4_49 : decode cJ6_bitCount_0f7a4 49 = .ok (.bipush 63, 2) := by decide +kernel
theorem dJ6_bitCount_0f7a4_51 : decode cJ6_bitCount_0f7a4 51 = .ok (.iand, 1) := by decide +kernel
theorem dJ6_bitCount_0f7a4_52 : decode cJ6_bitCount_0f7a4 52 = .ok (.ireturn, 1) := by decide +kernel
theorem dJ7_fill_53178_0 : decode cJ7_fill_53178 0 = .ok (.iconst 0, 1) := by decide +kernel
theorem dJ7_fill_53178_1 : decode cJ7_fill_53178 1 = .ok (.istore_n 2, 1) := by decide +kernel
theorem dJ7_fill_53178_2 : decode cJ7_fill_53178 2 = .ok (.aload_n 0, 1) := by decide +kernel
theorem dJ7_fill_53178_3 : decode cJ7_fill_53178 3 = .ok (.arraylength, 1) := by decide +kernel
theorem dJ7_fill_53178_4 : decode cJ7_fill_53178 4 = .ok (.istore_n 3, 1) := by decide +kernel
theorem dJ7_fill_53178_5 : decode cJ7_fill_53178 5 = .ok (.iload_n 2, 1) := by decide +kernel
theorem dJ7_fill_53178_6 : decode cJ7_fill_53178 6 = .ok (.iload_n 3, 1) := by decide +kernel
theorem dJ7_fill_53178_7 : decode cJ7_fill_53178 7 = .ok (.if_icmp .ge 13, 3) := by decide +kernel
theorem dJ7_fill_53178_10 : decode cJ7_fill_53178 10 = .ok (.aload_n 0, 1) := by decide +kernel
theorem dJ7_fill_53178_11 : decode cJ7_fill_53178 11 = .ok (.iload_n 2, 1) := by decide +kernel
theorem dJ7_fill_53178_12 : decode cJ7_fill_53178 12 = .ok (.iload_n 1, 1) := by decide +kernel
theorem dJ7_fill_53178_13 : decode cJ7_fill_53178 13 = .ok (.iastore, 1) := by decide +kernel
theorem dJ7_fill_53178_14 : decode cJ7_fill_53178 14 = .ok (.iinc 2 1, 3) := by decide +kernel
theorem dJ7_fill_53178_17 : decode cJ7_fill_53178 17 = .ok (.goto (-12), 3) := by decide +kernel
theorem dJ7_fill_53178_20 : decode cJ7_fill_53178 20 = .ok (.return_, 1) := by decide +kernel
theorem dJ9_abs_0f7a4_0 : decode cJ9_abs_0f7a4 0 = .ok (.iload_n 0, 1) := by decide +kernel
theorem dJ9_abs_0f7a4_1 : decode cJ9_abs_0f7a4 1 = .ok (.ifCond .ge 8, 3) := by decide +kernel
theorem dJ9_abs_0f7a4_4 : decode cJ9_abs_0f7a4 4 = .ok (.iload_n 0, 1) := by decide +kernel
theorem dJ9_abs_0f7a4_5 : decode cJ9_abs_0f7a4 5 = .ok (.ineg, 1) := by decide +kernel
theorem dJ9_abs_0f7a4_6 : decode cJ9_abs_0f7a4 6 = .ok (.goto 4, 3) := by decide +kernel
theorem dJ9_abs_0f7a4_9 : decode cJ9_abs_0f7a4 9 = .ok (.iload_n 0, 1) := by decide +kernel
theorem dJ9_abs_0f7a4_10 : decode cJ9_abs_0f7a4 10 = .ok (.ireturn, 1) := by decide +kernel
theorem dJ9_max_7cf53_0 : decode cJ9_max_7cf53 0 = .ok (.iload_n 0, 1) := by decide +kernel
theorem dJ9_max_7cf53_1 : decode cJ9_max_7cf53 1 = .ok (.iload_n 1, 1) := by decide +kernel
theorem dJ9_max_7cf53_2 : decode cJ9_max_7cf53 2 = .ok (.if_icmp .lt 7, 3) := by decide +kernel
theorem dJ9_max_7cf53_5 : decode cJ9_max_7cf53 5 = .ok (.iload_n 0, 1) := by decide +kernel
theorem dJ9_max_7cf53_6 : decode cJ9_max_7cf53 6 = .ok (.goto 4, 3) := by decide +kernel
theorem dJ9_max_7cf53_9 : decode cJ9_max_7cf53 9 = .ok (.iload_n 1, 1) := by decide +kernel
theorem dJ9_max_7cf53_10 : decode cJ9_max_7cf53 10 = .ok (.ireturn, 1) := by decide +kernel
theorem dJ9_max_f86c9_0 : decode cJ9_max_f86c9 0 = .ok (.lload_n 0, 1) := by decide +kernel
theorem dJ9_max_f86c9_1 : decode cJ9_max_f86c9 1 = .ok (.lload_n 2, 1) := by decide +kernel
theorem dJ9_max_f86c9_2 : decode cJ9_max_f86c9 2 = .ok (.lcmp, 1) := by decide +kernel
theorem dJ9_max_f86c9_3 : decode cJ9_max_f86c9 3 = .ok (.ifCond .lt 7, 3) := by decide +kernel
theorem dJ9_max_f86c9_6 : decode cJ9_max_f86c9 6 = .ok (.lload_n 0, 1) := by decide +kernel
theorem dJ9_max_f86c9_7 : decode cJ9_max_f86c9 7 = .ok (.goto 4, 3) := by decide +kernel
theorem dJ9_max_f86c9_10 : decode cJ9_max_f86c9 10 = .ok (.lload_n 2, 1) := by decide +kernel
theorem dJ9_max_f86c9_11 : decode cJ9_max_f86c9 11 = .ok (.lreturn, 1) := by decide +kernel
theorem dJ9_min_7cf53_0 : decode cJ9_min_7cf53 0 = .ok (.iload_n 0, 1) := by decide +kernel
theorem dJ9_min_7cf53_1 : decode cJ9_min_7cf53 1 = .ok (.iload_n 1, 1) := by decide +kernel
theorem dJ9_min_7cf53_2 : decode cJ9_min_7cf53 2 = .ok (.if_icmp .gt 7, 3) := by decide +kernel
theorem dJ9_min_7cf53_5 : decode cJ9_min_7cf53 5 = .ok (.iload_n 0, 1) := by decide +kernel
theorem dJ9_min_7cf53_6 : decode cJ9_min_7cf53 6 = .ok (.goto 4, 3) := by decide +kernel
theorem dJ9_min_7cf53_9 : decode cJ9_min_7cf53 9 = .ok (.iload_n 1, 1) := by decide +kernel
theorem dJ9_min_7cf53_10 : decode cJ9_min_7cf53 10 = .ok (.ireturn, 1) := by decide +kernel
theorem dX12_init_0 : decode cX12_init 0 = .ok (.aload_n 0, 1) := by decide +kernel
theorem dX12_init_1 : decode cX12_init 1 = .ok (.invokespecial 1, 3) := by decide +kernel
theorem dX12_init_4 : decode cX12_init 4 = .ok (.aload_n 0, 1) := by decide +kernel
theorem dX12_init_5 : decode cX12_init 5 = .ok (.iconst 4, 1) := by decide +kernel
theorem dX12_init_6 : decode cX12_init 6 = .ok (.putfield 7, 3) := by decide +kernel
theorem dX12_init_9 : decode cX12_init 9 = .ok (.aload_n 0, 1) := by decide +kernel
theorem dX12_init_10 : decode cX12_init 10 = .ok (.iconst 4, 1) := by decide +kernel
theorem dX12_init_11 : decode cX12_init 11 = .ok (.putfield 13, 3) := by decide +kernel
theorem dX12_init_14 : decode cX12_init 14 = .ok (.aload_n 0, 1) := by decide +kernel
theorem dX12_init_15 : decode cX12_init 15 = .ok (.sipush 256, 3) := by decide +kernel
theorem dX12_init_18 : decode cX12_init 18 = .ok (.newarray .int, 2) := by decide +kernel
theorem dX12_init_20 : decode cX12_init 20 = .ok (.putfield 16, 3) := by decide +kernel
theorem dX12_init_23 : decode cX12_init 23 = .ok (.aload_n 0, 1) := by decide +kernel
theorem dX12_init_24 : decode cX12_init 24 = .ok (.sipush 256, 3) := by decide +kernel
theorem dX12_init_27 : decode cX12_init 27 = .ok (.newarray .int, 2) := by decide +kernel
theorem dX12_init_29 : decode cX12_init 29 = .ok (.putfield 20, 3) := by decide +kernel
theorem dX12_init_32 : decode cX12_init 32 = .ok (.aload_n 0, 1) := by decide +kernel
theorem dX12_init_33 : decode cX12_init 33 = .ok (.iconst 4, 1) := by decide +kernel
theorem dX12_init_34 : decode cX12_init 34 = .ok (.newarray .int, 2) := by decide +kernel
theorem dX12_init_36 : decode cX12_init 36 = .ok (.putfield 23, 3) := by decide +kernel
theorem dX12_init_39 : decode cX12_init 39 = .ok (.aload_n 0, 1) := by decide +kernel
theorem dX12_init_40 : decode cX12_init 40 = .ok (.iconst 4, 1) := by decide +kernel
theorem dX12_init_41 : decode cX12_init 41 = .ok (.newarray .int, 2) := by decide +kernel
theorem dX12_init_43 : decode cX12_init 43 = .ok (.putfield 26, 3) := by decide +kernel
theorem dX12_init_46 : decode cX12_init 46 = .ok (.aload_n 0, 1) := by decide +kernel
theorem dX12_init_47 : decode cX12_init 47 = .ok (.bipush 24, 2) := by decide +kernel
theorem dX12_init_49 : decode cX12_init 49 = .ok (.newarray .int, 2) := by decide +kernel
theorem dX12_init_51 : decode cX12_init 51 = .ok (.putfield 29, 3) := by decide +kernel
theorem dX12_init_54 : decode cX12_init 54 = .ok (.aload_n 0, 1) := by decide +kernel
theorem dX12_init_55 : decode cX12_init 55 = .ok (.bipush 24, 2) := by decide +kernel
theorem dX12_init_57 : decode cX12_init 57 = .ok (.newarray .int, 2) := by decide +kernel
theorem dX12_init_59 : decode cX12_init 59 = .ok (.putfield 32, 3) := by decide +kernel
theorem dX12_init_62 : decode cX12_init 62 = .ok (.aload_n 0, 1) := by decide +kernel
theorem dX12_init_63 : decode cX12_init 63 = .ok (.bipush 12, 2) := by decide +kernel
theorem dX12_init_65 : decode cX12_init 65 = .ok (.newarray .int, 2) := by decide +kernel
theorem dX12_init_67 : decode cX12_init 67 = .ok (.putfield 35, 3) := by decide +kernel
theorem dX12_init_70 : decode cX12_init 70 = .ok (.aload_n 0, 1) := by decide +kernel
theorem dX12_init_71 : decode cX12_init 71 = .ok (.bipush 12, 2) := by decide +kernel
theorem dX12_init_73 : decode cX12_init 73 = .ok (.newarray .int, 2) := by decide +kernel
theorem dX12_init_75 : decode cX12_init 75 = .ok (.putfield 38, 3) := by decide +kernel
theorem dX12_init_78 : decode cX12_init 78 = .ok (.aload_n 0, 1) := by decide +kernel
theorem dX12_init_79 : decode cX12_init 79 = .ok (.bipush 12, 2) := by decide +kernel
theorem dX12_init_81 : decode cX12_init 81 = .ok (.newarray .int, 2) := by decide +kernel
theorem dX12_init_83 : decode cX12_init 83 = .ok (.putfield 41, 3) := by decide +kernel
theorem dX12_init_86 : decode cX12_init 86 = .ok (.aload_n 0, 1) := by decide +kernel
theorem dX12_init_87 : decode cX12_init 87 = .ok (.bipush 12, 2) := by decide +kernel
theorem dX12_init_89 : decode cX12_init 89 = .ok (.newarray .int, 2) := by decide +kernel
theorem dX12_init_91 : decode cX12_init 91 = .ok (.putfield 44, 3) := by decide +kernel
theorem dX12_init_94 : decode cX12_init 94 = .ok (.aload_n 0, 1) := by decide +kernel
theorem dX12_init_95 : decode cX12_init 95 = .ok (.bipush 12, 2) := by decide +kernel
theorem dX12_init_97 : decode cX12_init 97 = .ok (.newarray .int, 2) := by decide +kernel
theorem dX12_init_99 : decode cX12_init 99 = .ok (.putfield 47, 3) := by decide +kernel
theorem dX12_init_102 : decode cX12_init 102 = .ok (.aload_n 0, 1) := by decide +kernel
theorem dX12_init_103 : decode cX12_init 103 = .ok (.bipush 12, 2) := by decide +kernel
theorem dX12_init_105 : decode cX12_init 105 = .ok (.newarray .int, 2) := by decide +kernel
theorem dX12_init_107 : decode cX12_init 107 = .ok (.putfield 50, 3) := by decide +kernel
theorem dX12_init_110 : decode cX12_init 110 = .ok (.aload_n 0, 1) := by decide +kernel
theorem dX12_init_111 : decode cX12_init 111 = .ok (.bipush 12, 2) := by decide +kernel
theorem dX12_init_113 : decode cX12_init 113 = .ok (.newarray .int, 2) := by decide +kernel
theorem dX12_init_115 : decode cX12_init 115 = .ok (.putfield 53, 3) := by decide +kernel
theorem dX12_init_118 : decode cX12_init 118 = .ok (.aload_n 0, 1) := by decide +kernel
theorem dX12_init_119 : decode cX12_init 119 = .ok (.bipush 60, 2) := by decide +kernel
theorem dX12_init_121 : decode cX12_init 121 = .ok (.newarray .int, 2) := by decide +kernel
theorem dX12_init_123 : decode cX12_init 123 = .ok (.putfield 56, 3) := by decide +kernel
theorem dX12_init_126 : decode cX12_init 126 = .ok (.aload_n 0, 1) := by decide +kernel
theorem dX12_init_127 : decode cX12_init 127 = .ok (.bipush 60, 2) := by decide +kernel
theorem dX12_init_129 : decode cX12_init 129 = .ok (.newarray .int, 2) := by decide +kernel
theorem dX12_init_131 : decode cX12_init 131 = .ok (.putfield 59, 3) := by decide +kernel
theorem dX12_init_134 : decode cX12_init 134 = .ok (.aload_n 0, 1) := by decide +kernel
theorem dX12_init_135 : decode cX12_init 135 = .ok (.bipush 60, 2) := by decide +kernel
theorem dX12_init_137 : decode cX12_init 137 = .ok (.newarray .int, 2) := by decide +kernel
theorem dX12_init_139 : decode cX12_init 139 = .ok (.putfield 62, 3) := by decide +kernel
theorem dX12_init_142 : decode cX12_init 142 = .ok (.aload_n 0, 1) := by decide +kernel
theorem dX12_init_143 : decode cX12_init 143 = .ok (.bipush 60, 2) := by decide +kernel
theorem dX12_init_145 : decode cX12_init 145 = .ok (.newarray .boolean, 2) := by decide +kernel
theorem dX12_init_147 : decode cX12_init 147 = .ok (.putfield 65, 3) := by decide +kernel
theorem dX12_init_150 : decode cX12_init 150 = .ok (.aload_n 0, 1) := by decide +kernel
theorem dX12_init_151 : decode cX12_init 151 = .ok (.bipush 24, 2) := by decide +kernel
theorem dX12_init_153 : decode cX12_init 153 = .ok (.newarray .int, 2) := by decide +kernel
theorem dX12_init_155 : decode cX12_init 155 = .ok (.putfield 69, 3) := by decide +kernel
theorem dX12_init_158 : decode cX12_init 158 = .ok (.aload_n 0, 1) := by decide +kernel
theorem dX12_init_159 : decode cX12_init 159 = .ok (.bipush 24, 2) := by decide +kernel
theorem dX12_init_161 : decode cX12_init 161 = .ok (.newarray .int, 2) := by decide +kernel
theorem dX12_init_163 : decode cX12_init 163 = .ok (.putfield 72, 3) := by decide +kernel
theorem dX12_init_166 : decode cX12_init 166 = .ok (.aload_n 0, 1) := by decide +kernel
theorem dX12_init_167 : decode cX12_init 167 = .ok (.bipush 12, 2) := by decide +kernel
theorem dX12_init_169 : decode cX12_init 169 = .ok (.newarray .int, 2) := by decide +kernel
theorem dX12_init_171 : decode cX12_init 171 = .ok (.putfield 75, 3) := by decide +kernel
theorem dX12_init_174 : decode cX12_init 174 = .ok (.aload_n 0, 1) := by decide +kernel
theorem dX12_init_175 : decode cX12_init 175 = .ok (.sipush 4096, 3) := by decide +kernel
theorem dX12_init_178 : decode cX12_init 178 = .ok (.newarray .int, 2) := by decide +kernel
theorem dX12_init_180 : decode cX12_init 180 = .ok (.putfield 78, 3) := by decide +kernel
theorem dX12_init_183 : decode cX12_init 183 = .ok (.aload_n 0, 1) := by decide +kernel
theorem dX12_init_184 : decode cX12_init 184 = .ok (.sipush 1000, 3) := by decide +kernel
theorem dX12_init_187 : decode cX12_init 187 = .ok (.newarray .int, 2) := by decide +kernel
theorem dX12_init_189 : decode cX12_init 189 = .ok (.putfield 81, 3) := by decide +kernel
theorem dX12_init_192 : decode cX12_init 192 = .ok (.aload_n 0, 1) := by decide +kernel
theorem dX12_init_193 : decode cX12_init 193 = .ok (.iconst 2, 1) := by decide +kernel
theorem dX12_init_194 : decode cX12_init 194 = .ok (.newarray .int, 2) := by decide +kernel
theorem dX12_init_196 : decode cX12_init 196 = .ok (.putfield 84, 3) := by decide +kernel
theorem dX12_init_199 : decode cX12_init 199 = .ok (.aload_n 0, 1) := by decide +kernel
theorem dX12_init_200 : decode cX12_init 200 = .ok (.bipush 20, 2) := by decide +kernel
theorem dX12_init_202 : decode cX12_init 202 = .ok (.newarray .long, 2) := by decide +kernel
theorem dX12_init_204 : decode cX12_init 204 = .ok (.putfield 87, 3) := by decide +kernel
theorem dX12_init_207 : decode cX12_init 207 = .ok (.aload_n 0, 1) := by decide +kernel
theorem dX12_init_208 : decode cX12_init 208 = .ok (.bipush 20, 2) := by decide +kernel
theorem dX12_init_210 : decode cX12_init 210 = .ok (.newarray .int, 2) := by decide +kernel
theorem dX12_init_212 : decode cX12_init 212 = .ok (.putfield 91, 3) := by decide +kernel
theorem dX12_init_215 : decode cX12_init 215 = .ok (.aload_n 0, 1) := by decide +kernel
theorem dX12_init_216 : decode cX12_init 216 = .ok (.bipush 100, 2) := by decide +kernel
theorem dX12_init_218 : decode cX12_init 218 = .ok (.newarray .int, 2) := by decide +kernel
theorem dX12_init_220 : decode cX12_init 220 = .ok (.putfield 94, 3) := by decide +kernel
theorem dX12_init_223 : decode cX12_init 223 = .ok (.aload_n 0, 1) := by decide +kernel
theorem dX12_init_224 : decode cX12_init 224 = .ok (.iconst 2, 1) := by decide +kernel
theorem dX12_init_225 : decode cX12_init 225 = .ok (.newarray .int, 2) := by decide +kernel
theorem dX12_init_227 : decode cX12_init 227 = .ok (.putfield 97, 3) := by decide +kernel
theorem dX12_init_230 : decode cX12_init 230 = .ok (.aload_n 0, 1) := by decide +kernel
theorem dX12_init_231 : decode cX12_init 231 = .ok (.bipush 16, 2) := by decide +kernel
theorem dX12_init_233 : decode cX12_init 233 = .ok (.newarray .int, 2) := by decide +kernel
theorem dX12_init_235 : decode cX12_init 235 = .ok (.putfield 100, 3) := by decide +kernel
theorem dX12_init_238 : decode cX12_init 238 = .ok (.aload_n 0, 1) := by decide +kernel
theorem dX12_init_239 : decode cX12_init 239 = .ok (.bipush 16, 2) := by decide +kernel
theorem dX12_init_241 : decode cX12_init 241 = .ok (.newarray .int, 2) := by decide +kernel
theorem dX12_init_243 : decode cX12_init 243 = .ok (.putfield 103, 3) := by decide +kernel
theorem dX12_init_246 : decode cX12_init 246 = .ok (.aload_n 0, 1) := by decide +kernel
theorem dX12_init_247 : decode cX12_init 247 = .ok (.iconst 2, 1) := by decide +kernel
theorem dX12_init_248 : decode cX12_init 248 = .ok (.newarray .int, 2) := by decide +kernel
theorem dX12_init_250 : decode cX12_init 250 = .ok (.putfield 106, 3) := by decide +kernel
theorem dX12_init_253 : decode cX12_init 253 = .ok (.aload_n 0, 1) := by decide +kernel
theorem dX12_init_254 : decode cX12_init 254 = .ok (.iconst 2, 1) := by decide +kernel
theorem dX12_init_255 : decode cX12_init 255 = .ok (.newarray .int, 2) := by decide +kernel
theorem dX12_init_257 : decode cX12_init 257 = .ok (.putfield 109, 3) := by decide +kernel
theorem dX12_init_260 : decode cX12_init 260 = .ok (.aload_n 0, 1) := by decide +kernel
theorem dX12_init_261 : decode cX12_init 261 = .ok (.iconst 2, 1) := by decide +kernel
theorem dX12_init_262 : decode cX12_init 262 = .ok (.newarray .int, 2) := by decide +kernel
theorem dX12_init_264 : decode cX12_init 264 = .ok (.putfield 112, 3) := by decide +kernel
theorem dX12_init_267 : decode cX12_init 267 = .ok (.aload_n 0, 1) := by decide +kernel
theorem dX12_init_268 : decode cX12_init 268 = .ok (.bipush 32, 2) := by decide +kernel
theorem dX12_init_270 : decode cX12_init 270 = .ok (.newarray .int, 2) := by decide +kernel
theorem dX12_init_272 : decode cX12_init 272 = .ok (.putfield 115, 3) := by decide +kernel
theorem dX12_init_275 : decode cX12_init 275 = .ok (.aload_n 0, 1) := by decide +kernel
theorem dX12_init_276 : decode cX12_init 276 = .ok (.bipush 32, 2) := by decide +kernel
theorem dX12_init_278 : decode cX12_init 278 = .ok (.newarray .long, 2) := by decide +kernel
theorem dX12_init_280 : decode cX12_init 280 = .ok (.putfield 118, 3) := by decide +kernel
theorem dX12_init_283 : decode cX12_init 283 = .ok (.aload_n 0, 1) := by decide +kernel
theorem dX12_init_284 : decode cX12_init 284 = .ok (.bipush 32, 2) := by decide +kernel
theorem dX12_init_286 : decode cX12_init 286 = .ok (.newarray .int, 2) := by decide +kernel
theorem dX12_init_288 : decode cX12_init 288 = .ok (.putfield 121, 3) := by decide +kernel
theorem dX12_init_291 : decode cX12_init 291 = .ok (.aload_n 0, 1) := by decide +kernel
theorem dX12_init_292 : decode cX12_init 292 = .ok (.bipush 32, 2) := by decide +kernel
theorem dX12_init_294 : decode cX12_init 294 = .ok (.newarray .int, 2) := by decide +kernel
theorem dX12_init_296 : decode cX12_init 296 = .ok (.putfield 124, 3) := by decide +kernel
theorem dX12_init_299 : decode cX12_init 299 = .ok (.aload_n 0, 1) := by decide +kernel
theorem dX12_init_300 : decode cX12_init 300 = .ok (.bipush 32, 2) := by decide +kernel
theorem dX12_init_302 : decode cX12_init 302 = .ok (.newarray .boolean, 2) := by decide +kernel
theorem dX12_init_304 : decode cX12_init 304 = .ok (.putfield 127, 3) := by decide +kernel
theorem dX12_init_307 : decode cX12_init 307 = .ok (.aload_n 0, 1) := by decide +kernel
theorem dX12_init_308 : decode cX12_init 308 = .ok (.bipush 32, 2) := by decide +kernel
theorem dX12_init_310 : decode cX12_init 310 = .ok (.newarray .int, 2) := by decide +kernel
theorem dX12_init_312 : decode cX12_init 312 = .ok (.putfield 130, 3) := by decide +kernel
theorem dX12_init_315 : decode cX12_init 315 = .ok (.aload_n 0, 1) := by decide +kernel
theorem dX12_init_316 : decode cX12_init 316 = .ok (.sipush 128, 3) := by decide +kernel
theorem dX12_init_319 : decode cX12_init 319 = .ok (.newarray .int, 2) := by decide +kernel
theorem dX12_init_321 : decode cX12_init 321 = .ok (.putfield 133, 3) := by decide +kernel
theorem dX12_init_324 : decode cX12_init 324 = .ok (.aload_n 0, 1) := by decide +kernel
theorem dX12_init_325 : decode cX12_init 325 = .ok (.sipush 128, 3) := by decide +kernel
theorem dX12_init_328 : decode cX12_init 328 = .ok (.newarray .long, 2) := by decide +kernel
theorem dX12_init_330 : decode cX12_init 330 = .ok (.putfield 136, 3) := by decide +kernel
theorem dX12_init_333 : decode cX12_init 333 = .ok (.aload_n 0, 1) := by decide +kernel
theorem dX12_init_334 : decode cX12_init 334 = .ok (.sipush 128, 3) := by decide +kernel
theorem dX12_init_337 : decode cX12_init 337 = .ok (.newarray .int, 2) := by decide +kernel
theorem dX12_init_339 : decode cX12_init 339 = .ok (.putfield 139, 3) := by decide +kernel
theorem dX12_init_342 : decode cX12_init 342 = .ok (.aload_n 0, 1) := by decide +kernel
theorem dX12_init_343 : decode cX12_init 343 = .ok (.sipush 128, 3) := by decide +kernel
theorem dX12_init_346 : decode cX12_init 346 = .ok (.newarray .int, 2) := by decide +kernel
theorem dX12_init_348 : decode cX12_init 348 = .ok (.putfield 142, 3) := by decide +kernel
theorem dX12_init_351 : decode cX12_init 351 = .ok (.aload_n 0, 1) := by decide +kernel
theorem dX12_init_352 : decode cX12_init 352 = .ok (.sipush 128, 3) := by decide +kernel
theorem dX12_init_355 : decode cX12_init 355 = .ok (.newarray .int, 2) := by decide +kernel
theorem dX12_init_357 : decode cX12_init 357 = .ok (.putfield 145, 3) := by decide +kernel
theorem dX12_init_360 : decode cX12_init 360 = .ok (.aload_n 0, 1) := by decide +kernel
theorem dX12_init_361 : decode cX12_init 361 = .ok (.sipush 128, 3) := by decide +kernel
theorem dX12_init_364 : decode cX12_init 364 = .ok (.newarray .int, 2) := by decide +kernel
theorem dX12_init_366 : decode cX12_init 366 = .ok (.putfield 148, 3) := by decide +kernel
theorem dX12_init_369 : decode cX12_init 369 = .ok (.aload_n 0, 1) := by decide +kernel
theorem dX12_init_370 : decode cX12_init 370 = .ok (.bipush 10, 2) := by decide +kernel
theorem dX12_init_372 : decode cX12_init 372 = .ok (.newarray .int, 2) := by decide +kernel
theorem dX12_init_374 : decode cX12_init 374 = .ok (.putfield 151, 3) := by decide +kernel
theorem dX12_init_377 : decode cX12_init 377 = .ok (.aload_n 0, 1) := by decide +kernel
theorem dX12_init_378 : decode cX12_init 378 = .ok (.iconst (-1), 1) := by decide +kernel
theorem dX12_init_379 : decode cX12_init 379 = .ok (.putfield 154, 3) := by decide +kernel
theorem dX12_init_382 : decode cX12_init 382 = .ok (.aload_n 0, 1) := by decide +kernel
theorem dX12_init_383 : decode cX12_init 383 = .ok (.sipush 200, 3) := by decide +kernel
theorem dX12_init_386 : decode cX12_init 386 = .ok (.newarray .int, 2) := by decide +kernel
theorem dX12_init_388 : decode cX12_init 388 = .ok (.putfield 157, 3) := by decide +kernel
theorem dX12_init_391 : decode cX12_init 391 = .ok (.aload_n 0, 1) := by decide +kernel
theorem dX12_init_392 : decode cX12_init 392 = .ok (.sipush 200, 3) := by decide +kernel
theorem dX12_init_395 : decode cX12_init 395 = .ok (.newarray .int, 2) := by decide +kernel
theorem dX12_init_397 : decode cX12_init 397 = .ok (.putfield 160, 3) := by decide +kernel
theorem dX12_init_400 : decode cX12_init 400 = .ok (.aload_n 0, 1) := by decide +kernel
theorem dX12_init_401 : decode cX12_init 401 = .ok (.sipush 200, 3) := by decide +kernel
theorem dX12_init_404 : decode cX12_init 404 = .ok (.newarray .int, 2) := by decide +kernel
theorem dX12_init_406 : decode cX12_init 406 = .ok (.putfield 163, 3) := by decide +kernel
theorem dX12_init_409 : decode cX12_init 409 = .ok (.aload_n 0, 1) := by decide +kernel
theorem dX12_init_410 : decode cX12_init 410 = .ok (.sipush 200, 3) := by decide +kernel
theorem dX12_init_413 : decode cX12_init 413 = .ok (.newarray .int, 2) := by decide +kernel
theorem dX12_init_415 : decode cX12_init 415 = .ok (.putfield 166, 3) := by decide +kernel
theorem dX12_init_418 : decode cX12_init 418 = .ok (.aload_n 0, 1) := by decide +kernel
theorem dX12_init_419 : decode cX12_init 419 = .ok (.sipush 200, 3) := by decide +kernel
theorem dX12_init_422 : decode cX12_init 422 = .ok (.newarray .boolean, 2) := by decide +kernel
theorem dX12_init_424 : decode cX12_init 424 = .ok (.putfield 169, 3) := by decide +kernel
theorem dX12_init_427 : decode cX12_init 427 = .ok (.aload_n 0, 1) := by decide +kernel
theorem dX12_init_428 : decode cX12_init 428 = .ok (.bipush 120, 2) := by decide +kernel
theorem dX12_init_430 : decode cX12_init 430 = .ok (.newarray .int, 2) := by decide +kernel
theorem dX12_init_432 : decode cX12_init 432 = .ok (.putfield 172, 3) := by decide +kernel
theorem dX12_init_435 : decode cX12_init 435 = .ok (.aload_n 0, 1) := by decide +kernel
theorem dX12_init_436 : decode cX12_init 436 = .ok (.bipush 120, 2) := by decide +kernel
theorem dX12_init_438 : decode cX12_init 438 = .ok (.newarray .int, 2) := by decide +kernel
theorem dX12_init_440 : decode cX12_init 440 = .ok (.putfield 175, 3) := by decide +kernel
theorem dX12_init_443 : decode cX12_init 443 = .ok (.aload_n 0, 1) := by decide +kernel
theorem dX12_init_444 : decode cX12_init 444 = .ok (.bipush 120, 2) := by decide +kernel
theorem dX12_init_446 : decode cX12_init 446 = .ok (.newarray .int, 2) := by decide +kernel
theorem dX12_init_448 : decode cX12_init 448 = .ok (.putfield 178, 3) := by decide +kernel
theorem dX12_init_451 : decode cX12_init 451 = .ok (.aload_n 0, 1) := by decide +kernel
theorem dX12_init_452 : decode cX12_init 452 = .ok (.bipush 120, 2) := by decide +kernel
theorem dX12_init_454 : decode cX12_init 454 = .ok (.newarray .int, 2) := by decide +kernel
theorem dX12_init_456 : decode cX12_init 456 = .ok (.putfield 181, 3) := by decide +kernel
theorem dX12_init_459 : decode cX12_init 459 = .ok (.aload_n 0, 1) := by decide +kernel
theorem dX12_init_460 : decode cX12_init 460 = .ok (.bipush 12, 2) := by decide +kernel
theorem dX12_init_462 : decode cX12_init 462 = .ok (.newarray .int, 2) := by decide +kernel
theorem dX12_init_464 : decode cX12_init 464 = .ok (.putfield 184, 3) := by decide +kernel
theorem dX12_init_467 : decode cX12_init 467 = .ok (.aload_n 0, 1) := by decide +kernel
theorem dX12_init_468 : decode cX12_init 468 = .ok (.bipush 12, 2) := by decide +kernel
theorem dX12_init_470 : decode cX12_init 470 = .ok (.newarray .int, 2) := by decide +kernel
theorem dX12_init_472 : decode cX12_init 472 = .ok (.putfield 187, 3) := by decide +kernel
theorem dX12_init_475 : decode cX12_init 475 = .ok (.aload_n 0, 1) := by decide +kernel
theorem dX12_init_476 : decode cX12_init 476 = .ok (.bipush 12, 2) := by decide +kernel
theorem dX12_init_478 : decode cX12_init 478 = .ok (.newarray .int, 2) := by decide +kernel
theorem dX12_init_480 : decode cX12_init 480 = .ok (.putfield 190, 3) := by decide +kernel
theorem dX12_init_483 : decode cX12_init 483 = .ok (.aload_n 0, 1) := by decide +kernel
theorem dX12_init_484 : decode cX12_init 484 = .ok (.bipush 12, 2) := by decide +kernel
theorem dX12_init_486 : decode cX12_init 486 = .ok (.newarray .int, 2) := by decide +kernel
theorem dX12_init_488 : decode cX12_init 488 = .ok (.putfield 193, 3) := by decide +kernel
theorem dX12_init_491 : decode cX12_init 491 = .ok (.aload_n 0, 1) := by decide +kernel
theorem dX12_init_492 : decode cX12_init 492 = .ok (.sipush 256, 3) := by decide +kernel
theorem dX12_init_495 : decode cX12_init 495 = .ok (.newarray .int, 2) := by decide +kernel
theorem dX12_init_497 : decode cX12_init 497 = .ok (.putfield 196, 3) := by decide +kernel
theorem dX12_init_500 : decode cX12_init 500 = .ok (.aload_n 0, 1) := by decide +kernel
theorem dX12_init_501 : decode cX12_init 501 = .ok (.sipush 256, 3) := by decide +kernel
theorem dX12_init_504 : decode cX12_init 504 = .ok (.newarray .boolean, 2) := by decide +kernel
theorem dX12_init_506 : decode cX12_init 506 = .ok (.putfield 199, 3) := by decide +kernel
theorem dX12_init_509 : decode cX12_init 509 = .ok (.aload_n 0, 1) := by decide +kernel
theorem dX12_init_510 : decode cX12_init 510 = .ok (.sipush 144, 3) := by decide +kernel
theorem dX12_init_513 : decode cX12_init 513 = .ok (.newarray .int, 2) := by decide +kernel
theorem dX12_init_515 : decode cX12_init 515 = .ok (.putfield 202, 3) := by decide +kernel
theorem dX12_init_518 : decode cX12_init 518 = .ok (.aload_n 0, 1) := by decide +kernel
theorem dX12_init_519 : decode cX12_init 519 = .ok (.bipush 12, 2) := by decide +kernel
theorem dX12_init_521 : decode cX12_init 521 = .ok (.newarray .int, 2) := by decide +kernel
theorem dX12_init_523 : decode cX12_init 523 = .ok (.putfield 205, 3) := by decide +kernel
theorem dX12_init_526 : decode cX12_init 526 = .ok (.aload_n 0, 1) := by decide +kernel
theorem dX12_init_527 : decode cX12_init 527 = .ok (.bipush 12, 2) := by decide +kernel
theorem dX12_init_529 : decode cX12_init 529 = .ok (.newarray .int, 2) := by decide +kernel
theorem dX12_init_531 : decode cX12_init 531 = .ok (.putfield 208, 3) := by decide +kernel
theorem dX12_init_534 : decode cX12_init 534 = .ok (.aload_n 0, 1) := by decide +kernel
theorem dX12_init_535 : decode cX12_init 535 = .ok (.bipush 12, 2) := by decide +kernel
theorem dX12_init_537 : decode cX12_init 537 = .ok (.newarray .int, 2) := by decide +kernel
theorem dX12_init_539 : decode cX12_init 539 = .ok (.putfield 211, 3) := by decide +kernel
theorem dX12_init_542 : decode cX12_init 542 = .ok (.aload_n 0, 1) := by decide +kernel
theorem dX12_init_543 : decode cX12_init 543 = .ok (.bipush 12, 2) := by decide +kernel
theorem dX12_init_545 : decode cX12_init 545 = .ok (.newarray .boolean, 2) := by decide +kernel
theorem dX12_init_547 : decode cX12_init 547 = .ok (.putfield 214, 3) := by decide +kernel
theorem dX12_init_550 : decode cX12_init 550 = .ok (.aload_n 0, 1) := by decide +kernel
theorem dX12_init_551 : decode cX12_init 551 = .ok (.bipush 12, 2) := by decide +kernel
theorem dX12_init_553 : decode cX12_init 553 = .ok (.newarray .boolean, 2) := by decide +kernel
theorem dX12_init_555 : decode cX12_init 555 = .ok (.putfield 217, 3) := by decide +kernel
theorem dX12_init_558 : decode cX12_init 558 = .ok (.iconst 0, 1) := by decide +kernel
theorem dX12_init_559 : decode cX12_init 559 = .ok (.istore_n 1, 1) := by decide +kernel
theorem dX12_init_560 : decode cX12_init 560 = .ok (.iload_n 1, 1) := by decide +kernel
theorem dX12_init_561 : decode cX12_init 561 = .ok (.bipush 24, 2) := by decide +kernel
theorem dX12_init_563 : decode cX12_init 563 = .ok (.if_icmp .ge 25, 3) := by decide +kernel
theorem dX12_init_566 : decode cX12_init 566 = .ok (.aload_n 0, 1) := by decide +kernel
theorem dX12_init_567 : decode cX12_init 567 = .ok (.getfield 29, 3) := by decide +kernel
theorem dX12_init_570 : decode cX12_init 570 = .ok (.iload_n 1, 1) := by decide +kernel
theorem dX12_init_571 : decode cX12_init 571 = .ok (.bipush 30, 2) := by decide +kernel
theorem dX12_init_573 : decode cX12_init 573 = .ok (.iastore, 1) := by decide +kernel
theorem dX12_init_574 : decode cX12_init 574 = .ok (.aload_n 0, 1) := by decide +kernel
theorem dX12_init_575 : decode cX12_init 575 = .ok (.getfield 32, 3) := by decide +kernel
theorem dX12_init_578 : decode cX12_init 578 = .ok (.iload_n 1, 1) := by decide +kernel
theorem dX12_init_579 : decode cX12_init 579 = .ok (.bipush 30, 2) := by decide +kernel
theorem dX12_init_581 : decode cX12_init 581 = .ok (.iastore, 1) := by decide +kernel
theorem dX12_init_582 : decode cX12_init 582 = .ok (.iinc 1 1, 3) := by decide +kernel
theorem dX12_init_585 : decode cX12_init 585 = .ok (.goto (-25), 3) := by decide +kernel
theorem dX12_init_588 : decode cX12_init 588 = .ok (.aload_n 0, 1) := by decide +kernel
theorem dX12_init_589 : decode cX12_init 589 = .ok (.iconst 0, 1) := by decide +kernel
theorem dX12_init_590 : decode cX12_init 590 = .ok (.invokevirtual 220, 3) := by decide +kernel
theorem dX12_init_593 : decode cX12_init 593 = .ok (.return_, 1) := by decide +kernel
theorem dX12_land_0 : decode cX12_land 0 = .ok (.aload_n 0, 1) := by decide +kernel
theorem dX12_land_1 : decode cX12_land 1 = .ok (.iconst 0, 1) := by decide +kernel
theorem dX12_land_2 : decode cX12_land 2 = .ok (.putfield 224, 3) := by decide +kernel
theorem dX12_land_5 : decode cX12_land 5 = .ok (.iload_n 1, 1) := by decide +kernel
theorem dX12_land_6 : decode cX12_land 6 = .ok (.iconst 4, 1) := by decide +kernel
theorem dX12_land_7 : decode cX12_land 7 = .ok (.if_icmp .lt 20, 3) := by decide +kernel
theorem dX12_land_10 : decode cX12_land 10 = .ok (.iload_n 1, 1) := by decide +kernel
theorem dX12_land_11 : decode cX12_land 11 = .ok (.bipush 16, 2) := by decide +kernel
theorem dX12_land_13 : decode cX12_land 13 = .ok (.if_icmp .gt 14, 3) := by decide +kernel
theorem dX12_land_16 : decode cX12_land 16 = .ok (.iload_n 2, 1) := by decide +kernel
theorem dX12_land_17 : decode cX12_land 17 = .ok (.iconst 4, 1) := by decide +kernel
theorem dX12_land_18 : decode cX12_land 18 = .ok (.if_icmp .lt 9, 3) := by decide +kernel
theorem dX12_land_21 : decode cX12_land 21 = .ok (.iload_n 2, 1) := by decide +kernel
theorem dX12_land_22 : decode cX12_land 22 = .ok (.bipush 16, 2) := by decide +kernel
theorem dX12_land_24 : decode cX12_land 24 = .ok (.if_icmp .le 5, 3) := by decide +kernel
theorem dX12_land_27 : decode cX12_land 27 = .ok (.iconst 0, 1) := by decide +kernel
theorem dX12_land_28 : decode cX12_land 28 = .ok (.ireturn, 1) := by decide +kernel
theorem dX12_land_29 : decode cX12_land 29 = .ok (.aload_n 0, 1) := by decide +kernel
theorem dX12_land_30 : decode cX12_land 30 = .ok (.iload_n 1, 1) := by decide +kernel
theorem dX12_land_31 : decode cX12_land 31 = .ok (.putfield 7, 3) := by decide +kernel
theorem dX12_land_34 : decode cX12_land 34 = .ok (.aload_n 0, 1) := by decide +kernel
theorem dX12_land_35 : decode cX12_land 35 = .ok (.iload_n 2, 1) := by decide +kernel
theorem dX12_land_36 : decode cX12_land 36 = .ok (.putfield 13, 3) := by decide +kernel
theorem dX12_land_39 : decode cX12_land 39 = .ok (.iconst 0, 1) := by decide +kernel
theorem dX12_land_40 : decode cX12_land 40 = .ok (.istore_n 3, 1) := by decide +kernel
theorem dX12_land_41 : decode cX12_land 41 = .ok (.iload_n 3, 1) := by decide +kernel
theorem dX12_land_42 : decode cX12_land 42 = .ok (.sipush 256, 3) := by decide +kernel
theorem dX12_land_45 : decode cX12_land 45 = .ok (.if_icmp .ge 23, 3) := by decide +kernel
theorem dX12_land_48 : decode cX12_land 48 = .ok (.aload_n 0, 1) := by decide +kernel
theorem dX12_land_49 : decode cX12_land 49 = .ok (.getfield 16, 3) := by decide +kernel
theorem dX12_land_52 : decode cX12_land 52 = .ok (.iload_n 3, 1) := by decide +kernel
theorem dX12_land_53 : decode cX12_land 53 = .ok (.iconst 0, 1) := by decide +kernel
theorem dX12_land_54 : decode cX12_land 54 = .ok (.iastore, 1) := by decide +kernel
theorem dX12_land_55 : decode cX12_land 55 = .ok (.aload_n 0, 1) := by decide +kernel
theorem dX12_land_56 : decode cX12_land 56 = .ok (.getfield 20, 3) := by decide +kernel
theorem dX12_land_59 : decode cX12_land 59 = .ok (.iload_n 3, 1) := by decide +kernel
theorem dX12_land_60 : decode cX12_land 60 = .ok (.iconst 0, 1) := by decide +kernel
theorem dX12_land_61 : decode cX12_land 61 = .ok (.iastore, 1) := by decide +kernel
theorem dX12_land_62 : decode cX12_land 62 = .ok (.iinc 3 1, 3) := by decide +kernel
theorem dX12_land_65 : decode cX12_land 65 = .ok (.goto (-24), 3) := by decide +kernel
theorem dX12_land_68 : decode cX12_land 68 = .ok (.aload_n 0, 1) := by decide +kernel
theorem dX12_land_69 : decode cX12_land 69 = .ok (.iconst 0, 1) := by decide +kernel
theorem dX12_land_70 : decode cX12_land 70 = .ok (.putfield 227, 3) := by decide +kernel
theorem dX12_land_73 : decode cX12_land 73 = .ok (.aload_n 0, 1) := by decide +kernel
theorem dX12_land_74 : decode cX12_land 74 = .ok (.iconst 0, 1) := by decide +kernel
theorem dX12_land_75 : decode cX12_land 75 = .ok (.putfield 230, 3) := by decide +kernel
theorem dX12_land_78 : decode cX12_land 78 = .ok (.aload_n 0, 1) := by decide +kernel
theorem dX12_land_79 : decode cX12_land 79 = .ok (.iconst 0, 1) := by decide +kernel
theorem dX12_land_80 : decode cX12_land 80 = .ok (.putfield 233, 3) := by decide +kernel
theorem dX12_land_83 : decode cX12_land 83 = .ok (.aload_n 0, 1) := by decide +kernel
theorem dX12_land_84 : decode cX12_land 84 = .ok (.iconst 0, 1) := by decide +kernel
theorem dX12_land_85 : decode cX12_land 85 = .ok (.putfield 237, 3) := by decide +kernel
theorem dX12_land_88 : decode cX12_land 88 = .ok (.aload_n 0, 1) := by decide +kernel
theorem dX12_land_89 : decode cX12_land 89 = .ok (.iconst 0, 1) := by decide +kernel
theorem dX12_land_90 : decode cX12_land 90 = .ok (.putfield 240, 3) := by decide +kernel
theorem dX12_land_93 : decode cX12_land 93 = .ok (.iconst 1, 1) := by decide +kernel
theorem dX12_land_94 : decode cX12_land 94 = .ok (.ireturn, 1) := by decide +kernel
theorem dX12_ground_0 : decode cX12_ground 0 = .ok (.aload_n 0, 1) := by decide +kernel
theorem dX12_ground_1 : decode cX12_ground 1 = .ok (.iconst 0, 1) := by decide +kernel
theorem dX12_ground_2 : decode cX12_ground 2 = .ok (.putfield 224, 3) := by decide +kernel
theorem dX12_ground_5 : decode cX12_ground 5 = .ok (.iload_n 1, 1) := by decide +kernel
theorem dX12_ground_6 : decode cX12_ground 6 = .ok (.ifCond .lt 59, 3) := by decide +kernel
theorem dX12_ground_9 : decode cX12_ground 9 = .ok (.iload_n 1, 1) := by decide +kernel
theorem dX12_ground_10 : decode cX12_ground 10 = .ok (.iload_n 3, 1) := by decide +kernel
theorem dX12_ground_11 : decode cX12_ground 11 = .ok (.if_icmp .gt 54, 3) := by decide +kernel
theorem dX12_ground_14 : decode cX12_ground 14 = .ok (.iload_n 3, 1) := by decide +kernel
theorem dX12_ground_15 : decode cX12_ground 15 = .ok (.aload_n 0, 1) := by decide +kernel
theorem dX12_ground_16 : decode cX12_ground 16 = .ok (.getfield 7, 3) := by decide +kernel
theorem dX12_ground_19 : decode cX12_ground 19 = .ok (.if_icmp .ge 46, 3) := by decide +kernel
theorem dX12_ground_22 : decode cX12_ground 22 = .ok (.iload_n 2, 1) := by decide +kernel
theorem dX12_ground_23 : decode cX12_ground 23 = .ok (.ifCond .lt 42, 3) := by decide +kernel
theorem dX12_ground_26 : decode cX12_ground 26 = .ok (.iload_n 2, 1) := by decide +kernel
theorem dX12_ground_27 : decode cX12_ground 27 = .ok (.iload 4, 2) := by decide +kernel
theorem dX12_ground_29 : decode cX12_ground 29 = .ok (.if_icmp .gt 36, 3) := by decide +kernel
theorem dX12_ground_32 : decode cX12_ground 32 = .ok (.iload 4, 2) := by decide +kernel
theorem dX12_ground_34 : decode cX12_ground 34 = .ok (.aload_n 0, 1) := by decide +kernel
theorem dX12_ground_35 : decode cX12_ground 35 = .ok (.getfield 13, 3) := by decide +kernel
