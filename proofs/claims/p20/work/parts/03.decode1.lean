theorem dX0_init_0 : decode cX0_init 0 = .ok (.aload_n 0, 1) := by decide +kernel
theorem dX0_init_1 : decode cX0_init 1 = .ok (.invokespecial 5, 3) := by decide +kernel
theorem dX0_init_4 : decode cX0_init 4 = .ok (.aload_n 0, 1) := by decide +kernel
theorem dX0_init_5 : decode cX0_init 5 = .ok (.bipush 12, 2) := by decide +kernel
theorem dX0_init_7 : decode cX0_init 7 = .ok (.sipush 256, 3) := by decide +kernel
theorem dX0_init_10 : decode cX0_init 10 = .ok (.multianewarray 13 2, 4) := by decide +kernel
theorem dX0_init_14 : decode cX0_init 14 = .ok (.putfield 15, 3) := by decide +kernel
theorem dX0_init_17 : decode cX0_init 17 = .ok (.aload_n 0, 1) := by decide +kernel
theorem dX0_init_18 : decode cX0_init 18 = .ok (.bipush 12, 2) := by decide +kernel
theorem dX0_init_20 : decode cX0_init 20 = .ok (.newarray .boolean, 2) := by decide +kernel
theorem dX0_init_22 : decode cX0_init 22 = .ok (.putfield 20, 3) := by decide +kernel
theorem dX0_init_25 : decode cX0_init 25 = .ok (.aload_n 0, 1) := by decide +kernel
theorem dX0_init_26 : decode cX0_init 26 = .ok (.bipush 12, 2) := by decide +kernel
theorem dX0_init_28 : decode cX0_init 28 = .ok (.newarray .int, 2) := by decide +kernel
theorem dX0_init_30 : decode cX0_init 30 = .ok (.putfield 24, 3) := by decide +kernel
theorem dX0_init_33 : decode cX0_init 33 = .ok (.aload_n 0, 1) := by decide +kernel
theorem dX0_init_34 : decode cX0_init 34 = .ok (.bipush 12, 2) := by decide +kernel
theorem dX0_init_36 : decode cX0_init 36 = .ok (.newarray .int, 2) := by decide +kernel
theorem dX0_init_38 : decode cX0_init 38 = .ok (.putfield 28, 3) := by decide +kernel
theorem dX0_init_41 : decode cX0_init 41 = .ok (.aload_n 0, 1) := by decide +kernel
theorem dX0_init_42 : decode cX0_init 42 = .ok (.bipush 12, 2) := by decide +kernel
theorem dX0_init_44 : decode cX0_init 44 = .ok (.newarray .int, 2) := by decide +kernel
theorem dX0_init_46 : decode cX0_init 46 = .ok (.putfield 31, 3) := by decide +kernel
theorem dX0_init_49 : decode cX0_init 49 = .ok (.aload_n 0, 1) := by decide +kernel
theorem dX0_init_50 : decode cX0_init 50 = .ok (.bipush 12, 2) := by decide +kernel
theorem dX0_init_52 : decode cX0_init 52 = .ok (.newarray .int, 2) := by decide +kernel
theorem dX0_init_54 : decode cX0_init 54 = .ok (.putfield 34, 3) := by decide +kernel
theorem dX0_init_57 : decode cX0_init 57 = .ok (.aload_n 0, 1) := by decide +kernel
theorem dX0_init_58 : decode cX0_init 58 = .ok (.iconst 0, 1) := by decide +kernel
theorem dX0_init_59 : decode cX0_init 59 = .ok (.putfield 37, 3) := by decide +kernel
theorem dX0_init_62 : decode cX0_init 62 = .ok (.aload_n 0, 1) := by decide +kernel
theorem dX0_init_63 : decode cX0_init 63 = .ok (.aload_n 1, 1) := by decide +kernel
theorem dX0_init_64 : decode cX0_init 64 = .ok (.putfield 41, 3) := by decide +kernel
theorem dX0_init_67 : decode cX0_init 67 = .ok (.aload_n 0, 1) := by decide +kernel
theorem dX0_init_68 : decode cX0_init 68 = .ok (.aload_n 2, 1) := by decide +kernel
theorem dX0_init_69 : decode cX0_init 69 = .ok (.putfield 45, 3) := by decide +kernel
theorem dX0_init_72 : decode cX0_init 72 = .ok (.return_, 1) := by decide +kernel
theorem dX0_forgetWays_0 : decode cX0_forgetWays 0 = .ok (.iconst 0, 1) := by decide +kernel
theorem dX0_forgetWays_1 : decode cX0_forgetWays 1 = .ok (.istore_n 1, 1) := by decide +kernel
theorem dX0_forgetWays_2 : decode cX0_forgetWays 2 = .ok (.iload_n 1, 1) := by decide +kernel
theorem dX0_forgetWays_3 : decode cX0_forgetWays 3 = .ok (.bipush 12, 2) := by decide +kernel
theorem dX0_forgetWays_5 : decode cX0_forgetWays 5 = .ok (.if_icmp .ge 16, 3) := by decide +kernel
theorem dX0_forgetWays_8 : decode cX0_forgetWays 8 = .ok (.aload_n 0, 1) := by decide +kernel
theorem dX0_forgetWays_9 : decode cX0_forgetWays 9 = .ok (.getfield 20, 3) := by decide +kernel
theorem dX0_forgetWays_12 : decode cX0_forgetWays 12 = .ok (.iload_n 1, 1) := by decide +kernel
theorem dX0_forgetWays_13 : decode cX0_forgetWays 13 = .ok (.iconst 0, 1) := by decide +kernel
theorem dX0_forgetWays_14 : decode cX0_forgetWays 14 = .ok (.bastore, 1) := by decide +kernel
theorem dX0_forgetWays_15 : decode cX0_forgetWays 15 = .ok (.iinc 1 1, 3) := by decide +kernel
theorem dX0_forgetWays_18 : decode cX0_forgetWays 18 = .ok (.goto (-16), 3) := by decide +kernel
theorem dX0_forgetWays_21 : decode cX0_forgetWays 21 = .ok (.return_, 1) := by decide +kernel
theorem dX0_measureAll_0 : decode cX0_measureAll 0 = .ok (.iconst 0, 1) := by decide +kernel
theorem dX0_measureAll_1 : decode cX0_measureAll 1 = .ok (.istore_n 1, 1) := by decide +kernel
theorem dX0_measureAll_2 : decode cX0_measureAll 2 = .ok (.iload_n 1, 1) := by decide +kernel
theorem dX0_measureAll_3 : decode cX0_measureAll 3 = .ok (.aload_n 0, 1) := by decide +kernel
theorem dX0_measureAll_4 : decode cX0_measureAll 4 = .ok (.getfield 45, 3) := by decide +kernel
theorem dX0_measureAll_7 : decode cX0_measureAll 7 = .ok (.getfield 49, 3) := by decide +kernel
theorem dX0_measureAll_10 : decode cX0_measureAll 10 = .ok (.if_icmp .ge 26, 3) := by decide +kernel
theorem dX0_measureAll_13 : decode cX0_measureAll 13 = .ok (.aload_n 0, 1) := by decide +kernel
theorem dX0_measureAll_14 : decode cX0_measureAll 14 = .ok (.getfield 45, 3) := by decide +kernel
theorem dX0_measureAll_17 : decode cX0_measureAll 17 = .ok (.getfield 54, 3) := by decide +kernel
theorem dX0_measureAll_20 : decode cX0_measureAll 20 = .ok (.iload_n 1, 1) := by decide +kernel
theorem dX0_measureAll_21 : decode cX0_measureAll 21 = .ok (.iaload, 1) := by decide +kernel
theorem dX0_measureAll_22 : decode cX0_measureAll 22 = .ok (.ifCond .ne 8, 3) := by decide +kernel
theorem dX0_measureAll_25 : decode cX0_measureAll 25 = .ok (.aload_n 0, 1) := by decide +kernel
theorem dX0_measureAll_26 : decode cX0_measureAll 26 = .ok (.iload_n 1, 1) := by decide +kernel
theorem dX0_measureAll_27 : decode cX0_measureAll 27 = .ok (.invokevirtual 57, 3) := by decide +kernel
theorem dX0_measureAll_30 : decode cX0_measureAll 30 = .ok (.iinc 1 1, 3) := by decide +kernel
theorem dX0_measureAll_33 : decode cX0_measureAll 33 = .ok (.goto (-31), 3) := by decide +kernel
theorem dX0_measureAll_36 : decode cX0_measureAll 36 = .ok (.return_, 1) := by decide +kernel
theorem dX0_measure_0 : decode cX0_measure 0 = .ok (.aload_n 0, 1) := by decide +kernel
theorem dX0_measure_1 : decode cX0_measure 1 = .ok (.getfield 20, 3) := by decide +kernel
theorem dX0_measure_4 : decode cX0_measure 4 = .ok (.iload_n 1, 1) := by decide +kernel
theorem dX0_measure_5 : decode cX0_measure 5 = .ok (.baload, 1) := by decide +kernel
theorem dX0_measure_6 : decode cX0_measure 6 = .ok (.ifCond .eq 4, 3) := by decide +kernel
theorem dX0_measure_9 : decode cX0_measure 9 = .ok (.return_, 1) := by decide +kernel
theorem dX0_measure_10 : decode cX0_measure 10 = .ok (.aload_n 0, 1) := by decide +kernel
theorem dX0_measure_11 : decode cX0_measure 11 = .ok (.getfield 15, 3) := by decide +kernel
theorem dX0_measure_14 : decode cX0_measure 14 = .ok (.iload_n 1, 1) := by decide +kernel
theorem dX0_measure_15 : decode cX0_measure 15 = .ok (.aaload, 1) := by decide +kernel
theorem dX0_measure_16 : decode cX0_measure 16 = .ok (.astore_n 2, 1) := by decide +kernel
theorem dX0_measure_17 : decode cX0_measure 17 = .ok (.aload_n 2, 1) := by decide +kernel
theorem dX0_measure_18 : decode cX0_measure 18 = .ok (.ldc 61, 2) := by decide +kernel
theorem dX0_measure_20 : decode cX0_measure 20 = .ok (.invokestatic 62, 3) := by decide +kernel
theorem dX0_measure_23 : decode cX0_measure 23 = .ok (.aload_n 2, 1) := by decide +kernel
theorem dX0_measure_24 : decode cX0_measure 24 = .ok (.aload_n 0, 1) := by decide +kernel
theorem dX0_measure_25 : decode cX0_measure 25 = .ok (.getfield 45, 3) := by decide +kernel
theorem dX0_measure_28 : decode cX0_measure 28 = .ok (.getfield 68, 3) := by decide +kernel
theorem dX0_measure_31 : decode cX0_measure 31 = .ok (.iload_n 1, 1) := by decide +kernel
theorem dX0_measure_32 : decode cX0_measure 32 = .ok (.iaload, 1) := by decide +kernel
theorem dX0_measure_33 : decode cX0_measure 33 = .ok (.iconst 0, 1) := by decide +kernel
theorem dX0_measure_34 : decode cX0_measure 34 = .ok (.iastore, 1) := by decide +kernel
theorem dX0_measure_35 : decode cX0_measure 35 = .ok (.iconst 1, 1) := by decide +kernel
theorem dX0_measure_36 : decode cX0_measure 36 = .ok (.istore_n 3, 1) := by decide +kernel
theorem dX0_measure_37 : decode cX0_measure 37 = .ok (.iconst 0, 1) := by decide +kernel
theorem dX0_measure_38 : decode cX0_measure 38 = .ok (.istore 4, 2) := by decide +kernel
theorem dX0_measure_40 : decode cX0_measure 40 = .ok (.iload_n 3, 1) := by decide +kernel
theorem dX0_measure_41 : decode cX0_measure 41 = .ok (.ifCond .eq 35, 3) := by decide +kernel
theorem dX0_measure_44 : decode cX0_measure 44 = .ok (.iload 4, 2) := by decide +kernel
theorem dX0_measure_46 : decode cX0_measure 46 = .ok (.sipush 256, 3) := by decide +kernel
theorem dX0_measure_49 : decode cX0_measure 49 = .ok (.if_icmp .ge 27, 3) := by decide +kernel
theorem dX0_measure_52 : decode cX0_measure 52 = .ok (.aload_n 0, 1) := by decide +kernel
theorem dX0_measure_53 : decode cX0_measure 53 = .ok (.aload_n 2, 1) := by decide +kernel
theorem dX0_measure_54 : decode cX0_measure 54 = .ok (.iload 4, 2) := by decide +kernel
theorem dX0_measure_56 : decode cX0_measure 56 = .ok (.iconst 2, 1) := by decide +kernel
theorem dX0_measure_57 : decode cX0_measure 57 = .ok (.irem, 1) := by decide +kernel
theorem dX0_measure_58 : decode cX0_measure 58 = .ok (.ifCond .ne 7, 3) := by decide +kernel
theorem dX0_measure_61 : decode cX0_measure 61 = .ok (.iconst 1, 1) := by decide +kernel
theorem dX0_measure_62 : decode cX0_measure 62 = .ok (.goto 4, 3) := by decide +kernel
theorem dX0_measure_65 : decode cX0_measure 65 = .ok (.iconst 0, 1) := by decide +kernel
theorem dX0_measure_66 : decode cX0_measure 66 = .ok (.invokevirtual 71, 3) := by decide +kernel
theorem dX0_measure_69 : decode cX0_measure 69 = .ok (.istore_n 3, 1) := by decide +kernel
theorem dX0_measure_70 : decode cX0_measure 70 = .ok (.iinc 4 1, 3) := by decide +kernel
theorem dX0_measure_73 : decode cX0_measure 73 = .ok (.goto (-33), 3) := by decide +kernel
theorem dX0_measure_76 : decode cX0_measure 76 = .ok (.aload_n 0, 1) := by decide +kernel
theorem dX0_measure_77 : decode cX0_measure 77 = .ok (.getfield 20, 3) := by decide +kernel
theorem dX0_measure_80 : decode cX0_measure 80 = .ok (.iload_n 1, 1) := by decide +kernel
theorem dX0_measure_81 : decode cX0_measure 81 = .ok (.iconst 1, 1) := by decide +kernel
theorem dX0_measure_82 : decode cX0_measure 82 = .ok (.bastore, 1) := by decide +kernel
theorem dX0_measure_83 : decode cX0_measure 83 = .ok (.return_, 1) := by decide +kernel
theorem dX0_lowerAll_0 : decode cX0_lowerAll 0 = .ok (.iconst 0, 1) := by decide +kernel
theorem dX0_lowerAll_1 : decode cX0_lowerAll 1 = .ok (.istore_n 3, 1) := by decide +kernel
theorem dX0_lowerAll_2 : decode cX0_lowerAll 2 = .ok (.aload_n 0, 1) := by decide +kernel
theorem dX0_lowerAll_3 : decode cX0_lowerAll 3 = .ok (.getfield 41, 3) := by decide +kernel
theorem dX0_lowerAll_6 : decode cX0_lowerAll 6 = .ok (.getfield 75, 3) := by decide +kernel
theorem dX0_lowerAll_9 : decode cX0_lowerAll 9 = .ok (.istore 4, 2) := by decide +kernel
theorem dX0_lowerAll_11 : decode cX0_lowerAll 11 = .ok (.iload 4, 2) := by decide +kernel
theorem dX0_lowerAll_13 : decode cX0_lowerAll 13 = .ok (.aload_n 0, 1) := by decide +kernel
theorem dX0_lowerAll_14 : decode cX0_lowerAll 14 = .ok (.getfield 41, 3) := by decide +kernel
theorem dX0_lowerAll_17 : decode cX0_lowerAll 17 = .ok (.getfield 78, 3) := by decide +kernel
theorem dX0_lowerAll_20 : decode cX0_lowerAll 20 = .ok (.imul, 1) := by decide +kernel
theorem dX0_lowerAll_21 : decode cX0_lowerAll 21 = .ok (.istore 5, 2) := by decide +kernel
theorem dX0_lowerAll_23 : decode cX0_lowerAll 23 = .ok (.iconst 0, 1) := by decide +kernel
theorem dX0_lowerAll_24 : decode cX0_lowerAll 24 = .ok (.istore 6, 2) := by decide +kernel
theorem dX0_lowerAll_26 : decode cX0_lowerAll 26 = .ok (.iload 6, 2) := by decide +kernel
theorem dX0_lowerAll_28 : decode cX0_lowerAll 28 = .ok (.iload 5, 2) := by decide +kernel
theorem dX0_lowerAll_30 : decode cX0_lowerAll 30 = .ok (.if_icmp .ge 50, 3) := by decide +kernel
theorem dX0_lowerAll_33 : decode cX0_lowerAll 33 = .ok (.iload 4, 2) := by decide +kernel
theorem dX0_lowerAll_35 : decode cX0_lowerAll 35 = .ok (.ifCond .le 45, 3) := by decide +kernel
theorem dX0_lowerAll_38 : decode cX0_lowerAll 38 = .ok (.iload_n 2, 1) := by decide +kernel
theorem dX0_lowerAll_39 : decode cX0_lowerAll 39 = .ok (.ifCond .eq 8, 3) := by decide +kernel
theorem dX0_lowerAll_42 : decode cX0_lowerAll 42 = .ok (.iload 6, 2) := by decide +kernel
theorem dX0_lowerAll_44 : decode cX0_lowerAll 44 = .ok (.goto 10, 3) := by decide +kernel
theorem dX0_lowerAll_47 : decode cX0_lowerAll 47 = .ok (.iload 5, 2) := by decide +kernel
theorem dX0_lowerAll_49 : decode cX0_lowerAll 49 = .ok (.iconst 1, 1) := by decide +kernel
theorem dX0_lowerAll_50 : decode cX0_lowerAll 50 = .ok (.isub, 1) := by decide +kernel
theorem dX0_lowerAll_51 : decode cX0_lowerAll 51 = .ok (.iload 6, 2) := by decide +kernel
theorem dX0_lowerAll_53 : decode cX0_lowerAll 53 = .ok (.isub, 1) := by decide +kernel
theorem dX0_lowerAll_54 : decode cX0_lowerAll 54 = .ok (.istore 7, 2) := by decide +kernel
theorem dX0_lowerAll_56 : decode cX0_lowerAll 56 = .ok (.iload_n 3, 1) := by decide +kernel
theorem dX0_lowerAll_57 : decode cX0_lowerAll 57 = .ok (.aload_n 0, 1) := by decide +kernel
theorem dX0_lowerAll_58 : decode cX0_lowerAll 58 = .ok (.aload_n 1, 1) := by decide +kernel
theorem dX0_lowerAll_59 : decode cX0_lowerAll 59 = .ok (.iload 7, 2) := by decide +kernel
theorem dX0_lowerAll_61 : decode cX0_lowerAll 61 = .ok (.iload 4, 2) := by decide +kernel
theorem dX0_lowerAll_63 : decode cX0_lowerAll 63 = .ok (.irem, 1) := by decide +kernel
theorem dX0_lowerAll_64 : decode cX0_lowerAll 64 = .ok (.iload 7, 2) := by decide +kernel
theorem dX0_lowerAll_66 : decode cX0_lowerAll 66 = .ok (.iload 4, 2) := by decide +kernel
theorem dX0_lowerAll_68 : decode cX0_lowerAll 68 = .ok (.idiv, 1) := by decide +kernel
theorem dX0_lowerAll_69 : decode cX0_lowerAll 69 = .ok (.invokevirtual 81, 3) := by decide +kernel
theorem dX0_lowerAll_72 : decode cX0_lowerAll 72 = .ok (.ior, 1) := by decide +kernel
theorem dX0_lowerAll_73 : decode cX0_lowerAll 73 = .ok (.istore_n 3, 1) := by decide +kernel
theorem dX0_lowerAll_74 : decode cX0_lowerAll 74 = .ok (.iinc 6 1, 3) := by decide +kernel
theorem dX0_lowerAll_77 : decode cX0_lowerAll 77 = .ok (.goto (-51), 3) := by decide +kernel
theorem dX0_lowerAll_80 : decode cX0_lowerAll 80 = .ok (.iload_n 3, 1) := by decide +kernel
theorem dX0_lowerAll_81 : decode cX0_lowerAll 81 = .ok (.ireturn, 1) := by decide +kernel
theorem dX0_lower_0 : decode cX0_lower 0 = .ok (.iload_n 2, 1) := by decide +kernel
theorem dX0_lower_1 : decode cX0_lower 1 = .ok (.iload_n 3, 1) := by decide +kernel
theorem dX0_lower_2 : decode cX0_lower 2 = .ok (.invokestatic 85, 3) := by decide +kernel
theorem dX0_lower_5 : decode cX0_lower 5 = .ok (.istore 4, 2) := by decide +kernel
theorem dX0_lower_7 : decode cX0_lower 7 = .ok (.aload_n 1, 1) := by decide +kernel
theorem dX0_lower_8 : decode cX0_lower 8 = .ok (.iload 4, 2) := by decide +kernel
theorem dX0_lower_10 : decode cX0_lower 10 = .ok (.iaload, 1) := by decide +kernel
theorem dX0_lower_11 : decode cX0_lower 11 = .ok (.istore 5, 2) := by decide +kernel
theorem dX0_lower_13 : decode cX0_lower 13 = .ok (.iload 5, 2) := by decide +kernel
theorem dX0_lower_15 : decode cX0_lower 15 = .ok (.aload_n 0, 1) := by decide +kernel
theorem dX0_lower_16 : decode cX0_lower 16 = .ok (.aload_n 1, 1) := by decide +kernel
theorem dX0_lower_17 : decode cX0_lower 17 = .ok (.iload_n 2, 1) := by decide +kernel
theorem dX0_lower_18 : decode cX0_lower 18 = .ok (.iconst 1, 1) := by decide +kernel
theorem dX0_lower_19 : decode cX0_lower 19 = .ok (.isub, 1) := by decide +kernel
theorem dX0_lower_20 : decode cX0_lower 20 = .ok (.iload_n 3, 1) := by decide +kernel
theorem dX0_lower_21 : decode cX0_lower 21 = .ok (.iload 4, 2) := by decide +kernel
theorem dX0_lower_23 : decode cX0_lower 23 = .ok (.invokevirtual 89, 3) := by decide +kernel
theorem dX0_lower_26 : decode cX0_lower 26 = .ok (.invokestatic 93, 3) := by decide +kernel
theorem dX0_lower_29 : decode cX0_lower 29 = .ok (.istore 5, 2) := by decide +kernel
theorem dX0_lower_31 : decode cX0_lower 31 = .ok (.iload 5, 2) := by decide +kernel
theorem dX0_lower_33 : decode cX0_lower 33 = .ok (.aload_n 0, 1) := by decide +kernel
theorem dX0_lower_34 : decode cX0_lower 34 = .ok (.aload_n 1, 1) := by decide +kernel
theorem dX0_lower_35 : decode cX0_lower 35 = .ok (.iload_n 2, 1) := by decide +kernel
theorem dX0_lower_36 : decode cX0_lower 36 = .ok (.iconst 1, 1) := by decide +kernel
theorem dX0_lower_37 : decode cX0_lower 37 = .ok (.iadd, 1) := by decide +kernel
theorem dX0_lower_38 : decode cX0_lower 38 = .ok (.iload_n 3, 1) := by decide +kernel
theorem dX0_lower_39 : decode cX0_lower 39 = .ok (.iload 4, 2) := by decide +kernel
theorem dX0_lower_41 : decode cX0_lower 41 = .ok (.invokevirtual 89, 3) := by decide +kernel
theorem dX0_lower_44 : decode cX0_lower 44 = .ok (.invokestatic 93, 3) := by decide +kernel
theorem dX0_lower_47 : decode cX0_lower 47 = .ok (.istore 5, 2) := by decide +kernel
theorem dX0_lower_49 : decode cX0_lower 49 = .ok (.iload 5, 2) := by decide +kernel
theorem dX0_lower_51 : decode cX0_lower 51 = .ok (.aload_n 0, 1) := by decide +kernel
theorem dX0_lower_52 : decode cX0_lower 52 = .ok (.aload_n 1, 1) := by decide +kernel
theorem dX0_lower_53 : decode cX0_lower 53 = .ok (.iload_n 2, 1) := by decide +kernel
theorem dX0_lower_54 : decode cX0_lower 54 = .ok (.iload_n 3, 1) := by decide +kernel
theorem dX0_lower_55 : decode cX0_lower 55 = .ok (.iconst 1, 1) := by decide +kernel
theorem dX0_lower_56 : decode cX0_lower 56 = .ok (.isub, 1) := by decide +kernel
theorem dX0_lower_57 : decode cX0_lower 57 = .ok (.iload 4, 2) := by decide +kernel
theorem dX0_lower_59 : decode cX0_lower 59 = .ok (.invokevirtual 89, 3) := by decide +kernel
theorem dX0_lower_62 : decode cX0_lower 62 = .ok (.invokestatic 93, 3) := by decide +kernel
theorem dX0_lower_65 : decode cX0_lower 65 = .ok (.istore 5, 2) := by decide +kernel
theorem dX0_lower_67 : decode cX0_lower 67 = .ok (.iload 5, 2) := by decide +kernel
theorem dX0_lower_69 : decode cX0_lower 69 = .ok (.aload_n 0, 1) := by decide +kernel
theorem dX0_lower_70 : decode cX0_lower 70 = .ok (.aload_n 1, 1) := by decide +kernel
theorem dX0_lower_71 : decode cX0_lower 71 = .ok (.iload_n 2, 1) := by decide +kernel
theorem dX0_lower_72 : decode cX0_lower 72 = .ok (.iload_n 3, 1) := by decide +kernel
theorem dX0_lower_73 : decode cX0_lower 73 = .ok (.iconst 1, 1) := by decide +kernel
theorem dX0_lower_74 : decode cX0_lower 74 = .ok (.iadd, 1) := by decide +kernel
theorem dX0_lower_75 : decode cX0_lower 75 = .ok (.iload 4, 2) := by decide +kernel
theorem dX0_lower_77 : decode cX0_lower 77 = .ok (.invokevirtual 89, 3) := by decide +kernel
theorem dX0_lower_80 : decode cX0_lower 80 = .ok (.invokestatic 93, 3) := by decide +kernel
theorem dX0_lower_83 : decode cX0_lower 83 = .ok (.istore 5, 2) := by decide +kernel
theorem dX0_lower_85 : decode cX0_lower 85 = .ok (.iload 5, 2) := by decide +kernel
theorem dX0_lower_87 : decode cX0_lower 87 = .ok (.aload_n 1, 1) := by decide +kernel
theorem dX0_lower_88 : decode cX0_lower 88 = .ok (.iload 4, 2) := by decide +kernel
theorem dX0_lower_90 : decode cX0_lower 90 = .ok (.iaload, 1) := by decide +kernel
theorem dX0_lower_91 : decode cX0_lower 91 = .ok (.if_icmp .ge 7, 3) := by decide +kernel
theorem dX0_lower_94 : decode cX0_lower 94 = .ok (.iconst 1, 1) := by decide +kernel
theorem dX0_lower_95 : decode cX0_lower 95 = .ok (.goto 4, 3) := by decide +kernel
theorem dX0_lower_98 : decode cX0_lower 98 = .ok (.iconst 0, 1) := by decide +kernel
theorem dX0_lower_99 : decode cX0_lower 99 = .ok (.istore 6, 2) := by decide +kernel
theorem dX0_lower_101 : decode cX0_lower 101 = .ok (.aload_n 1, 1) := by decide +kernel
theorem dX0_lower_102 : decode cX0_lower 102 = .ok (.iload 4, 2) := by decide +kernel
theorem dX0_lower_104 : decode cX0_lower 104 = .ok (.iload 5, 2) := by decide +kernel
theorem dX0_lower_106 : decode cX0_lower 106 = .ok (.iastore, 1) := by decide +kernel
theorem dX0_lower_107 : decode cX0_lower 107 = .ok (.iload 6, 2) := by decide +kernel
theorem dX0_lower_109 : decode cX0_lower 109 = .ok (.ireturn, 1) := by decide +kernel
theorem dX0_over_0 : decode cX0_over 0 = .ok (.aload_n 0, 1) := by decide +kernel
theorem dX0_over_1 : decode cX0_over 1 = .ok (.getfield 41, 3) := by decide +kernel
theorem dX0_over_4 : decode cX0_over 4 = .ok (.iload_n 2, 1) := by decide +kernel
theorem dX0_over_5 : decode cX0_over 5 = .ok (.iload_n 3, 1) := by decide +kernel
theorem dX0_over_6 : decode cX0_over 6 = .ok (.invokevirtual 98, 3) := by decide +kernel
theorem dX0_over_9 : decode cX0_over 9 = .ok (.ifCond .ne 6, 3) := by decide +kernel
theorem dX0_over_12 : decode cX0_over 12 = .ok (.ldc 61, 2) := by decide +kernel
theorem dX0_over_14 : decode cX0_over 14 = .ok (.ireturn, 1) := by decide +kernel
theorem dX0_over_15 : decode cX0_over 15 = .ok (.iload_n 2, 1) := by decide +kernel
theorem dX0_over_16 : decode cX0_over 16 = .ok (.iload_n 3, 1) := by decide +kernel
theorem dX0_over_17 : decode cX0_over 17 = .ok (.invokestatic 85, 3) := by decide +kernel
theorem dX0_over_20 : decode cX0_over 20 = .ok (.istore 5, 2) := by decide +kernel
theorem dX0_over_22 : decode cX0_over 22 = .ok (.aload_n 0, 1) := by decide +kernel
theorem dX0_over_23 : decode cX0_over 23 = .ok (.getfield 41, 3) := by decide +kernel
theorem dX0_over_26 : decode cX0_over 26 = .ok (.getfield 102, 3) := by decide +kernel
theorem dX0_over_29 : decode cX0_over 29 = .ok (.iload 4, 2) := by decide +kernel
theorem dX0_over_31 : decode cX0_over 31 = .ok (.iaload, 1) := by decide +kernel
theorem dX0_over_32 : decode cX0_over 32 = .ok (.aload_n 0, 1) := by decide +kernel
theorem dX0_over_33 : decode cX0_over 33 = .ok (.getfield 41, 3) := by decide +kernel
theorem dX0_over_36 : decode cX0_over 36 = .ok (.getfield 102, 3) := by decide +kernel
theorem dX0_over_39 : decode cX0_over 39 = .ok (.iload 5, 2) := by decide +kernel
theorem dX0_over_41 : decode cX0_over 41 = .ok (.iaload, 1) := by decide +kernel
theorem dX0_over_42 : decode cX0_over 42 = .ok (.isub, 1) := by decide +kernel
theorem dX0_over_43 : decode cX0_over 43 = .ok (.istore 6, 2) := by decide +kernel
theorem dX0_over_45 : decode cX0_over 45 = .ok (.iload 6, 2) := by decide +kernel
theorem dX0_over_47 : decode cX0_over 47 = .ok (.ifCond .le 10, 3) := by decide +kernel
theorem dX0_over_50 : decode cX0_over 50 = .ok (.iconst 2, 1) := by decide +kernel
theorem dX0_over_51 : decode cX0_over 51 = .ok (.iload 6, 2) := by decide +kernel
theorem dX0_over_53 : decode cX0_over 53 = .ok (.imul, 1) := by decide +kernel
theorem dX0_over_54 : decode cX0_over 54 = .ok (.goto 6, 3) := by decide +kernel
theorem dX0_over_57 : decode cX0_over 57 = .ok (.iload 6, 2) := by decide +kernel
theorem dX0_over_59 : decode cX0_over 59 = .ok (.ineg, 1) := by decide +kernel
theorem dX0_over_60 : decode cX0_over 60 = .ok (.istore 7, 2) := by decide +kernel
theorem dX0_over_62 : decode cX0_over 62 = .ok (.aload_n 1, 1) := by decide +kernel
theorem dX0_over_63 : decode cX0_over 63 = .ok (.iload 5, 2) := by decide +kernel
theorem dX0_over_65 : decode cX0_over 65 = .ok (.iaload, 1) := by decide +kernel
theorem dX0_over_66 : decode cX0_over 66 = .ok (.bipush 10, 2) := by decide +kernel
theorem dX0_over_68 : decode cX0_over 68 = .ok (.iadd, 1) := by decide +kernel
theorem dX0_over_69 : decode cX0_over 69 = .ok (.iload 7, 2) := by decide +kernel
theorem dX0_over_71 : decode cX0_over 71 = .ok (.iadd, 1) := by decide +kernel
theorem dX0_over_72 : decode cX0_over 72 = .ok (.iconst 5, 1) := by decide +kernel
theorem dX0_over_73 : decode cX0_over 73 = .ok (.aload_n 0, 1) := by decide +kernel
theorem dX0_over_74 : decode cX0_over 74 = .ok (.getfield 41, 3) := by decide +kernel
theorem dX0_over_77 : decode cX0_over 77 = .ok (.getfield 105, 3) := by decide +kernel
theorem dX0_over_80 : decode cX0_over 80 = .ok (.iload 4, 2) := by decide +kernel
theorem dX0_over_82 : decode cX0_over 82 = .ok (.iaload, 1) := by decide +kernel
theorem dX0_over_83 : decode cX0_over 83 = .ok (.imul, 1) := by decide +kernel
theorem dX0_over_84 : decode cX0_over 84 = .ok (.iadd, 1) := by decide +kernel
theorem dX0_over_85 : decode cX0_over 85 = .ok (.ireturn, 1) := by decide +kernel
theorem dX0_carryAll_0 : decode cX0_carryAll 0 = .ok (.aload_n 0, 1) := by decide +kernel
theorem dX0_carryAll_1 : decode cX0_carryAll 1 = .ok (.iload_n 1, 1) := by decide +kernel
theorem dX0_carryAll_2 : decode cX0_carryAll 2 = .ok (.invokevirtual 108, 3) := by decide +kernel
theorem dX0_carryAll_5 : decode cX0_carryAll 5 = .ok (.iconst 0, 1) := by decide +kernel
theorem dX0_carryAll_6 : decode cX0_carryAll 6 = .ok (.istore_n 2, 1) := by decide +kernel
theorem dX0_carryAll_7 : decode cX0_carryAll 7 = .ok (.iconst 0, 1) := by decide +kernel
theorem dX0_carryAll_8 : decode cX0_carryAll 8 = .ok (.istore_n 3, 1) := by decide +kernel
theorem dX0_carryAll_9 : decode cX0_carryAll 9 = .ok (.iload_n 3, 1) := by decide +kernel
theorem dX0_carryAll_10 : decode cX0_carryAll 10 = .ok (.bipush 24, 2) := by decide +kernel
theorem dX0_carryAll_12 : decode cX0_carryAll 12 = .ok (.if_icmp .ge 41, 3) := by decide +kernel
theorem dX0_carryAll_15 : decode cX0_carryAll 15 = .ok (.aload_n 0, 1) := by decide +kernel
theorem dX0_carryAll_16 : decode cX0_carryAll 16 = .ok (.invokevirtual 111, 3) := by decide +kernel
theorem dX0_carryAll_19 : decode cX0_carryAll 19 = .ok (.istore 4, 2) := by decide +kernel
theorem dX0_carryAll_21 : decode cX0_carryAll 21 = .ok (.iload 4, 2) := by decide +kernel
theorem dX0_carryAll_23 : decode cX0_carryAll 23 = .ok (.iconst (-1), 1) := by decide +kernel
theorem dX0_carryAll_24 : decode cX0_carryAll 24 = .ok (.if_icmp .ne 6, 3) := by decide +kernel
theorem dX0_carryAll_27 : decode cX0_carryAll 27 = .ok (.goto 26, 3) := by decide +kernel
theorem dX0_carryAll_30 : decode cX0_carryAll 30 = .ok (.iload_n 2, 1) := by decide +kernel
theorem dX0_carryAll_31 : decode cX0_carryAll 31 = .ok (.aload_n 0, 1) := by decide +kernel
theorem dX0_carryAll_32 : decode cX0_carryAll 32 = .ok (.iload 4, 2) := by decide +kernel
theorem dX0_carryAll_34 : decode cX0_carryAll 34 = .ok (.bipush 12, 2) := by decide +kernel
theorem dX0_carryAll_36 : decode cX0_carryAll 36 = .ok (.idiv, 1) := by decide +kernel
theorem dX0_carryAll_37 : decode cX0_carryAll 37 = .ok (.iload 4, 2) := by decide +kernel
theorem dX0_carryAll_39 : decode cX0_carryAll 39 = .ok (.bipush 12, 2) := by decide +kernel
theorem dX0_carryAll_41 : decode cX0_carryAll 41 = .ok (.irem, 1) := by decide +kernel
theorem dX0_carryAll_42 : decode cX0_carryAll 42 = .ok (.invokevirtual 115, 3) := by decide +kernel
theorem dX0_carryAll_45 : decode cX0_carryAll 45 = .ok (.iadd, 1) := by decide +kernel
theorem dX0_carryAll_46 : decode cX0_carryAll 46 = .ok (.istore_n 2, 1) := by decide +kernel
theorem dX0_carryAll_47 : decode cX0_carryAll 47 = .ok (.iinc 3 1, 3) := by decide +kernel
theorem dX0_carryAll_50 : decode cX0_carryAll 50 = .ok (.goto (-41), 3) := by decide +kernel
theorem dX0_carryAll_53 : decode cX0_carryAll 53 = .ok (.iload_n 2, 1) := by decide +kernel
theorem dX0_carryAll_54 : decode cX0_carryAll 54 = .ok (.ireturn, 1) := by decide +kernel
theorem dX0_begin_0 : decode cX0_begin 0 = .ok (.aload_n 0, 1) := by decide +kernel
theorem dX0_begin_1 : decode cX0_begin 1 = .ok (.aload_n 0, 1) := by decide +kernel
theorem dX0_begin_2 : decode cX0_begin 2 = .ok (.getfield 45, 3) := by decide +kernel
theorem dX0_begin_5 : decode cX0_begin 5 = .ok (.getfield 49, 3) := by decide +kernel
theorem dX0_begin_8 : decode cX0_begin 8 = .ok (.putfield 37, 3) := by decide +kernel
theorem dX0_begin_11 : decode cX0_begin 11 = .ok (.iconst 0, 1) := by decide +kernel
theorem dX0_begin_12 : decode cX0_begin 12 = .ok (.istore_n 2, 1) := by decide +kernel
theorem dX0_begin_13 : decode cX0_begin 13 = .ok (.iload_n 2, 1) := by decide +kernel
theorem dX0_begin_14 : decode cX0_begin 14 = .ok (.aload_n 0, 1) := by decide +kernel
theorem dX0_begin_15 : decode cX0_begin 15 = .ok (.getfield 45, 3) := by decide +kernel
theorem dX0_begin_18 : decode cX0_begin 18 = .ok (.getfield 49, 3) := by decide +kernel
theorem dX0_begin_21 : decode cX0_begin 21 = .ok (.if_icmp .ge 71, 3) := by decide +kernel
theorem dX0_begin_24 : decode cX0_begin 24 = .ok (.aload_n 0, 1) := by decide +kernel
theorem dX0_begin_25 : decode cX0_begin 25 = .ok (.getfield 24, 3) := by decide +kernel
theorem dX0_begin_28 : decode cX0_begin 28 = .ok (.iload_n 2, 1) := by decide +kernel
theorem dX0_begin_29 : decode cX0_begin 29 = .ok (.aload_n 0, 1) := by decide +kernel
theorem dX0_begin_30 : decode cX0_begin 30 = .ok (.getfield 45, 3) := by decide +kernel
theorem dX0_begin_33 : decode cX0_begin 33 = .ok (.getfield 54, 3) := by decide +kernel
theorem dX0_begin_36 : decode cX0_begin 36 = .ok (.iload_n 2, 1) := by decide +kernel
theorem dX0_begin_37 : decode cX0_begin 37 = .ok (.iaload, 1) := by decide +kernel
theorem dX0_begin_38 : decode cX0_begin 38 = .ok (.iastore, 1) := by decide +kernel
theorem dX0_begin_39 : decode cX0_begin 39 = .ok (.aload_n 0, 1) := by decide +kernel
theorem dX0_begin_40 : decode cX0_begin 40 = .ok (.getfield 28, 3) := by decide +kernel
theorem dX0_begin_43 : decode cX0_begin 43 = .ok (.iload_n 2, 1) := by decide +kernel
theorem dX0_begin_44 : decode cX0_begin 44 = .ok (.iconst 0, 1) := by decide +kernel
theorem dX0_begin_45 : decode cX0_begin 45 = .ok (.iastore, 1) := by decide +kernel
theorem dX0_begin_46 : decode cX0_begin 46 = .ok (.aload_n 0, 1) := by decide +kernel
theorem dX0_begin_47 : decode cX0_begin 47 = .ok (.getfield 31, 3) := by decide +kernel
theorem dX0_begin_50 : decode cX0_begin 50 = .ok (.iload_n 2, 1) := by decide +kernel
theorem dX0_begin_51 : decode cX0_begin 51 = .ok (.aload_n 0, 1) := by decide +kernel
theorem dX0_begin_52 : decode cX0_begin 52 = .ok (.getfield 45, 3) := by decide +kernel
theorem dX0_begin_55 : decode cX0_begin 55 = .ok (.getfield 54, 3) := by decide +kernel
theorem dX0_begin_58 : decode cX0_begin 58 = .ok (.iload_n 2, 1) := by decide +kernel
theorem dX0_begin_59 : decode cX0_begin 59 = .ok (.iaload, 1) := by decide +kernel
theorem dX0_begin_60 : decode cX0_begin 60 = .ok (.ifCond .ne 17, 3) := by decide +kernel
theorem dX0_begin_63 : decode cX0_begin 63 = .ok (.aload_n 0, 1) := by decide +kernel
theorem dX0_begin_64 : decode cX0_begin 64 = .ok (.getfield 45, 3) := by decide +kernel
theorem dX0_begin_67 : decode cX0_begin 67 = .ok (.getfield 118, 3) := by decide +kernel
theorem dX0_begin_70 : decode cX0_begin 70 = .ok (.iload_n 2, 1) := by decide +kernel
theorem dX0_begin_71 : decode cX0_begin 71 = .ok (.iaload, 1) := by decide +kernel
theorem dX0_begin_72 : decode cX0_begin 72 = .ok (.iload_n 1, 1) := by decide +kernel
theorem dX0_begin_73 : decode cX0_begin 73 = .ok (.imul, 1) := by decide +kernel
theorem dX0_begin_74 : decode cX0_begin 74 = .ok (.goto 4, 3) := by decide +kernel
theorem dX0_begin_77 : decode cX0_begin 77 = .ok (.iconst 0, 1) := by decide +kernel
theorem dX0_begin_78 : decode cX0_begin 78 = .ok (.iastore, 1) := by decide +kernel
theorem dX0_begin_79 : decode cX0_begin 79 = .ok (.aload_n 0, 1) := by decide +kernel
theorem dX0_begin_80 : decode cX0_begin 80 = .ok (.getfield 34, 3) := by decide +kernel
theorem dX0_begin_83 : decode cX0_begin 83 = .ok (.iload_n 2, 1) := by decide +kernel
theorem dX0_begin_84 : decode cX0_begin 84 = .ok (.iconst (-1), 1) := by decide +kernel
theorem dX0_begin_85 : decode cX0_begin 85 = .ok (.iastore, 1) := by decide +kernel
theorem dX0_begin_86 : decode cX0_begin 86 = .ok (.iinc 2 1, 3) := by decide +kernel
theorem dX0_begin_89 : decode cX0_begin 89 = .ok (.goto (-76), 3) := by decide +kernel
theorem dX0_begin_92 : decode cX0_begin 92 = .ok (.return_, 1) := by decide +kernel
theorem dX0_nearestPair_0 : decode cX0_nearestPair 0 = .ok (.iconst (-1), 1) := by decide +kernel
theorem dX0_nearestPair_1 : decode cX0_nearestPair 1 = .ok (.istore_n 1, 1) := by decide +kernel
theorem dX0_nearestPair_2 : decode cX0_nearestPair 2 = .ok (.ldc 61, 2) := by decide +kernel
theorem dX0_nearestPair_4 : decode cX0_nearestPair 4 = .ok (.istore_n 2, 1) := by decide +kernel
theorem dX0_nearestPair_5 : decode cX0_nearestPair 5 = .ok (.iconst 0, 1) := by decide +kernel
theorem dX0_nearestPair_6 : decode cX0_nearestPair 6 = .ok (.istore_n 3, 1) := by decide +kernel
theorem dX0_nearestPair_7 : decode cX0_nearestPair 7 = .ok (.iload_n 3, 1) := by decide +kernel
theorem dX0_nearestPair_8 : decode cX0_nearestPair 8 = .ok (.aload_n 0, 1) := by decide +kernel
theorem dX0_nearestPair_9 : decode cX0_nearestPair 9 = .ok (.getfield 45, 3) := by decide +kernel
theorem dX0_nearestPair_12 : decode cX0_nearestPair 12 = .ok (.getfield 49, 3) := by decide +kernel
theorem dX0_nearestPair_15 : decode cX0_nearestPair 15 = .ok (.if_icmp .ge 84, 3) := by decide +kernel
theorem dX0_nearestPair_18 : decode cX0_nearestPair 18 = .ok (.iconst 0, 1) := by decide +kernel
theorem dX0_nearestPair_19 : decode cX0_nearestPair 19 = .ok (.istore 4, 2) := by decide +kernel
theorem dX0_nearestPair_21 : decode cX0_nearestPair 21 = .ok (.iload 4, 2) := by decide +kernel
theorem dX0_nearestPair_23 : decode cX0_nearestPair 23 = .ok (.aload_n 0, 1) := by decide +kernel
theorem dX0_nearestPair_24 : decode cX0_nearestPair 24 = .ok (.getfield 45, 3) := by decide +kernel
theorem dX0_nearestPair_27 : decode cX0_nearestPair 27 = .ok (.getfield 49, 3) := by decide +kernel
theorem dX0_nearestPair_30 : decode cX0_nearestPair 30 = .ok (.if_icmp .ge 63, 3) := by decide +kernel
theorem dX0_nearestPair_33 : decode cX0_nearestPair 33 = .ok (.aload_n 0, 1) := by decide +kernel
theorem dX0_nearestPair_34 : decode cX0_nearestPair 34 = .ok (.iload_n 3, 1) := by decide +kernel
theorem dX0_nearestPair_35 : decode cX0_nearestPair 35 = .ok (.invokevirtual 121, 3) := by decide +kernel
theorem dX0_nearestPair_38 : decode cX0_nearestPair 38 = .ok (.ifCond .eq 55, 3) := by decide +kernel
theorem dX0_nearestPair_41 : decode cX0_nearestPair 41 = .ok (.aload_n 0, 1) := by decide +kernel
theorem dX0_nearestPair_42 : decode cX0_nearestPair 42 = .ok (.getfield 15, 3) := by decide +kernel
theorem dX0_nearestPair_45 : decode cX0_nearestPair 45 = .ok (.iload_n 3, 1) := by decide +kernel
theorem dX0_nearestPair_46 : decode cX0_nearestPair 46 = .ok (.aaload, 1) := by decide +kernel
theorem dX0_nearestPair_47 : decode cX0_nearestPair 47 = .ok (.aload_n 0, 1) := by decide +kernel
theorem dX0_nearestPair_48 : decode cX0_nearestPair 48 = .ok (.getfield 45, 3) := by decide +kernel
theorem dX0_nearestPair_51 : decode cX0_nearestPair 51 = .ok (.getfield 68, 3) := by decide +kernel
theorem dX0_nearestPair_54 : decode cX0_nearestPair 54 = .ok (.iload 4, 2) := by decide +kernel
theorem dX0_nearestPair_56 : decode cX0_nearestPair 56 = .ok (.iaload, 1) := by decide +kernel
theorem dX0_nearestPair_57 : decode cX0_nearestPair 57 = .ok (.iaload, 1) := by decide +kernel
theorem dX0_nearestPair_58 : decode cX0_nearestPair 58 = .ok (.istore 5, 2) := by decide +kernel
theorem dX0_nearestPair_60 : decode cX0_nearestPair 60 = .ok (.aload_n 0, 1) := by decide +kernel
theorem dX0_nearestPair_61 : decode cX0_nearestPair 61 = .ok (.getfield 31, 3) := by decide +kernel
theorem dX0_nearestPair_64 : decode cX0_nearestPair 64 = .ok (.iload 4, 2) := by decide +kernel
theorem dX0_nearestPair_66 : decode cX0_nearestPair 66 = .ok (.iaload, 1) := by decide +kernel
theorem dX0_nearestPair_67 : decode cX0_nearestPair 67 = .ok (.ifCond .le 20, 3) := by decide +kernel
theorem dX0_nearestPair_70 : decode cX0_nearestPair 70 = .ok (.iload 5, 2) := by decide +kernel
theorem dX0_nearestPair_72 : decode cX0_nearestPair 72 = .ok (.iload_n 2, 1) := by decide +kernel
theorem dX0_nearestPair_73 : decode cX0_nearestPair 73 = .ok (.if_icmp .ge 14, 3) := by decide +kernel
theorem dX0_nearestPair_76 : decode cX0_nearestPair 76 = .ok (.iload_n 3, 1) := by decide +kernel
theorem dX0_nearestPair_77 : decode cX0_nearestPair 77 = .ok (.bipush 12, 2) := by decide +kernel
theorem dX0_nearestPair_79 : decode cX0_nearestPair 79 = .ok (.imul, 1) := by decide +kernel
theorem dX0_nearestPair_80 : decode cX0_nearestPair 80 = .ok (.iload 4, 2) := by decide +kernel
theorem dX0_nearestPair_82 : decode cX0_nearestPair 82 = .ok (.iadd, 1) := by decide +kernel
theorem dX0_nearestPair_83 : decode cX0_nearestPair 83 = .ok (.istore_n 1, 1) := by decide +kernel
theorem dX0_nearestPair_84 : decode cX0_nearestPair 84 = .ok (.iload 5, 2) := by decide +kernel
theorem dX0_nearestPair_86 : decode cX0_nearestPair 86 = .ok (.istore_n 2, 1) := by decide +kernel
theorem dX0_nearestPair_87 : decode cX0_nearestPair 87 = .ok (.iinc 4 1, 3) := by decide +kernel
theorem dX0_nearestPair_90 : decode cX0_nearestPair 90 = .ok (.goto (-69), 3) := by decide +kernel
theorem dX0_nearestPair_93 : decode cX0_nearestPair 93 = .ok (.iinc 3 1, 3) := by decide +kernel
theorem dX0_nearestPair_96 : decode cX0_nearestPair 96 = .ok (.goto (-89), 3) := by decide +kernel
theorem dX0_nearestPair_99 : decode cX0_nearestPair 99 = .ok (.iload_n 1, 1) := by decide +kernel
theorem dX0_nearestPair_100 : decode cX0_nearestPair 100 = .ok (.ireturn, 1) := by decide +kernel
theorem dX0_hasStore_0 : decode cX0_hasStore 0 = .ok (.aload_n 0, 1) := by decide +kernel
theorem dX0_hasStore_1 : decode cX0_hasStore 1 = .ok (.getfield 45, 3) := by decide +kernel
theorem dX0_hasStore_4 : decode cX0_hasStore 4 = .ok (.getfield 54, 3) := by decide +kernel
theorem dX0_hasStore_7 : decode cX0_hasStore 7 = .ok (.iload_n 1, 1) := by decide +kernel
theorem dX0_hasStore_8 : decode cX0_hasStore 8 = .ok (.iaload, 1) := by decide +kernel
theorem dX0_hasStore_9 : decode cX0_hasStore 9 = .ok (.ifCond .ne 19, 3) := by decide +kernel
theorem dX0_hasStore_12 : decode cX0_hasStore 12 = .ok (.aload_n 0, 1) := by decide +kernel
theorem dX0_hasStore_13 : decode cX0_hasStore 13 = .ok (.getfield 45, 3) := by decide +kernel
theorem dX0_hasStore_16 : decode cX0_hasStore 16 = .ok (.getfield 125, 3) := by decide +kernel
theorem dX0_hasStore_19 : decode cX0_hasStore 19 = .ok (.iload_n 1, 1) := by decide +kernel
theorem dX0_hasStore_20 : decode cX0_hasStore 20 = .ok (.iaload, 1) := by decide +kernel
theorem dX0_hasStore_21 : decode cX0_hasStore 21 = .ok (.ifCond .le 7, 3) := by decide +kernel
theorem dX0_hasStore_24 : decode cX0_hasStore 24 = .ok (.iconst 1, 1) := by decide +kernel
theorem dX0_hasStore_25 : decode cX0_hasStore 25 = .ok (.goto 4, 3) := by decide +kernel
theorem dX0_hasStore_28 : decode cX0_hasStore 28 = .ok (.iconst 0, 1) := by decide +kernel
theorem dX0_hasStore_29 : decode cX0_hasStore 29 = .ok (.ireturn, 1) := by decide +kernel
theorem dX0_carry_0 : decode cX0_carry 0 = .ok (.aload_n 0, 1) := by decide +kernel
theorem dX0_carry_1 : decode cX0_carry 1 = .ok (.getfield 45, 3) := by decide +kernel
theorem dX0_carry_4 : decode cX0_carry 4 = .ok (.getfield 125, 3) := by decide +kernel
theorem dX0_carry_7 : decode cX0_carry 7 = .ok (.iload_n 1, 1) := by decide +kernel
theorem dX0_carry_8 : decode cX0_carry 8 = .ok (.iaload, 1) := by decide +kernel
theorem dX0_carry_9 : decode cX0_carry 9 = .ok (.aload_n 0, 1) := by decide +kernel
theorem dX0_carry_10 : decode cX0_carry 10 = .ok (.getfield 31, 3) := by decide +kernel
theorem dX0_carry_13 : decode cX0_carry 13 = .ok (.iload_n 2, 1) := by decide +kernel
theorem dX0_carry_14 : decode cX0_carry 14 = .ok (.iaload, 1) := by decide +kernel
theorem dX0_carry_15 : decode cX0_carry 15 = .ok (.invokestatic 93, 3) := by decide +kernel
theorem dX0_carry_18 : decode cX0_carry 18 = .ok (.istore_n 3, 1) := by decide +kernel
theorem dX0_carry_19 : decode cX0_carry 19 = .ok (.aload_n 0, 1) := by decide +kernel
theorem dX0_carry_20 : decode cX0_carry 20 = .ok (.getfield 45, 3) := by decide +kernel
theorem dX0_carry_23 : decode cX0_carry 23 = .ok (.getfield 125, 3) := by decide +kernel
theorem dX0_carry_26 : decode cX0_carry 26 = .ok (.iload_n 1, 1) := by decide +kernel
theorem dX0_carry_27 : decode cX0_carry 27 = .ok (.dup2, 1) := by decide +kernel
theorem dX0_carry_28 : decode cX0_carry 28 = .ok (.iaload, 1) := by decide +kernel
theorem dX0_carry_29 : decode cX0_carry 29 = .ok (.iload_n 3, 1) := by decide +kernel
theorem dX0_carry_30 : decode cX0_carry 30 = .ok (.isub, 1) := by decide +kernel
theorem dX0_carry_31 : decode cX0_carry 31 = .ok (.iastore, 1) := by decide +kernel
theorem dX0_carry_32 : decode cX0_carry 32 = .ok (.aload_n 0, 1) := by decide +kernel
theorem dX0_carry_33 : decode cX0_carry 33 = .ok (.getfield 31, 3) := by decide +kernel
theorem dX0_carry_36 : decode cX0_carry 36 = .ok (.iload_n 2, 1) := by decide +kernel
theorem dX0_carry_37 : decode cX0_carry 37 = .ok (.dup2, 1) := by decide +kernel
theorem dX0_carry_38 : decode cX0_carry 38 = .ok (.iaload, 1) := by decide +kernel
theorem dX0_carry_39 : decode cX0_carry 39 = .ok (.iload_n 3, 1) := by decide +kernel
theorem dX0_carry_40 : decode cX0_carry 40 = .ok (.isub, 1) := by decide +kernel
theorem dX0_carry_41 : decode cX0_carry 41 = .ok (.iastore, 1) := by decide +kernel
theorem dX0_carry_42 : decode cX0_carry 42 = .ok (.aload_n 0, 1) := by decide +kernel
theorem dX0_carry_43 : decode cX0_carry 43 = .ok (.getfield 28, 3) := by decide +kernel
theorem dX0_carry_46 : decode cX0_carry 46 = .ok (.iload_n 2, 1) := by decide +kernel
theorem dX0_carry_47 : decode cX0_carry 47 = .ok (.dup2, 1) := by decide +kernel
theorem dX0_carry_48 : decode cX0_carry 48 = .ok (.iaload, 1) := by decide +kernel
theorem dX0_carry_49 : decode cX0_carry 49 = .ok (.iload_n 3, 1) := by decide +kernel
theorem dX0_carry_50 : decode cX0_carry 50 = .ok (.iadd, 1) := by decide +kernel
theorem dX0_carry_51 : decode cX0_carry 51 = .ok (.iastore, 1) := by decide +kernel
theorem dX0_carry_52 : decode cX0_carry 52 = .ok (.aload_n 0, 1) := by decide +kernel
theorem dX0_carry_53 : decode cX0_carry 53 = .ok (.getfield 34, 3) := by decide +kernel
theorem dX0_carry_56 : decode cX0_carry 56 = .ok (.iload_n 2, 1) := by decide +kernel
theorem dX0_carry_57 : decode cX0_carry 57 = .ok (.iaload, 1) := by decide +kernel
theorem dX0_carry_58 : decode cX0_carry 58 = .ok (.iconst (-1), 1) := by decide +kernel
theorem dX0_carry_59 : decode cX0_carry 59 = .ok (.if_icmp .ne 10, 3) := by decide +kernel
theorem dX0_carry_62 : decode cX0_carry 62 = .ok (.aload_n 0, 1) := by decide +kernel
theorem dX0_carry_63 : decode cX0_carry 63 = .ok (.getfield 34, 3) := by decide +kernel
theorem dX0_carry_66 : decode cX0_carry 66 = .ok (.iload_n 2, 1) := by decide +kernel
theorem dX0_carry_67 : decode cX0_carry 67 = .ok (.iload_n 1, 1) := by decide +kernel
theorem dX0_carry_68 : decode cX0_carry 68 = .ok (.iastore, 1) := by decide +kernel
theorem dX0_carry_69 : decode cX0_carry 69 = .ok (.iload_n 3, 1) := by decide +kernel
theorem dX0_carry_70 : decode cX0_carry 70 = .ok (.aload_n 0, 1) := by decide +kernel
theorem dX0_carry_71 : decode cX0_carry 71 = .ok (.getfield 15, 3) := by decide +kernel
theorem dX0_carry_74 : decode cX0_carry 74 = .ok (.iload_n 1, 1) := by decide +kernel
theorem dX0_carry_75 : decode cX0_carry 75 = .ok (.aaload, 1) := by decide +kernel
theorem dX0_carry_76 : decode cX0_carry 76 = .ok (.aload_n 0, 1) := by decide +kernel
theorem dX0_carry_77 : decode cX0_carry 77 = .ok (.getfield 45, 3) := by decide +kernel
theorem dX0_carry_80 : decode cX0_carry 80 = .ok (.getfield 68, 3) := by decide +kernel
theorem dX0_carry_83 : decode cX0_carry 83 = .ok (.iload_n 2, 1) := by decide +kernel
theorem dX0_carry_84 : decode cX0_carry 84 = .ok (.iaload, 1) := by decide +kernel
theorem dX0_carry_85 : decode cX0_carry 85 = .ok (.iaload, 1) := by decide +kernel
theorem dX0_carry_86 : decode cX0_carry 86 = .ok (.imul, 1) := by decide +kernel
theorem dX0_carry_87 : decode cX0_carry 87 = .ok (.ireturn, 1) := by decide +kernel
theorem dX0_told_0 : decode cX0_told 0 = .ok (.iload_n 1, 1) := by decide +kernel
theorem dX0_told_1 : decode cX0_told 1 = .ok (.ifCond .lt 21, 3) := by decide +kernel
theorem dX0_told_4 : decode cX0_told 4 = .ok (.iload_n 1, 1) := by decide +kernel
theorem dX0_told_5 : decode cX0_told 5 = .ok (.aload_n 0, 1) := by decide +kernel
theorem dX0_told_6 : decode cX0_told 6 = .ok (.getfield 37, 3) := by decide +kernel
theorem dX0_told_9 : decode cX0_told 9 = .ok (.if_icmp .ge 13, 3) := by decide +kernel
theorem dX0_told_12 : decode cX0_told 12 = .ok (.aload_n 0, 1) := by decide +kernel
theorem dX0_told_13 : decode cX0_told 13 = .ok (.getfield 24, 3) := by decide +kernel
theorem dX0_told_16 : decode cX0_told 16 = .ok (.iload_n 1, 1) := by decide +kernel
theorem dX0_told_17 : decode cX0_told 17 = .ok (.iaload, 1) := by decide +kernel
theorem dX0_told_18 : decode cX0_told 18 = .ok (.iconst 2, 1) := by decide +kernel
theorem dX0_told_19 : decode cX0_told 19 = .ok (.if_icmp .ne 5, 3) := by decide +kernel
theorem dX0_told_22 : decode cX0_told 22 = .ok (.iconst (-1), 1) := by decide +kernel
theorem dX0_told_23 : decode cX0_told 23 = .ok (.ireturn, 1) := by decide +kernel
theorem dX0_told_24 : decode cX0_told 24 = .ok (.iload_n 2, 1) := by decide +kernel
theorem dX0_told_25 : decode cX0_told 25 = .ok (.tableswitch 48 0 2 #[27, 34, 41], 27) := by decide +kernel
theorem dX0_told_52 : decode cX0_told 52 = .ok (.aload_n 0, 1) := by decide +kernel
theorem dX0_told_53 : decode cX0_told 53 = .ok (.getfield 28, 3) := by decide +kernel
theorem dX0_told_56 : decode cX0_told 56 = .ok (.iload_n 1, 1) := by decide +kernel
theorem dX0_told_57 : decode cX0_told 57 = .ok (.iaload, 1) := by decide +kernel
theorem dX0_told_58 : decode cX0_told 58 = .ok (.ireturn, 1) := by decide +kernel
theorem dX0_told_59 : decode cX0_told 59 = .ok (.aload_n 0, 1) := by decide +kernel
theorem dX0_told_60 : decode cX0_told 60 = .ok (.getfield 31, 3) := by decide +kernel
theorem dX0_told_63 : decode cX0_told 63 = .ok (.iload_n 1, 1) := by decide +kernel
theorem dX0_told_64 : decode cX0_told 64 = .ok (.iaload, 1) := by decide +kernel
theorem dX0_told_65 : decode cX0_told 65 = .ok (.ireturn, 1) := by decide +kernel
theorem dX0_told_66 : decode cX0_told 66 = .ok (.aload_n 0, 1) := by decide +kernel
theorem dX0_told_67 : decode cX0_told 67 = .ok (.getfield 34, 3) := by decide +kernel
theorem dX0_told_70 : decode cX0_told 70 = .ok (.iload_n 1, 1) := by decide +kernel
theorem dX0_told_71 : decode cX0_told 71 = .ok (.iaload, 1) := by decide +kernel
theorem dX0_told_72 : decode cX0_told 72 = .ok (.ireturn, 1) := by decide +kernel
theorem dX0_told_73 : decode cX0_told 73 = .ok (.iconst (-1), 1) := by decide +kernel
theorem dX0_told_74 : decode cX0_told 74 = .ok (.ireturn, 1) := by decide +kernel
theorem dX1_init_0 : decode cX1_init 0 = .ok (.aload_n 0, 1) := by decide +kernel
theorem dX1_init_1 : decode cX1_init 1 = .ok (.invokespecial 3, 3) := by decide +kernel
theorem dX1_init_4 : decode cX1_init 4 = .ok (.aload_n 0, 1) := by decide +kernel
theorem dX1_init_5 : decode cX1_init 5 = .ok (.bipush 12, 2) := by decide +kernel
theorem dX1_init_7 : decode cX1_init 7 = .ok (.newarray .int, 2) := by decide +kernel
theorem dX1_init_9 : decode cX1_init 9 = .ok (.putfield 9, 3) := by decide +kernel
theorem dX1_init_12 : decode cX1_init 12 = .ok (.aload_n 0, 1) := by decide +kernel
theorem dX1_init_13 : decode cX1_init 13 = .ok (.bipush 12, 2) := by decide +kernel
theorem dX1_init_15 : decode cX1_init 15 = .ok (.newarray .int, 2) := by decide +kernel
theorem dX1_init_17 : decode cX1_init 17 = .ok (.putfield 15, 3) := by decide +kernel
theorem dX1_init_20 : decode cX1_init 20 = .ok (.aload_n 0, 1) := by decide +kernel
theorem dX1_init_21 : decode cX1_init 21 = .ok (.iconst 0, 1) := by decide +kernel
theorem dX1_init_22 : decode cX1_init 22 = .ok (.putfield 18, 3) := by decide +kernel
theorem dX1_init_25 : decode cX1_init 25 = .ok (.aload_n 0, 1) := by decide +kernel
theorem dX1_init_26 : decode cX1_init 26 = .ok (.iconst 0, 1) := by decide +kernel
theorem dX1_init_27 : decode cX1_init 27 = .ok (.putfield 22, 3) := by decide +kernel
theorem dX1_init_30 : decode cX1_init 30 = .ok (.aload_n 0, 1) := by decide +kernel
theorem dX1_init_31 : decode cX1_init 31 = .ok (.aload_n 1, 1) := by decide +kernel
theorem dX1_init_32 : decode cX1_init 32 = .ok (.putfield 25, 3) := by decide +kernel
theorem dX1_init_35 : decode cX1_init 35 = .ok (.aload_n 0, 1) := by decide +kernel
theorem dX1_init_36 : decode cX1_init 36 = .ok (.aload_n 2, 1) := by decide +kernel
theorem dX1_init_37 : decode cX1_init 37 = .ok (.putfield 29, 3) := by decide +kernel
theorem dX1_init_40 : decode cX1_init 40 = .ok (.aload_n 0, 1) := by decide +kernel
theorem dX1_init_41 : decode cX1_init 41 = .ok (.aload_n 3, 1) := by decide +kernel
theorem dX1_init_42 : decode cX1_init 42 = .ok (.putfield 33, 3) := by decide +kernel
theorem dX1_init_45 : decode cX1_init 45 = .ok (.return_, 1) := by decide +kernel
theorem dX1_draw_0 : decode cX1_draw 0 = .ok (.aload_n 0, 1) := by decide +kernel
theorem dX1_draw_1 : decode cX1_draw 1 = .ok (.getfield 29, 3) := by decide +kernel
theorem dX1_draw_4 : decode cX1_draw 4 = .ok (.aload_n 0, 1) := by decide +kernel
theorem dX1_draw_5 : decode cX1_draw 5 = .ok (.getfield 29, 3) := by decide +kernel
theorem dX1_draw_8 : decode cX1_draw 8 = .ok (.getfield 37, 3) := by decide +kernel
theorem dX1_draw_11 : decode cX1_draw 11 = .ok (.invokevirtual 42, 3) := by decide +kernel
theorem dX1_draw_14 : decode cX1_draw 14 = .ok (.pop, 1) := by decide +kernel
theorem dX1_draw_15 : decode cX1_draw 15 = .ok (.aload_n 0, 1) := by decide +kernel
theorem dX1_draw_16 : decode cX1_draw 16 = .ok (.aload_n 0, 1) := by decide +kernel
theorem dX1_draw_17 : decode cX1_draw 17 = .ok (.iconst 0, 1) := by decide +kernel
theorem dX1_draw_18 : decode cX1_draw 18 = .ok (.iload_n 3, 1) := by decide +kernel
theorem dX1_draw_19 : decode cX1_draw 19 = .ok (.iload 4, 2) := by decide +kernel
theorem dX1_draw_21 : decode cX1_draw 21 = .ok (.invokevirtual 46, 3) := by decide +kernel
theorem dX1_draw_24 : decode cX1_draw 24 = .ok (.putfield 18, 3) := by decide +kernel
theorem dX1_draw_27 : decode cX1_draw 27 = .ok (.aload_n 0, 1) := by decide +kernel
theorem dX1_draw_28 : decode cX1_draw 28 = .ok (.iload 5, 2) := by decide +kernel
theorem dX1_draw_30 : decode cX1_draw 30 = .ok (.ifCond .eq 14, 3) := by decide +kernel
theorem dX1_draw_33 : decode cX1_draw 33 = .ok (.aload_n 0, 1) := by decide +kernel
theorem dX1_draw_34 : decode cX1_draw 34 = .ok (.iconst 1, 1) := by decide +kernel
theorem dX1_draw_35 : decode cX1_draw 35 = .ok (.iload_n 3, 1) := by decide +kernel
theorem dX1_draw_36 : decode cX1_draw 36 = .ok (.iload 4, 2) := by decide +kernel
theorem dX1_draw_38 : decode cX1_draw 38 = .ok (.invokevirtual 46, 3) := by decide +kernel
theorem dX1_draw_41 : decode cX1_draw 41 = .ok (.goto 4, 3) := by decide +kernel
theorem dX1_draw_44 : decode cX1_draw 44 = .ok (.iconst 0, 1) := by decide +kernel
theorem dX1_draw_45 : decode cX1_draw 45 = .ok (.putfield 22, 3) := by decide +kernel
theorem dX1_draw_48 : decode cX1_draw 48 = .ok (.aload_n 0, 1) := by decide +kernel
theorem dX1_draw_49 : decode cX1_draw 49 = .ok (.getfield 9, 3) := by decide +kernel
theorem dX1_draw_52 : decode cX1_draw 52 = .ok (.iconst 0, 1) := by decide +kernel
theorem dX1_draw_53 : decode cX1_draw 53 = .ok (.invokestatic 50, 3) := by decide +kernel
theorem dX1_draw_56 : decode cX1_draw 56 = .ok (.aload_n 0, 1) := by decide +kernel
theorem dX1_draw_57 : decode cX1_draw 57 = .ok (.getfield 15, 3) := by decide +kernel
theorem dX1_draw_60 : decode cX1_draw 60 = .ok (.iconst 0, 1) := by decide +kernel
theorem dX1_draw_61 : decode cX1_draw 61 = .ok (.invokestatic 50, 3) := by decide +kernel
theorem dX1_draw_64 : decode cX1_draw 64 = .ok (.aload_n 0, 1) := by decide +kernel
theorem dX1_draw_65 : decode cX1_draw 65 = .ok (.getfield 18, 3) := by decide +kernel
theorem dX1_draw_68 : decode cX1_draw 68 = .ok (.aload_n 0, 1) := by decide +kernel
theorem dX1_draw_69 : decode cX1_draw 69 = .ok (.getfield 22, 3) := by decide +kernel
theorem dX1_draw_72 : decode cX1_draw 72 = .ok (.ior, 1) := by decide +kernel
theorem dX1_draw_73 : decode cX1_draw 73 = .ok (.istore 6, 2) := by decide +kernel
theorem dX1_draw_75 : decode cX1_draw 75 = .ok (.iconst 0, 1) := by decide +kernel
theorem dX1_draw_76 : decode cX1_draw 76 = .ok (.istore 7, 2) := by decide +kernel
theorem dX1_draw_78 : decode cX1_draw 78 = .ok (.iload 7, 2) := by decide +kernel
theorem dX1_draw_80 : decode cX1_draw 80 = .ok (.aload_n 0, 1) := by decide +kernel
theorem dX1_draw_81 : decode cX1_draw 81 = .ok (.getfield 25, 3) := by decide +kernel
theorem dX1_draw_84 : decode cX1_draw 84 = .ok (.getfield 56, 3) := by decide +kernel
theorem dX1_draw_87 : decode cX1_draw 87 = .ok (.if_icmp .ge 73, 3) := by decide +kernel
theorem dX1_draw_90 : decode cX1_draw 90 = .ok (.iload 7, 2) := by decide +kernel
theorem dX1_draw_92 : decode cX1_draw 92 = .ok (.iconst 1, 1) := by decide +kernel
theorem dX1_draw_93 : decode cX1_draw 93 = .ok (.iadd, 1) := by decide +kernel
theorem dX1_draw_94 : decode cX1_draw 94 = .ok (.istore 8, 2) := by decide +kernel
theorem dX1_draw_96 : decode cX1_draw 96 = .ok (.iload 8, 2) := by decide +kernel
theorem dX1_draw_98 : decode cX1_draw 98 = .ok (.aload_n 0, 1) := by decide +kernel
theorem dX1_draw_99 : decode cX1_draw 99 = .ok (.getfield 25, 3) := by decide +kernel
theorem dX1_draw_102 : decode cX1_draw 102 = .ok (.getfield 56, 3) := by decide +kernel
theorem dX1_draw_105 : decode cX1_draw 105 = .ok (.if_icmp .ge 49, 3) := by decide +kernel
theorem dX1_draw_108 : decode cX1_draw 108 = .ok (.iload 6, 2) := by decide +kernel
theorem dX1_draw_110 : decode cX1_draw 110 = .ok (.iload 7, 2) := by decide +kernel
theorem dX1_draw_112 : decode cX1_draw 112 = .ok (.ishr, 1) := by decide +kernel
theorem dX1_draw_113 : decode cX1_draw 113 = .ok (.iload 6, 2) := by decide +kernel
theorem dX1_draw_115 : decode cX1_draw 115 = .ok (.iload 8, 2) := by decide +kernel
theorem dX1_draw_117 : decode cX1_draw 117 = .ok (.ishr, 1) := by decide +kernel
theorem dX1_draw_118 : decode cX1_draw 118 = .ok (.iand, 1) := by decide +kernel
theorem dX1_draw_119 : decode cX1_draw 119 = .ok (.iconst 1, 1) := by decide +kernel
theorem dX1_draw_120 : decode cX1_draw 120 = .ok (.iand, 1) := by decide +kernel
theorem dX1_draw_121 : decode cX1_draw 121 = .ok (.iconst 1, 1) := by decide +kernel
theorem dX1_draw_122 : decode cX1_draw 122 = .ok (.if_icmp .ne 26, 3) := by decide +kernel
theorem dX1_draw_125 : decode cX1_draw 125 = .ok (.aload_n 0, 1) := by decide +kernel
theorem dX1_draw_126 : decode cX1_draw 126 = .ok (.iload 7, 2) := by decide +kernel
theorem dX1_draw_128 : decode cX1_draw 128 = .ok (.iload 8, 2) := by decide +kernel
theorem dX1_draw_130 : decode cX1_draw 130 = .ok (.aload_n 0, 1) := by decide +kernel
theorem dX1_draw_131 : decode cX1_draw 131 = .ok (.getfield 33, 3) := by decide +kernel
theorem dX1_draw_134 : decode cX1_draw 134 = .ok (.iload 7, 2) := by decide +kernel
theorem dX1_draw_136 : decode cX1_draw 136 = .ok (.iload 8, 2) := by decide +kernel
theorem dX1_draw_138 : decode cX1_draw 138 = .ok (.iload_n 1, 1) := by decide +kernel
theorem dX1_draw_139 : decode cX1_draw 139 = .ok (.iload_n 2, 1) := by decide +kernel
theorem dX1_draw_140 : decode cX1_draw 140 = .ok (.invokevirtual 59, 3) := by decide +kernel
theorem dX1_draw_143 : decode cX1_draw 143 = .ok (.iload 4, 2) := by decide +kernel
theorem dX1_draw_145 : decode cX1_draw 145 = .ok (.invokevirtual 65, 3) := by decide +kernel
theorem dX1_draw_148 : decode cX1_draw 148 = .ok (.iinc 8 1, 3) := by decide +kernel
theorem dX1_draw_151 : decode cX1_draw 151 = .ok (.goto (-55), 3) := by decide +kernel
theorem dX1_draw_154 : decode cX1_draw 154 = .ok (.iinc 7 1, 3) := by decide +kernel
theorem dX1_draw_157 : decode cX1_draw 157 = .ok (.goto (-79), 3) := by decide +kernel
theorem dX1_draw_160 : decode cX1_draw 160 = .ok (.return_, 1) := by decide +kernel
theorem dX1_standingAs_0 : decode cX1_standingAs 0 = .ok (.iconst 0, 1) := by decide +kernel
theorem dX1_standingAs_1 : decode cX1_standingAs 1 = .ok (.istore 4, 2) := by decide +kernel
theorem dX1_standingAs_3 : decode cX1_standingAs 3 = .ok (.iconst 0, 1) := by decide +kernel
theorem dX1_standingAs_4 : decode cX1_standingAs 4 = .ok (.istore 5, 2) := by decide +kernel
theorem dX1_standingAs_6 : decode cX1_standingAs 6 = .ok (.iload 5, 2) := by decide +kernel
theorem dX1_standingAs_8 : decode cX1_standingAs 8 = .ok (.aload_n 0, 1) := by decide +kernel
theorem dX1_standingAs_9 : decode cX1_standingAs 9 = .ok (.getfield 25, 3) := by decide +kernel
theorem dX1_standingAs_12 : decode cX1_standingAs 12 = .ok (.getfield 56, 3) := by decide +kernel
theorem dX1_standingAs_15 : decode cX1_standingAs 15 = .ok (.if_icmp .ge 46, 3) := by decide +kernel
theorem dX1_standingAs_18 : decode cX1_standingAs 18 = .ok (.aload_n 0, 1) := by decide +kernel
theorem dX1_standingAs_19 : decode cX1_standingAs 19 = .ok (.getfield 25, 3) := by decide +kernel
theorem dX1_standingAs_22 : decode cX1_standingAs 22 = .ok (.getfield 69, 3) := by decide +kernel
theorem dX1_standingAs_25 : decode cX1_standingAs 25 = .ok (.iload 5, 2) := by decide +kernel
theorem dX1_standingAs_27 : decode cX1_standingAs 27 = .ok (.iaload, 1) := by decide +kernel
theorem dX1_standingAs_28 : decode cX1_standingAs 28 = .ok (.iload_n 1, 1) := by decide +kernel
theorem dX1_standingAs_29 : decode cX1_standingAs 29 = .ok (.if_icmp .ne 26, 3) := by decide +kernel
theorem dX1_standingAs_32 : decode cX1_standingAs 32 = .ok (.aload_n 0, 1) := by decide +kernel
theorem dX1_standingAs_33 : decode cX1_standingAs 33 = .ok (.getfield 29, 3) := by decide +kernel
theorem dX1_standingAs_36 : decode cX1_standingAs 36 = .ok (.iload 5, 2) := by decide +kernel
theorem dX1_standingAs_38 : decode cX1_standingAs 38 = .ok (.iload_n 2, 1) := by decide +kernel
theorem dX1_standingAs_39 : decode cX1_standingAs 39 = .ok (.invokevirtual 72, 3) := by decide +kernel
theorem dX1_standingAs_42 : decode cX1_standingAs 42 = .ok (.iload_n 3, 1) := by decide +kernel
theorem dX1_standingAs_43 : decode cX1_standingAs 43 = .ok (.if_icmp .lt 12, 3) := by decide +kernel
theorem dX1_standingAs_46 : decode cX1_standingAs 46 = .ok (.iload 4, 2) := by decide +kernel
theorem dX1_standingAs_48 : decode cX1_standingAs 48 = .ok (.iconst 1, 1) := by decide +kernel
theorem dX1_standingAs_49 : decode cX1_standingAs 49 = .ok (.iload 5, 2) := by decide +kernel
theorem dX1_standingAs_51 : decode cX1_standingAs 51 = .ok (.ishl, 1) := by decide +kernel
theorem dX1_standingAs_52 : decode cX1_standingAs 52 = .ok (.ior, 1) := by decide +kernel
theorem dX1_standingAs_53 : decode cX1_standingAs 53 = .ok (.istore 4, 2) := by decide +kernel
theorem dX1_standingAs_55 : decode cX1_standingAs 55 = .ok (.iinc 5 1, 3) := by decide +kernel
theorem dX1_standingAs_58 : decode cX1_standingAs 58 = .ok (.goto (-52), 3) := by decide +kernel
theorem dX1_standingAs_61 : decode cX1_standingAs 61 = .ok (.iload 4, 2) := by decide +kernel
theorem dX1_standingAs_63 : decode cX1_standingAs 63 = .ok (.ireturn, 1) := by decide +kernel
theorem dX1_tie_0 : decode cX1_tie 0 = .ok (.iload_n 3, 1) := by decide +kernel
theorem dX1_tie_1 : decode cX1_tie 1 = .ok (.iload 4, 2) := by decide +kernel
theorem dX1_tie_3 : decode cX1_tie 3 = .ok (.if_icmp .lt 27, 3) := by decide +kernel
theorem dX1_tie_6 : decode cX1_tie 6 = .ok (.aload_n 0, 1) := by decide +kernel
theorem dX1_tie_7 : decode cX1_tie 7 = .ok (.getfield 9, 3) := by decide +kernel
theorem dX1_tie_10 : decode cX1_tie 10 = .ok (.iload_n 1, 1) := by decide +kernel
theorem dX1_tie_11 : decode cX1_tie 11 = .ok (.dup2, 1) := by decide +kernel
theorem dX1_tie_12 : decode cX1_tie 12 = .ok (.iaload, 1) := by decide +kernel
theorem dX1_tie_13 : decode cX1_tie 13 = .ok (.iconst 1, 1) := by decide +kernel
theorem dX1_tie_14 : decode cX1_tie 14 = .ok (.iload_n 2, 1) := by decide +kernel
theorem dX1_tie_15 : decode cX1_tie 15 = .ok (.ishl, 1) := by decide +kernel
theorem dX1_tie_16 : decode cX1_tie 16 = .ok (.ior, 1) := by decide +kernel
theorem dX1_tie_17 : decode cX1_tie 17 = .ok (.iastore, 1) := by decide +kernel
theorem dX1_tie_18 : decode cX1_tie 18 = .ok (.aload_n 0, 1) := by decide +kernel
theorem dX1_tie_19 : decode cX1_tie 19 = .ok (.getfield 9, 3) := by decide +kernel
theorem dX1_tie_22 : decode cX1_tie 22 = .ok (.iload_n 2, 1) := by decide +kernel
theorem dX1_tie_23 : decode cX1_tie 23 = .ok (.dup2, 1) := by decide +kernel
theorem dX1_tie_24 : decode cX1_tie 24 = .ok (.iaload, 1) := by decide +kernel
theorem dX1_tie_25 : decode cX1_tie 25 = .ok (.iconst 1, 1) := by decide +kernel
theorem dX1_tie_26 : decode cX1_tie 26 = .ok (.iload_n 1, 1) := by decide +kernel
theorem dX1_tie_27 : decode cX1_tie 27 = .ok (.ishl, 1) := by decide +kernel
theorem dX1_tie_28 : decode cX1_tie 28 = .ok (.ior, 1) := by decide +kernel
theorem dX1_tie_29 : decode cX1_tie 29 = .ok (.iastore, 1) := by decide +kernel
theorem dX1_tie_30 : decode cX1_tie 30 = .ok (.iload_n 3, 1) := by decide +kernel
theorem dX1_tie_31 : decode cX1_tie 31 = .ok (.iconst 2, 1) := by decide +kernel
theorem dX1_tie_32 : decode cX1_tie 32 = .ok (.if_icmp .ne 27, 3) := by decide +kernel
theorem dX1_tie_35 : decode cX1_tie 35 = .ok (.aload_n 0, 1) := by decide +kernel
theorem dX1_tie_36 : decode cX1_tie 36 = .ok (.getfield 15, 3) := by decide +kernel
theorem dX1_tie_39 : decode cX1_tie 39 = .ok (.iload_n 1, 1) := by decide +kernel
theorem dX1_tie_40 : decode cX1_tie 40 = .ok (.dup2, 1) := by decide +kernel
theorem dX1_tie_41 : decode cX1_tie 41 = .ok (.iaload, 1) := by decide +kernel
theorem dX1_tie_42 : decode cX1_tie 42 = .ok (.iconst 1, 1) := by decide +kernel
theorem dX1_tie_43 : decode cX1_tie 43 = .ok (.iload_n 2, 1) := by decide +kernel
theorem dX1_tie_44 : decode cX1_tie 44 = .ok (.ishl, 1) := by decide +kernel
theorem dX1_tie_45 : decode cX1_tie 45 = .ok (.ior, 1) := by decide +kernel
theorem dX1_tie_46 : decode cX1_tie 46 = .ok (.iastore, 1) := by decide +kernel
theorem dX1_tie_47 : decode cX1_tie 47 = .ok (.aload_n 0, 1) := by decide +kernel
theorem dX1_tie_48 : decode cX1_tie 48 = .ok (.getfield 15, 3) := by decide +kernel
theorem dX1_tie_51 : decode cX1_tie 51 = .ok (.iload_n 2, 1) := by decide +kernel
theorem dX1_tie_52 : decode cX1_tie 52 = .ok (.dup2, 1) := by decide +kernel
theorem dX1_tie_53 : decode cX1_tie 53 = .ok (.iaload, 1) := by decide +kernel
theorem dX1_tie_54 : decode cX1_tie 54 = .ok (.iconst 1, 1) := by decide +kernel
theorem dX1_tie_55 : decode cX1_tie 55 = .ok (.iload_n 1, 1) := by decide +kernel
theorem dX1_tie_56 : decode cX1_tie 56 = .ok (.ishl, 1) := by decide +kernel
theorem dX1_tie_57 : decode cX1_tie 57 = .ok (.ior, 1) := by decide +kernel
theorem dX1_tie_58 : decode cX1_tie 58 = .ok (.iastore, 1) := by decide +kernel
theorem dX1_tie_59 : decode cX1_tie 59 = .ok (.return_, 1) := by decide +kernel
theorem dX1_reach_0 : decode cX1_reach 0 = .ok (.iload_n 1, 1) := by decide +kernel
theorem dX1_reach_1 : decode cX1_reach 1 = .ok (.istore_n 3, 1) := by decide +kernel
theorem dX1_reach_2 : decode cX1_reach 2 = .ok (.iload_n 1, 1) := by decide +kernel
theorem dX1_reach_3 : decode cX1_reach 3 = .ok (.istore 4, 2) := by decide +kernel
theorem dX1_reach_5 : decode cX1_reach 5 = .ok (.iconst 0, 1) := by decide +kernel
theorem dX1_reach_6 : decode cX1_reach 6 = .ok (.istore 5, 2) := by decide +kernel
theorem dX1_reach_8 : decode cX1_reach 8 = .ok (.iload 5, 2) := by decide +kernel
theorem dX1_reach_10 : decode cX1_reach 10 = .ok (.bipush 12, 2) := by decide +kernel
theorem dX1_reach_12 : decode cX1_reach 12 = .ok (.if_icmp .ge 64, 3) := by decide +kernel
theorem dX1_reach_15 : decode cX1_reach 15 = .ok (.iload 4, 2) := by decide +kernel
theorem dX1_reach_17 : decode cX1_reach 17 = .ok (.ifCond .eq 59, 3) := by decide +kernel
theorem dX1_reach_20 : decode cX1_reach 20 = .ok (.iload 4, 2) := by decide +kernel
theorem dX1_reach_22 : decode cX1_reach 22 = .ok (.invokestatic 76, 3) := by decide +kernel
theorem dX1_reach_25 : decode cX1_reach 25 = .ok (.istore 6, 2) := by decide +kernel
theorem dX1_reach_27 : decode cX1_reach 27 = .ok (.iload 6, 2) := by decide +kernel
theorem dX1_reach_29 : decode cX1_reach 29 = .ok (.bipush 12, 2) := by decide +kernel
theorem dX1_reach_31 : decode cX1_reach 31 = .ok (.if_icmp .ge 19, 3) := by decide +kernel
theorem dX1_reach_34 : decode cX1_reach 34 = .ok (.aload_n 0, 1) := by decide +kernel
theorem dX1_reach_35 : decode cX1_reach 35 = .ok (.getfield 9, 3) := by decide +kernel
theorem dX1_reach_38 : decode cX1_reach 38 = .ok (.iload 6, 2) := by decide +kernel
theorem dX1_reach_40 : decode cX1_reach 40 = .ok (.iaload, 1) := by decide +kernel
theorem dX1_reach_41 : decode cX1_reach 41 = .ok (.iload_n 2, 1) := by decide +kernel
theorem dX1_reach_42 : decode cX1_reach 42 = .ok (.iand, 1) := by decide +kernel
theorem dX1_reach_43 : decode cX1_reach 43 = .ok (.iload_n 3, 1) := by decide +kernel
theorem dX1_reach_44 : decode cX1_reach 44 = .ok (.iconst (-1), 1) := by decide +kernel
theorem dX1_reach_45 : decode cX1_reach 45 = .ok (.ixor, 1) := by decide +kernel
theorem dX1_reach_46 : decode cX1_reach 46 = .ok (.iand, 1) := by decide +kernel
theorem dX1_reach_47 : decode cX1_reach 47 = .ok (.goto 4, 3) := by decide +kernel
theorem dX1_reach_50 : decode cX1_reach 50 = .ok (.iconst 0, 1) := by decide +kernel
theorem dX1_reach_51 : decode cX1_reach 51 = .ok (.istore 7, 2) := by decide +kernel
theorem dX1_reach_53 : decode cX1_reach 53 = .ok (.iload_n 3, 1) := by decide +kernel
theorem dX1_reach_54 : decode cX1_reach 54 = .ok (.iload 7, 2) := by decide +kernel
theorem dX1_reach_56 : decode cX1_reach 56 = .ok (.ior, 1) := by decide +kernel
theorem dX1_reach_57 : decode cX1_reach 57 = .ok (.istore_n 3, 1) := by decide +kernel
theorem dX1_reach_58 : decode cX1_reach 58 = .ok (.iload 4, 2) := by decide +kernel
theorem dX1_reach_60 : decode cX1_reach 60 = .ok (.iload 4, 2) := by decide +kernel
theorem dX1_reach_62 : decode cX1_reach 62 = .ok (.iconst 1, 1) := by decide +kernel
theorem dX1_reach_63 : decode cX1_reach 63 = .ok (.isub, 1) := by decide +kernel
theorem dX1_reach_64 : decode cX1_reach 64 = .ok (.iand, 1) := by decide +kernel
theorem dX1_reach_65 : decode cX1_reach 65 = .ok (.iload 7, 2) := by decide +kernel
theorem dX1_reach_67 : decode cX1_reach 67 = .ok (.ior, 1) := by decide +kernel
theorem dX1_reach_68 : decode cX1_reach 68 = .ok (.istore 4, 2) := by decide +kernel
theorem dX1_reach_70 : decode cX1_reach 70 = .ok (.iinc 5 1, 3) := by decide +kernel
theorem dX1_reach_73 : decode cX1_reach 73 = .ok (.goto (-65), 3) := by decide +kernel
theorem dX1_reach_76 : decode cX1_reach 76 = .ok (.iload_n 3, 1) := by decide +kernel
theorem dX1_reach_77 : decode cX1_reach 77 = .ok (.ireturn, 1) := by decide +kernel
theorem dX1_groupsAmong_0 : decode cX1_groupsAmong 0 = .ok (.iload_n 1, 1) := by decide +kernel
theorem dX1_groupsAmong_1 : decode cX1_groupsAmong 1 = .ok (.istore_n 2, 1) := by decide +kernel
theorem dX1_groupsAmong_2 : decode cX1_groupsAmong 2 = .ok (.iconst 0, 1) := by decide +kernel
theorem dX1_groupsAmong_3 : decode cX1_groupsAmong 3 = .ok (.istore_n 3, 1) := by decide +kernel
theorem dX1_groupsAmong_4 : decode cX1_groupsAmong 4 = .ok (.iconst 0, 1) := by decide +kernel
theorem dX1_groupsAmong_5 : decode cX1_groupsAmong 5 = .ok (.istore 4, 2) := by decide +kernel
theorem dX1_groupsAmong_7 : decode cX1_groupsAmong 7 = .ok (.iload 4, 2) := by decide +kernel
theorem dX1_groupsAmong_9 : decode cX1_groupsAmong 9 = .ok (.bipush 12, 2) := by decide +kernel
theorem dX1_groupsAmong_11 : decode cX1_groupsAmong 11 = .ok (.if_icmp .ge 36, 3) := by decide +kernel
theorem dX1_groupsAmong_14 : decode cX1_groupsAmong 14 = .ok (.iload_n 2, 1) := by decide +kernel
theorem dX1_groupsAmong_15 : decode cX1_groupsAmong 15 = .ok (.iload 4, 2) := by decide +kernel
theorem dX1_groupsAmong_17 : decode cX1_groupsAmong 17 = .ok (.ishr, 1) := by decide +kernel
theorem dX1_groupsAmong_18 : decode cX1_groupsAmong 18 = .ok (.iconst 1, 1) := by decide +kernel
theorem dX1_groupsAmong_19 : decode cX1_groupsAmong 19 = .ok (.iand, 1) := by decide +kernel
theorem dX1_groupsAmong_20 : decode cX1_groupsAmong 20 = .ok (.iconst 1, 1) := by decide +kernel
theorem dX1_groupsAmong_21 : decode cX1_groupsAmong 21 = .ok (.if_icmp .ne 20, 3) := by decide +kernel
theorem dX1_groupsAmong_24 : decode cX1_groupsAmong 24 = .ok (.iload_n 2, 1) := by decide +kernel
theorem dX1_groupsAmong_25 : decode cX1_groupsAmong 25 = .ok (.aload_n 0, 1) := by decide +kernel
theorem dX1_groupsAmong_26 : decode cX1_groupsAmong 26 = .ok (.iconst 1, 1) := by decide +kernel
theorem dX1_groupsAmong_27 : decode cX1_groupsAmong 27 = .ok (.iload 4, 2) := by decide +kernel
theorem dX1_groupsAmong_29 : decode cX1_groupsAmong 29 = .ok (.ishl, 1) := by decide +kernel
theorem dX1_groupsAmong_30 : decode cX1_groupsAmong 30 = .ok (.iload_n 1, 1) := by decide +kernel
theorem dX1_groupsAmong_31 : decode cX1_groupsAmong 31 = .ok (.invokevirtual 82, 3) := by decide +kernel
theorem dX1_groupsAmong_34 : decode cX1_groupsAmong 34 = .ok (.iconst (-1), 1) := by decide +kernel
theorem dX1_groupsAmong_35 : decode cX1_groupsAmong 35 = .ok (.ixor, 1) := by decide +kernel
theorem dX1_groupsAmong_36 : decode cX1_groupsAmong 36 = .ok (.iand, 1) := by decide +kernel
theorem dX1_groupsAmong_37 : decode cX1_groupsAmong 37 = .ok (.istore_n 2, 1) := by decide +kernel
theorem dX1_groupsAmong_38 : decode cX1_groupsAmong 38 = .ok (.iinc 3 1, 3) := by decide +kernel
theorem dX1_groupsAmong_41 : decode cX1_groupsAmong 41 = .ok (.iinc 4 1, 3) := by decide +kernel
theorem dX1_groupsAmong_44 : decode cX1_groupsAmong 44 = .ok (.goto (-37), 3) := by decide +kernel
theorem dX1_groupsAmong_47 : decode cX1_groupsAmong 47 = .ok (.iload_n 3, 1) := by decide +kernel
theorem dX1_groupsAmong_48 : decode cX1_groupsAmong 48 = .ok (.ireturn, 1) := by decide +kernel
theorem dX1_cutBits_0 : decode cX1_cutBits 0 = .ok (.aload_n 0, 1) := by decide +kernel
theorem dX1_cutBits_1 : decode cX1_cutBits 1 = .ok (.aload_n 0, 1) := by decide +kernel
theorem dX1_cutBits_2 : decode cX1_cutBits 2 = .ok (.getfield 18, 3) := by decide +kernel
theorem dX1_cutBits_5 : decode cX1_cutBits 5 = .ok (.invokevirtual 85, 3) := by decide +kernel
theorem dX1_cutBits_8 : decode cX1_cutBits 8 = .ok (.istore_n 1, 1) := by decide +kernel
theorem dX1_cutBits_9 : decode cX1_cutBits 9 = .ok (.iconst 0, 1) := by decide +kernel
theorem dX1_cutBits_10 : decode cX1_cutBits 10 = .ok (.istore_n 2, 1) := by decide +kernel
theorem dX1_cutBits_11 : decode cX1_cutBits 11 = .ok (.iconst 0, 1) := by decide +kernel
theorem dX1_cutBits_12 : decode cX1_cutBits 12 = .ok (.istore_n 3, 1) := by decide +kernel
theorem dX1_cutBits_13 : decode cX1_cutBits 13 = .ok (.iload_n 3, 1) := by decide +kernel
theorem dX1_cutBits_14 : decode cX1_cutBits 14 = .ok (.bipush 12, 2) := by decide +kernel
theorem dX1_cutBits_16 : decode cX1_cutBits 16 = .ok (.if_icmp .ge 45, 3) := by decide +kernel
theorem dX1_cutBits_19 : decode cX1_cutBits 19 = .ok (.aload_n 0, 1) := by decide +kernel
theorem dX1_cutBits_20 : decode cX1_cutBits 20 = .ok (.getfield 18, 3) := by decide +kernel
theorem dX1_cutBits_23 : decode cX1_cutBits 23 = .ok (.iload_n 3, 1) := by decide +kernel
theorem dX1_cutBits_24 : decode cX1_cutBits 24 = .ok (.ishr, 1) := by decide +kernel
theorem dX1_cutBits_25 : decode cX1_cutBits 25 = .ok (.iconst 1, 1) := by decide +kernel
theorem dX1_cutBits_26 : decode cX1_cutBits 26 = .ok (.iand, 1) := by decide +kernel
theorem dX1_cutBits_27 : decode cX1_cutBits 27 = .ok (.iconst 1, 1) := by decide +kernel
theorem dX1_cutBits_28 : decode cX1_cutBits 28 = .ok (.if_icmp .ne 27, 3) := by decide +kernel
theorem dX1_cutBits_31 : decode cX1_cutBits 31 = .ok (.aload_n 0, 1) := by decide +kernel
theorem dX1_cutBits_32 : decode cX1_cutBits 32 = .ok (.aload_n 0, 1) := by decide +kernel
theorem dX1_cutBits_33 : decode cX1_cutBits 33 = .ok (.getfield 18, 3) := by decide +kernel
theorem dX1_cutBits_36 : decode cX1_cutBits 36 = .ok (.iconst 1, 1) := by decide +kernel
theorem dX1_cutBits_37 : decode cX1_cutBits 37 = .ok (.iload_n 3, 1) := by decide +kernel
theorem dX1_cutBits_38 : decode cX1_cutBits 38 = .ok (.ishl, 1) := by decide +kernel
theorem dX1_cutBits_39 : decode cX1_cutBits 39 = .ok (.iconst (-1), 1) := by decide +kernel
theorem dX1_cutBits_40 : decode cX1_cutBits 40 = .ok (.ixor, 1) := by decide +kernel
theorem dX1_cutBits_41 : decode cX1_cutBits 41 = .ok (.iand, 1) := by decide +kernel
theorem dX1_cutBits_42 : decode cX1_cutBits 42 = .ok (.invokevirtual 85, 3) := by decide +kernel
theorem dX1_cutBits_45 : decode cX1_cutBits 45 = .ok (.iload_n 1, 1) := by decide +kernel
theorem dX1_cutBits_46 : decode cX1_cutBits 46 = .ok (.if_icmp .le 9, 3) := by decide +kernel
theorem dX1_cutBits_49 : decode cX1_cutBits 49 = .ok (.iload_n 2, 1) := by decide +kernel
theorem dX1_cutBits_50 : decode cX1_cutBits 50 = .ok (.iconst 1, 1) := by decide +kernel
theorem dX1_cutBits_51 : decode cX1_cutBits 51 = .ok (.iload_n 3, 1) := by decide +kernel
theorem dX1_cutBits_52 : decode cX1_cutBits 52 = .ok (.ishl, 1) := by decide +kernel
theorem dX1_cutBits_53 : decode cX1_cutBits 53 = .ok (.ior, 1) := by decide +kernel
theorem dX1_cutBits_54 : decode cX1_cutBits 54 = .ok (.istore_n 2, 1) := by decide +kernel
theorem dX1_cutBits_55 : decode cX1_cutBits 55 = .ok (.iinc 3 1, 3) := by decide +kernel
theorem dX1_cutBits_58 : decode cX1_cutBits 58 = .ok (.goto (-45), 3) := by decide +kernel
theorem dX1_cutBits_61 : decode cX1_cutBits 61 = .ok (.iload_n 2, 1) := by decide +kernel
theorem dX1_cutBits_62 : decode cX1_cutBits 62 = .ok (.ireturn, 1) := by decide +kernel
theorem dX1_isOneWith_0 : decode cX1_isOneWith 0 = .ok (.aload_n 0, 1) := by decide +kernel
theorem dX1_isOneWith_1 : decode cX1_isOneWith 1 = .ok (.getfield 18, 3) := by decide +kernel
theorem dX1_isOneWith_4 : decode cX1_isOneWith 4 = .ok (.aload_n 0, 1) := by decide +kernel
theorem dX1_isOneWith_5 : decode cX1_isOneWith 5 = .ok (.getfield 18, 3) := by decide +kernel
theorem dX1_isOneWith_8 : decode cX1_isOneWith 8 = .ok (.ineg, 1) := by decide +kernel
theorem dX1_isOneWith_9 : decode cX1_isOneWith 9 = .ok (.iand, 1) := by decide +kernel
theorem dX1_isOneWith_10 : decode cX1_isOneWith 10 = .ok (.istore_n 2, 1) := by decide +kernel
theorem dX1_isOneWith_11 : decode cX1_isOneWith 11 = .ok (.aload_n 0, 1) := by decide +kernel
theorem dX1_isOneWith_12 : decode cX1_isOneWith 12 = .ok (.getfield 18, 3) := by decide +kernel
theorem dX1_isOneWith_15 : decode cX1_isOneWith 15 = .ok (.aload_n 0, 1) := by decide +kernel
theorem dX1_isOneWith_16 : decode cX1_isOneWith 16 = .ok (.iload_n 2, 1) := by decide +kernel
theorem dX1_isOneWith_17 : decode cX1_isOneWith 17 = .ok (.aload_n 0, 1) := by decide +kernel
theorem dX1_isOneWith_18 : decode cX1_isOneWith 18 = .ok (.getfield 18, 3) := by decide +kernel
theorem dX1_isOneWith_21 : decode cX1_isOneWith 21 = .ok (.iload_n 1, 1) := by decide +kernel
theorem dX1_isOneWith_22 : decode cX1_isOneWith 22 = .ok (.ior, 1) := by decide +kernel
theorem dX1_isOneWith_23 : decode cX1_isOneWith 23 = .ok (.invokevirtual 82, 3) := by decide +kernel
theorem dX1_isOneWith_26 : decode cX1_isOneWith 26 = .ok (.iconst (-1), 1) := by decide +kernel
theorem dX1_isOneWith_27 : decode cX1_isOneWith 27 = .ok (.ixor, 1) := by decide +kernel
theorem dX1_isOneWith_28 : decode cX1_isOneWith 28 = .ok (.iand, 1) := by decide +kernel
theorem dX1_isOneWith_29 : decode cX1_isOneWith 29 = .ok (.ifCond .ne 7, 3) := by decide +kernel
theorem dX1_isOneWith_32 : decode cX1_isOneWith 32 = .ok (.iconst 1, 1) := by decide +kernel
theorem dX1_isOneWith_33 : decode cX1_isOneWith 33 = .ok (.goto 4, 3) := by decide +kernel
theorem dX1_isOneWith_36 : decode cX1_isOneWith 36 = .ok (.iconst 0, 1) := by decide +kernel
theorem dX1_isOneWith_37 : decode cX1_isOneWith 37 = .ok (.ireturn, 1) := by decide +kernel
theorem dX2_init_0 : decode cX2_init 0 = .ok (.aload_n 0, 1) := by decide +kernel
theorem dX2_init_1 : decode cX2_init 1 = .ok (.invokespecial 3, 3) := by decide +kernel
theorem dX2_init_4 : decode cX2_init 4 = .ok (.aload_n 0, 1) := by decide +kernel
theorem dX2_init_5 : decode cX2_init 5 = .ok (.iconst 0, 1) := by decide +kernel
theorem dX2_init_6 : decode cX2_init 6 = .ok (.putfield 9, 3) := by decide +kernel
theorem dX2_init_9 : decode cX2_init 9 = .ok (.aload_n 0, 1) := by decide +kernel
theorem dX2_init_10 : decode cX2_init 10 = .ok (.iconst 0, 1) := by decide +kernel
theorem dX2_init_11 : decode cX2_init 11 = .ok (.putfield 15, 3) := by decide +kernel
theorem dX2_init_14 : decode cX2_init 14 = .ok (.aload_n 0, 1) := by decide +kernel
theorem dX2_init_15 : decode cX2_init 15 = .ok (.iconst 5, 1) := by decide +kernel
theorem dX2_init_16 : decode cX2_init 16 = .ok (.newarray .int, 2) := by decide +kernel
theorem dX2_init_18 : decode cX2_init 18 = .ok (.putfield 18, 3) := by decide +kernel
theorem dX2_init_21 : decode cX2_init 21 = .ok (.aload_n 0, 1) := by decide +kernel
theorem dX2_init_22 : decode cX2_init 22 = .ok (.iconst 4, 1) := by decide +kernel
theorem dX2_init_23 : decode cX2_init 23 = .ok (.bipush 120, 2) := by decide +kernel
theorem dX2_init_25 : decode cX2_init 25 = .ok (.multianewarray 22 2, 4) := by decide +kernel
theorem dX2_init_29 : decode cX2_init 29 = .ok (.putfield 24, 3) := by decide +kernel
theorem dX2_init_32 : decode cX2_init 32 = .ok (.aload_n 0, 1) := by decide +kernel
theorem dX2_init_33 : decode cX2_init 33 = .ok (.bipush 12, 2) := by decide +kernel
theorem dX2_init_35 : decode cX2_init 35 = .ok (.newarray .int, 2) := by decide +kernel
theorem dX2_init_37 : decode cX2_init 37 = .ok (.putfield 27, 3) := by decide +kernel
theorem dX2_init_40 : decode cX2_init 40 = .ok (.aload_n 0, 1) := by decide +kernel
theorem dX2_init_41 : decode cX2_init 41 = .ok (.bipush 12, 2) := by decide +kernel
theorem dX2_init_43 : decode cX2_init 43 = .ok (.newarray .int, 2) := by decide +kernel
theorem dX2_init_45 : decode cX2_init 45 = .ok (.putfield 30, 3) := by decide +kernel
theorem dX2_init_48 : decode cX2_init 48 = .ok (.aload_n 0, 1) := by decide +kernel
theorem dX2_init_49 : decode cX2_init 49 = .ok (.bipush 12, 2) := by decide +kernel
theorem dX2_init_51 : decode cX2_init 51 = .ok (.newarray .int, 2) := by decide +kernel
theorem dX2_init_53 : decode cX2_init 53 = .ok (.putfield 33, 3) := by decide +kernel
theorem dX2_init_56 : decode cX2_init 56 = .ok (.aload_n 0, 1) := by decide +kernel
theorem dX2_init_57 : decode cX2_init 57 = .ok (.sipush 200, 3) := by decide +kernel
theorem dX2_init_60 : decode cX2_init 60 = .ok (.newarray .int, 2) := by decide +kernel
theorem dX2_init_62 : decode cX2_init 62 = .ok (.putfield 36, 3) := by decide +kernel
theorem dX2_init_65 : decode cX2_init 65 = .ok (.aload_n 0, 1) := by decide +kernel
theorem dX2_init_66 : decode cX2_init 66 = .ok (.sipush 200, 3) := by decide +kernel
theorem dX2_init_69 : decode cX2_init 69 = .ok (.newarray .int, 2) := by decide +kernel
theorem dX2_init_71 : decode cX2_init 71 = .ok (.putfield 39, 3) := by decide +kernel
theorem dX2_init_74 : decode cX2_init 74 = .ok (.aload_n 0, 1) := by decide +kernel
theorem dX2_init_75 : decode cX2_init 75 = .ok (.sipush 200, 3) := by decide +kernel
theorem dX2_init_78 : decode cX2_init 78 = .ok (.newarray .int, 2) := by decide +kernel
theorem dX2_init_80 : decode cX2_init 80 = .ok (.putfield 42, 3) := by decide +kernel
theorem dX2_init_83 : decode cX2_init 83 = .ok (.aload_n 0, 1) := by decide +kernel
theorem dX2_init_84 : decode cX2_init 84 = .ok (.sipush 200, 3) := by decide +kernel
theorem dX2_init_87 : decode cX2_init 87 = .ok (.newarray .int, 2) := by decide +kernel
theorem dX2_init_89 : decode cX2_init 89 = .ok (.putfield 45, 3) := by decide +kernel
theorem dX2_init_92 : decode cX2_init 92 = .ok (.aload_n 0, 1) := by decide +kernel
theorem dX2_init_93 : decode cX2_init 93 = .ok (.sipush 200, 3) := by decide +kernel
theorem dX2_init_96 : decode cX2_init 96 = .ok (.newarray .int, 2) := by decide +kernel
theorem dX2_init_98 : decode cX2_init 98 = .ok (.putfield 48, 3) := by decide +kernel
theorem dX2_init_101 : decode cX2_init 101 = .ok (.aload_n 0, 1) := by decide +kernel
theorem dX2_init_102 : decode cX2_init 102 = .ok (.aload_n 1, 1) := by decide +kernel
theorem dX2_init_103 : decode cX2_init 103 = .ok (.putfield 51, 3) := by decide +kernel
theorem dX2_init_106 : decode cX2_init 106 = .ok (.aload_n 0, 1) := by decide +kernel
theorem dX2_init_107 : decode cX2_init 107 = .ok (.aload_n 2, 1) := by decide +kernel
theorem dX2_init_108 : decode cX2_init 108 = .ok (.putfield 55, 3) := by decide +kernel
theorem dX2_init_111 : decode cX2_init 111 = .ok (.return_, 1) := by decide +kernel
theorem dX2_run_0 : decode cX2_run 0 = .ok (.aload_n 0, 1) := by decide +kernel
theorem dX2_run_1 : decode cX2_run 1 = .ok (.aload_n 1, 1) := by decide +kernel
theorem dX2_run_2 : decode cX2_run 2 = .ok (.putfield 55, 3) := by decide +kernel
theorem dX2_run_5 : decode cX2_run 5 = .ok (.aload_n 0, 1) := by decide +kernel
theorem dX2_run_6 : decode cX2_run 6 = .ok (.iconst 1, 1) := by decide +kernel
theorem dX2_run_7 : decode cX2_run 7 = .ok (.putfield 9, 3) := by decide +kernel
theorem dX2_run_10 : decode cX2_run 10 = .ok (.aload_n 0, 1) := by decide +kernel
theorem dX2_run_11 : decode cX2_run 11 = .ok (.iconst 0, 1) := by decide +kernel
theorem dX2_run_12 : decode cX2_run 12 = .ok (.putfield 15, 3) := by decide +kernel
theorem dX2_run_15 : decode cX2_run 15 = .ok (.aload_n 0, 1) := by decide +kernel
theorem dX2_run_16 : decode cX2_run 16 = .ok (.getfield 18, 3) := by decide +kernel
theorem dX2_run_19 : decode cX2_run 19 = .ok (.iconst 0, 1) := by decide +kernel
theorem dX2_run_20 : decode cX2_run 20 = .ok (.invokestatic 59, 3) := by decide +kernel
theorem dX2_run_23 : decode cX2_run 23 = .ok (.aload_n 0, 1) := by decide +kernel
theorem dX2_run_24 : decode cX2_run 24 = .ok (.getfield 24, 3) := by decide +kernel
theorem dX2_run_27 : decode cX2_run 27 = .ok (.iconst 0, 1) := by decide +kernel
theorem dX2_run_28 : decode cX2_run 28 = .ok (.aaload, 1) := by decide +kernel
theorem dX2_run_29 : decode cX2_run 29 = .ok (.iconst (-1), 1) := by decide +kernel
theorem dX2_run_30 : decode cX2_run 30 = .ok (.invokestatic 59, 3) := by decide +kernel
theorem dX2_run_33 : decode cX2_run 33 = .ok (.aload_n 0, 1) := by decide +kernel
theorem dX2_run_34 : decode cX2_run 34 = .ok (.getfield 24, 3) := by decide +kernel
theorem dX2_run_37 : decode cX2_run 37 = .ok (.iconst 3, 1) := by decide +kernel
theorem dX2_run_38 : decode cX2_run 38 = .ok (.aaload, 1) := by decide +kernel
theorem dX2_run_39 : decode cX2_run 39 = .ok (.iconst 0, 1) := by decide +kernel
theorem dX2_run_40 : decode cX2_run 40 = .ok (.invokestatic 59, 3) := by decide +kernel
theorem dX2_run_43 : decode cX2_run 43 = .ok (.aload_n 0, 1) := by decide +kernel
theorem dX2_run_44 : decode cX2_run 44 = .ok (.getfield 27, 3) := by decide +kernel
theorem dX2_run_47 : decode cX2_run 47 = .ok (.iconst 0, 1) := by decide +kernel
theorem dX2_run_48 : decode cX2_run 48 = .ok (.invokestatic 59, 3) := by decide +kernel
theorem dX2_run_51 : decode cX2_run 51 = .ok (.aload_n 0, 1) := by decide +kernel
theorem dX2_run_52 : decode cX2_run 52 = .ok (.getfield 30, 3) := by decide +kernel
theorem dX2_run_55 : decode cX2_run 55 = .ok (.iconst 0, 1) := by decide +kernel
theorem dX2_run_56 : decode cX2_run 56 = .ok (.invokestatic 59, 3) := by decide +kernel
theorem dX2_run_59 : decode cX2_run 59 = .ok (.aload_n 0, 1) := by decide +kernel
theorem dX2_run_60 : decode cX2_run 60 = .ok (.getfield 33, 3) := by decide +kernel
theorem dX2_run_63 : decode cX2_run 63 = .ok (.ldc 67, 2) := by decide +kernel
theorem dX2_run_65 : decode cX2_run 65 = .ok (.invokestatic 59, 3) := by decide +kernel
theorem dX2_run_68 : decode cX2_run 68 = .ok (.aload_n 0, 1) := by decide +kernel
theorem dX2_run_69 : decode cX2_run 69 = .ok (.iload_n 2, 1) := by decide +kernel
theorem dX2_run_70 : decode cX2_run 70 = .ok (.iload_n 3, 1) := by decide +kernel
theorem dX2_run_71 : decode cX2_run 71 = .ok (.iconst 0, 1) := by decide +kernel
theorem dX2_run_72 : decode cX2_run 72 = .ok (.iconst (-1), 1) := by decide +kernel
theorem dX2_run_73 : decode cX2_run 73 = .ok (.iload_n 3, 1) := by decide +kernel
theorem dX2_run_74 : decode cX2_run 74 = .ok (.invokevirtual 68, 3) := by decide +kernel
theorem dX2_run_77 : decode cX2_run 77 = .ok (.iconst 0, 1) := by decide +kernel
theorem dX2_run_78 : decode cX2_run 78 = .ok (.istore 4, 2) := by decide +kernel
theorem dX2_run_80 : decode cX2_run 80 = .ok (.iload 4, 2) := by decide +kernel
theorem dX2_run_82 : decode cX2_run 82 = .ok (.aload_n 0, 1) := by decide +kernel
theorem dX2_run_83 : decode cX2_run 83 = .ok (.getfield 18, 3) := by decide +kernel
theorem dX2_run_86 : decode cX2_run 86 = .ok (.iconst 0, 1) := by decide +kernel
theorem dX2_run_87 : decode cX2_run 87 = .ok (.iaload, 1) := by decide +kernel
theorem dX2_run_88 : decode cX2_run 88 = .ok (.if_icmp .ge 27, 3) := by decide +kernel
theorem dX2_run_91 : decode cX2_run 91 = .ok (.aload_n 0, 1) := by decide +kernel
theorem dX2_run_92 : decode cX2_run 92 = .ok (.getfield 15, 3) := by decide +kernel
theorem dX2_run_95 : decode cX2_run 95 = .ok (.ifCond .ne 20, 3) := by decide +kernel
theorem dX2_run_98 : decode cX2_run 98 = .ok (.aload_n 0, 1) := by decide +kernel
theorem dX2_run_99 : decode cX2_run 99 = .ok (.aload_n 0, 1) := by decide +kernel
theorem dX2_run_100 : decode cX2_run 100 = .ok (.getfield 48, 3) := by decide +kernel
theorem dX2_run_103 : decode cX2_run 103 = .ok (.iload 4, 2) := by decide +kernel
theorem dX2_run_105 : decode cX2_run 105 = .ok (.iaload, 1) := by decide +kernel
theorem dX2_run_106 : decode cX2_run 106 = .ok (.invokevirtual 72, 3) := by decide +kernel
theorem dX2_run_109 : decode cX2_run 109 = .ok (.iinc 4 1, 3) := by decide +kernel
theorem dX2_run_112 : decode cX2_run 112 = .ok (.goto (-32), 3) := by decide +kernel
theorem dX2_run_115 : decode cX2_run 115 = .ok (.aload_n 0, 1) := by decide +kernel
theorem dX2_run_116 : decode cX2_run 116 = .ok (.getfield 15, 3) := by decide +kernel
theorem dX2_run_119 : decode cX2_run 119 = .ok (.ifCond .eq 8, 3) := by decide +kernel
theorem dX2_run_122 : decode cX2_run 122 = .ok (.bipush (-2), 2) := by decide +kernel
theorem dX2_run_124 : decode cX2_run 124 = .ok (.goto 7, 3) := by decide +kernel
theorem dX2_run_127 : decode cX2_run 127 = .ok (.aload_n 0, 1) := by decide +kernel
theorem dX2_run_128 : decode cX2_run 128 = .ok (.invokevirtual 76, 3) := by decide +kernel
theorem dX2_run_131 : decode cX2_run 131 = .ok (.ireturn, 1) := by decide +kernel
theorem dX2_lookAt_0 : decode cX2_lookAt 0 = .ok (.aload_n 0, 1) := by decide +kernel
theorem dX2_lookAt_1 : decode cX2_lookAt 1 = .ok (.getfield 42, 3) := by decide +kernel
theorem dX2_lookAt_4 : decode cX2_lookAt 4 = .ok (.iload_n 1, 1) := by decide +kernel
theorem dX2_lookAt_5 : decode cX2_lookAt 5 = .ok (.iaload, 1) := by decide +kernel
theorem dX2_lookAt_6 : decode cX2_lookAt 6 = .ok (.istore_n 2, 1) := by decide +kernel
theorem dX2_lookAt_7 : decode cX2_lookAt 7 = .ok (.aload_n 0, 1) := by decide +kernel
theorem dX2_lookAt_8 : decode cX2_lookAt 8 = .ok (.getfield 36, 3) := by decide +kernel
theorem dX2_lookAt_11 : decode cX2_lookAt 11 = .ok (.iload_n 1, 1) := by decide +kernel
theorem dX2_lookAt_12 : decode cX2_lookAt 12 = .ok (.iaload, 1) := by decide +kernel
theorem dX2_lookAt_13 : decode cX2_lookAt 13 = .ok (.istore_n 3, 1) := by decide +kernel
theorem dX2_lookAt_14 : decode cX2_lookAt 14 = .ok (.aload_n 0, 1) := by decide +kernel
theorem dX2_lookAt_15 : decode cX2_lookAt 15 = .ok (.getfield 18, 3) := by decide +kernel
theorem dX2_lookAt_18 : decode cX2_lookAt 18 = .ok (.iconst 1, 1) := by decide +kernel
theorem dX2_lookAt_19 : decode cX2_lookAt 19 = .ok (.iload_n 3, 1) := by decide +kernel
theorem dX2_lookAt_20 : decode cX2_lookAt 20 = .ok (.iastore, 1) := by decide +kernel
theorem dX2_lookAt_21 : decode cX2_lookAt 21 = .ok (.iload_n 3, 1) := by decide +kernel
theorem dX2_lookAt_22 : decode cX2_lookAt 22 = .ok (.aload_n 0, 1) := by decide +kernel
theorem dX2_lookAt_23 : decode cX2_lookAt 23 = .ok (.getfield 33, 3) := by decide +kernel
theorem dX2_lookAt_26 : decode cX2_lookAt 26 = .ok (.iload_n 2, 1) := by decide +kernel
theorem dX2_lookAt_27 : decode cX2_lookAt 27 = .ok (.iaload, 1) := by decide +kernel
theorem dX2_lookAt_28 : decode cX2_lookAt 28 = .ok (.if_icmp .lt 4, 3) := by decide +kernel
theorem dX2_lookAt_31 : decode cX2_lookAt 31 = .ok (.return_, 1) := by decide +kernel
theorem dX2_lookAt_32 : decode cX2_lookAt 32 = .ok (.aload_n 0, 1) := by decide +kernel
theorem dX2_lookAt_33 : decode cX2_lookAt 33 = .ok (.getfield 45, 3) := by decide +kernel
theorem dX2_lookAt_36 : decode cX2_lookAt 36 = .ok (.iload_n 1, 1) := by decide +kernel
theorem dX2_lookAt_37 : decode cX2_lookAt 37 = .ok (.iaload, 1) := by decide +kernel
theorem dX2_lookAt_38 : decode cX2_lookAt 38 = .ok (.istore 4, 2) := by decide +kernel
theorem dX2_lookAt_40 : decode cX2_lookAt 40 = .ok (.aload_n 0, 1) := by decide +kernel
theorem dX2_lookAt_41 : decode cX2_lookAt 41 = .ok (.getfield 51, 3) := by decide +kernel
theorem dX2_lookAt_44 : decode cX2_lookAt 44 = .ok (.getfield 80, 3) := by decide +kernel
theorem dX2_lookAt_47 : decode cX2_lookAt 47 = .ok (.iload_n 2, 1) := by decide +kernel
theorem dX2_lookAt_48 : decode cX2_lookAt 48 = .ok (.iaload, 1) := by decide +kernel
theorem dX2_lookAt_49 : decode cX2_lookAt 49 = .ok (.aload_n 0, 1) := by decide +kernel
theorem dX2_lookAt_50 : decode cX2_lookAt 50 = .ok (.getfield 39, 3) := by decide +kernel
theorem dX2_lookAt_53 : decode cX2_lookAt 53 = .ok (.iload_n 1, 1) := by decide +kernel
theorem dX2_lookAt_54 : decode cX2_lookAt 54 = .ok (.iaload, 1) := by decide +kernel
theorem dX2_lookAt_55 : decode cX2_lookAt 55 = .ok (.ishr, 1) := by decide +kernel
theorem dX2_lookAt_56 : decode cX2_lookAt 56 = .ok (.iconst 1, 1) := by decide +kernel
theorem dX2_lookAt_57 : decode cX2_lookAt 57 = .ok (.iand, 1) := by decide +kernel
theorem dX2_lookAt_58 : decode cX2_lookAt 58 = .ok (.iconst 1, 1) := by decide +kernel
theorem dX2_lookAt_59 : decode cX2_lookAt 59 = .ok (.if_icmp .ne 7, 3) := by decide +kernel
theorem dX2_lookAt_62 : decode cX2_lookAt 62 = .ok (.iconst 1, 1) := by decide +kernel
theorem dX2_lookAt_63 : decode cX2_lookAt 63 = .ok (.goto 4, 3) := by decide +kernel
theorem dX2_lookAt_66 : decode cX2_lookAt 66 = .ok (.iconst 0, 1) := by decide +kernel
theorem dX2_lookAt_67 : decode cX2_lookAt 67 = .ok (.istore 5, 2) := by decide +kernel
theorem dX2_lookAt_69 : decode cX2_lookAt 69 = .ok (.iload 5, 2) := by decide +kernel
theorem dX2_lookAt_71 : decode cX2_lookAt 71 = .ok (.ifCond .eq 8, 3) := by decide +kernel
theorem dX2_lookAt_74 : decode cX2_lookAt 74 = .ok (.iload 4, 2) := by decide +kernel
theorem dX2_lookAt_76 : decode cX2_lookAt 76 = .ok (.goto 12, 3) := by decide +kernel
theorem dX2_lookAt_79 : decode cX2_lookAt 79 = .ok (.aload_n 0, 1) := by decide +kernel
theorem dX2_lookAt_80 : decode cX2_lookAt 80 = .ok (.getfield 55, 3) := by decide +kernel
theorem dX2_lookAt_83 : decode cX2_lookAt 83 = .ok (.iload 4, 2) := by decide +kernel
theorem dX2_lookAt_85 : decode cX2_lookAt 85 = .ok (.invokevirtual 85, 3) := by decide +kernel
theorem dX2_lookAt_88 : decode cX2_lookAt 88 = .ok (.istore 6, 2) := by decide +kernel
theorem dX2_lookAt_90 : decode cX2_lookAt 90 = .ok (.iload 6, 2) := by decide +kernel
theorem dX2_lookAt_92 : decode cX2_lookAt 92 = .ok (.iconst (-1), 1) := by decide +kernel
theorem dX2_lookAt_93 : decode cX2_lookAt 93 = .ok (.if_icmp .ne 14, 3) := by decide +kernel
theorem dX2_lookAt_96 : decode cX2_lookAt 96 = .ok (.aload_n 0, 1) := by decide +kernel
theorem dX2_lookAt_97 : decode cX2_lookAt 97 = .ok (.getfield 18, 3) := by decide +kernel
theorem dX2_lookAt_100 : decode cX2_lookAt 100 = .ok (.iconst 3, 1) := by decide +kernel
theorem dX2_lookAt_101 : decode cX2_lookAt 101 = .ok (.dup2, 1) := by decide +kernel
theorem dX2_lookAt_102 : decode cX2_lookAt 102 = .ok (.iaload, 1) := by decide +kernel
theorem dX2_lookAt_103 : decode cX2_lookAt 103 = .ok (.iconst 1, 1) := by decide +kernel
theorem dX2_lookAt_104 : decode cX2_lookAt 104 = .ok (.iadd, 1) := by decide +kernel
theorem dX2_lookAt_105 : decode cX2_lookAt 105 = .ok (.iastore, 1) := by decide +kernel
theorem dX2_lookAt_106 : decode cX2_lookAt 106 = .ok (.return_, 1) := by decide +kernel
theorem dX2_lookAt_107 : decode cX2_lookAt 107 = .ok (.iload 6, 2) := by decide +kernel
theorem dX2_lookAt_109 : decode cX2_lookAt 109 = .ok (.iload 4, 2) := by decide +kernel
theorem dX2_lookAt_111 : decode cX2_lookAt 111 = .ok (.if_icmp .eq 13, 3) := by decide +kernel
theorem dX2_lookAt_114 : decode cX2_lookAt 114 = .ok (.aload_n 0, 1) := by decide +kernel
theorem dX2_lookAt_115 : decode cX2_lookAt 115 = .ok (.getfield 18, 3) := by decide +kernel
theorem dX2_lookAt_118 : decode cX2_lookAt 118 = .ok (.iconst 2, 1) := by decide +kernel
theorem dX2_lookAt_119 : decode cX2_lookAt 119 = .ok (.dup2, 1) := by decide +kernel
theorem dX2_lookAt_120 : decode cX2_lookAt 120 = .ok (.iaload, 1) := by decide +kernel
theorem dX2_lookAt_121 : decode cX2_lookAt 121 = .ok (.iconst 1, 1) := by decide +kernel
theorem dX2_lookAt_122 : decode cX2_lookAt 122 = .ok (.iadd, 1) := by decide +kernel
theorem dX2_lookAt_123 : decode cX2_lookAt 123 = .ok (.iastore, 1) := by decide +kernel
theorem dX2_lookAt_124 : decode cX2_lookAt 124 = .ok (.aload_n 0, 1) := by decide +kernel
theorem dX2_lookAt_125 : decode cX2_lookAt 125 = .ok (.iload_n 2, 1) := by decide +kernel
theorem dX2_lookAt_126 : decode cX2_lookAt 126 = .ok (.iload 6, 2) := by decide +kernel
theorem dX2_lookAt_128 : decode cX2_lookAt 128 = .ok (.iload_n 3, 1) := by decide +kernel
theorem dX2_lookAt_129 : decode cX2_lookAt 129 = .ok (.aload_n 0, 1) := by decide +kernel
theorem dX2_lookAt_130 : decode cX2_lookAt 130 = .ok (.getfield 39, 3) := by decide +kernel
theorem dX2_lookAt_133 : decode cX2_lookAt 133 = .ok (.iload_n 1, 1) := by decide +kernel
theorem dX2_lookAt_134 : decode cX2_lookAt 134 = .ok (.iaload, 1) := by decide +kernel
theorem dX2_lookAt_135 : decode cX2_lookAt 135 = .ok (.iload 4, 2) := by decide +kernel
theorem dX2_lookAt_137 : decode cX2_lookAt 137 = .ok (.invokevirtual 68, 3) := by decide +kernel
theorem dX2_lookAt_140 : decode cX2_lookAt 140 = .ok (.return_, 1) := by decide +kernel
theorem dX2_hear_0 : decode cX2_hear 0 = .ok (.iload_n 1, 1) := by decide +kernel
theorem dX2_hear_1 : decode cX2_hear 1 = .ok (.bipush 10, 2) := by decide +kernel
theorem dX2_hear_3 : decode cX2_hear 3 = .ok (.imul, 1) := by decide +kernel
theorem dX2_hear_4 : decode cX2_hear 4 = .ok (.iload_n 2, 1) := by decide +kernel
theorem dX2_hear_5 : decode cX2_hear 5 = .ok (.iadd, 1) := by decide +kernel
theorem dX2_hear_6 : decode cX2_hear 6 = .ok (.istore 6, 2) := by decide +kernel
theorem dX2_hear_8 : decode cX2_hear 8 = .ok (.aload_n 0, 1) := by decide +kernel
theorem dX2_hear_9 : decode cX2_hear 9 = .ok (.getfield 24, 3) := by decide +kernel
theorem dX2_hear_12 : decode cX2_hear 12 = .ok (.iconst 0, 1) := by decide +kernel
theorem dX2_hear_13 : decode cX2_hear 13 = .ok (.aaload, 1) := by decide +kernel
theorem dX2_hear_14 : decode cX2_hear 14 = .ok (.iload 6, 2) := by decide +kernel
theorem dX2_hear_16 : decode cX2_hear 16 = .ok (.iaload, 1) := by decide +kernel
theorem dX2_hear_17 : decode cX2_hear 17 = .ok (.iconst (-1), 1) := by decide +kernel
theorem dX2_hear_18 : decode cX2_hear 18 = .ok (.if_icmp .ne 35, 3) := by decide +kernel
theorem dX2_hear_21 : decode cX2_hear 21 = .ok (.aload_n 0, 1) := by decide +kernel
theorem dX2_hear_22 : decode cX2_hear 22 = .ok (.getfield 24, 3) := by decide +kernel
theorem dX2_hear_25 : decode cX2_hear 25 = .ok (.iconst 0, 1) := by decide +kernel
theorem dX2_hear_26 : decode cX2_hear 26 = .ok (.aaload, 1) := by decide +kernel
theorem dX2_hear_27 : decode cX2_hear 27 = .ok (.iload 6, 2) := by decide +kernel
theorem dX2_hear_29 : decode cX2_hear 29 = .ok (.iload_n 3, 1) := by decide +kernel
theorem dX2_hear_30 : decode cX2_hear 30 = .ok (.iastore, 1) := by decide +kernel
theorem dX2_hear_31 : decode cX2_hear 31 = .ok (.aload_n 0, 1) := by decide +kernel
theorem dX2_hear_32 : decode cX2_hear 32 = .ok (.getfield 24, 3) := by decide +kernel
theorem dX2_hear_35 : decode cX2_hear 35 = .ok (.iconst 1, 1) := by decide +kernel
theorem dX2_hear_36 : decode cX2_hear 36 = .ok (.aaload, 1) := by decide +kernel
theorem dX2_hear_37 : decode cX2_hear 37 = .ok (.iload 6, 2) := by decide +kernel
theorem dX2_hear_39 : decode cX2_hear 39 = .ok (.iload 4, 2) := by decide +kernel
theorem dX2_hear_41 : decode cX2_hear 41 = .ok (.iastore, 1) := by decide +kernel
theorem dX2_hear_42 : decode cX2_hear 42 = .ok (.aload_n 0, 1) := by decide +kernel
theorem dX2_hear_43 : decode cX2_hear 43 = .ok (.getfield 24, 3) := by decide +kernel
theorem dX2_hear_46 : decode cX2_hear 46 = .ok (.iconst 2, 1) := by decide +kernel
theorem dX2_hear_47 : decode cX2_hear 47 = .ok (.aaload, 1) := by decide +kernel
theorem dX2_hear_48 : decode cX2_hear 48 = .ok (.iload 6, 2) := by decide +kernel
theorem dX2_hear_50 : decode cX2_hear 50 = .ok (.iload 5, 2) := by decide +kernel
theorem dX2_hear_52 : decode cX2_hear 52 = .ok (.iastore, 1) := by decide +kernel
theorem dX2_hear_53 : decode cX2_hear 53 = .ok (.aload_n 0, 1) := by decide +kernel
theorem dX2_hear_54 : decode cX2_hear 54 = .ok (.getfield 24, 3) := by decide +kernel
theorem dX2_hear_57 : decode cX2_hear 57 = .ok (.iconst 3, 1) := by decide +kernel
theorem dX2_hear_58 : decode cX2_hear 58 = .ok (.aaload, 1) := by decide +kernel
theorem dX2_hear_59 : decode cX2_hear 59 = .ok (.iload 6, 2) := by decide +kernel
theorem dX2_hear_61 : decode cX2_hear 61 = .ok (.dup2, 1) := by decide +kernel
theorem dX2_hear_62 : decode cX2_hear 62 = .ok (.iaload, 1) := by decide +kernel
theorem dX2_hear_63 : decode cX2_hear 63 = .ok (.iload 4, 2) := by decide +kernel
theorem dX2_hear_65 : decode cX2_hear 65 = .ok (.invokestatic 91, 3) := by decide +kernel
theorem dX2_hear_68 : decode cX2_hear 68 = .ok (.ior, 1) := by decide +kernel
theorem dX2_hear_69 : decode cX2_hear 69 = .ok (.iastore, 1) := by decide +kernel
theorem dX2_hear_70 : decode cX2_hear 70 = .ok (.aload_n 0, 1) := by decide +kernel
theorem dX2_hear_71 : decode cX2_hear 71 = .ok (.iload_n 1, 1) := by decide +kernel
theorem dX2_hear_72 : decode cX2_hear 72 = .ok (.iload_n 2, 1) := by decide +kernel
theorem dX2_hear_73 : decode cX2_hear 73 = .ok (.invokevirtual 94, 3) := by decide +kernel
theorem dX2_hear_76 : decode cX2_hear 76 = .ok (.istore 7, 2) := by decide +kernel
theorem dX2_hear_78 : decode cX2_hear 78 = .ok (.iload 7, 2) := by decide +kernel
theorem dX2_hear_80 : decode cX2_hear 80 = .ok (.iconst (-1), 1) := by decide +kernel
theorem dX2_hear_81 : decode cX2_hear 81 = .ok (.if_icmp .eq 14, 3) := by decide +kernel
theorem dX2_hear_84 : decode cX2_hear 84 = .ok (.aload_n 0, 1) := by decide +kernel
theorem dX2_hear_85 : decode cX2_hear 85 = .ok (.iload 7, 2) := by decide +kernel
theorem dX2_hear_87 : decode cX2_hear 87 = .ok (.iload_n 1, 1) := by decide +kernel
theorem dX2_hear_88 : decode cX2_hear 88 = .ok (.iload_n 2, 1) := by decide +kernel
theorem dX2_hear_89 : decode cX2_hear 89 = .ok (.iload_n 3, 1) := by decide +kernel
theorem dX2_hear_90 : decode cX2_hear 90 = .ok (.iload 4, 2) := by decide +kernel
theorem dX2_hear_92 : decode cX2_hear 92 = .ok (.invokevirtual 98, 3) := by decide +kernel
theorem dX2_hear_95 : decode cX2_hear 95 = .ok (.return_, 1) := by decide +kernel
theorem dX2_bit_0 : decode cX2_bit 0 = .ok (.iload_n 0, 1) := by decide +kernel
theorem dX2_bit_1 : decode cX2_bit 1 = .ok (.ifCond .ge 7, 3) := by decide +kernel
theorem dX2_bit_4 : decode cX2_bit 4 = .ok (.iconst 0, 1) := by decide +kernel
theorem dX2_bit_5 : decode cX2_bit 5 = .ok (.goto 6, 3) := by decide +kernel
theorem dX2_bit_8 : decode cX2_bit 8 = .ok (.iconst 1, 1) := by decide +kernel
theorem dX2_bit_9 : decode cX2_bit 9 = .ok (.iload_n 0, 1) := by decide +kernel
theorem dX2_bit_10 : decode cX2_bit 10 = .ok (.ishl, 1) := by decide +kernel
theorem dX2_bit_11 : decode cX2_bit 11 = .ok (.ireturn, 1) := by decide +kernel
theorem dX2_nextOrder_0 : decode cX2_nextOrder 0 = .ok (.aload_n 0, 1) := by decide +kernel
theorem dX2_nextOrder_1 : decode cX2_nextOrder 1 = .ok (.getfield 24, 3) := by decide +kernel
theorem dX2_nextOrder_4 : decode cX2_nextOrder 4 = .ok (.iconst 3, 1) := by decide +kernel
theorem dX2_nextOrder_5 : decode cX2_nextOrder 5 = .ok (.aaload, 1) := by decide +kernel
theorem dX2_nextOrder_6 : decode cX2_nextOrder 6 = .ok (.iload_n 1, 1) := by decide +kernel
theorem dX2_nextOrder_7 : decode cX2_nextOrder 7 = .ok (.bipush 10, 2) := by decide +kernel
theorem dX2_nextOrder_9 : decode cX2_nextOrder 9 = .ok (.imul, 1) := by decide +kernel
theorem dX2_nextOrder_10 : decode cX2_nextOrder 10 = .ok (.iload_n 2, 1) := by decide +kernel
theorem dX2_nextOrder_11 : decode cX2_nextOrder 11 = .ok (.iadd, 1) := by decide +kernel
theorem dX2_nextOrder_12 : decode cX2_nextOrder 12 = .ok (.iaload, 1) := by decide +kernel
theorem dX2_nextOrder_13 : decode cX2_nextOrder 13 = .ok (.invokestatic 101, 3) := by decide +kernel
theorem dX2_nextOrder_16 : decode cX2_nextOrder 16 = .ok (.iconst 2, 1) := by decide +kernel
theorem dX2_nextOrder_17 : decode cX2_nextOrder 17 = .ok (.if_icmp .lt 7, 3) := by decide +kernel
theorem dX2_nextOrder_20 : decode cX2_nextOrder 20 = .ok (.iconst 1, 1) := by decide +kernel
theorem dX2_nextOrder_21 : decode cX2_nextOrder 21 = .ok (.goto 4, 3) := by decide +kernel
theorem dX2_nextOrder_24 : decode cX2_nextOrder 24 = .ok (.iconst 0, 1) := by decide +kernel
theorem dX2_nextOrder_25 : decode cX2_nextOrder 25 = .ok (.istore_n 3, 1) := by decide +kernel
theorem dX2_nextOrder_26 : decode cX2_nextOrder 26 = .ok (.iconst 0, 1) := by decide +kernel
theorem dX2_nextOrder_27 : decode cX2_nextOrder 27 = .ok (.istore 4, 2) := by decide +kernel
theorem dX2_nextOrder_29 : decode cX2_nextOrder 29 = .ok (.iload 4, 2) := by decide +kernel
theorem dX2_nextOrder_31 : decode cX2_nextOrder 31 = .ok (.aload_n 0, 1) := by decide +kernel
theorem dX2_nextOrder_32 : decode cX2_nextOrder 32 = .ok (.getfield 55, 3) := by decide +kernel
theorem dX2_nextOrder_35 : decode cX2_nextOrder 35 = .ok (.getfield 104, 3) := by decide +kernel
theorem dX2_nextOrder_38 : decode cX2_nextOrder 38 = .ok (.if_icmp .ge 109, 3) := by decide +kernel
theorem dX2_nextOrder_41 : decode cX2_nextOrder 41 = .ok (.aload_n 0, 1) := by decide +kernel
theorem dX2_nextOrder_42 : decode cX2_nextOrder 42 = .ok (.getfield 55, 3) := by decide +kernel
theorem dX2_nextOrder_45 : decode cX2_nextOrder 45 = .ok (.getfield 108, 3) := by decide +kernel
theorem dX2_nextOrder_48 : decode cX2_nextOrder 48 = .ok (.iload 4, 2) := by decide +kernel
theorem dX2_nextOrder_50 : decode cX2_nextOrder 50 = .ok (.iaload, 1) := by decide +kernel
theorem dX2_nextOrder_51 : decode cX2_nextOrder 51 = .ok (.iconst (-1), 1) := by decide +kernel
theorem dX2_nextOrder_52 : decode cX2_nextOrder 52 = .ok (.if_icmp .eq 17, 3) := by decide +kernel
theorem dX2_nextOrder_55 : decode cX2_nextOrder 55 = .ok (.aload_n 0, 1) := by decide +kernel
theorem dX2_nextOrder_56 : decode cX2_nextOrder 56 = .ok (.getfield 55, 3) := by decide +kernel
theorem dX2_nextOrder_59 : decode cX2_nextOrder 59 = .ok (.getfield 108, 3) := by decide +kernel
theorem dX2_nextOrder_62 : decode cX2_nextOrder 62 = .ok (.iload 4, 2) := by decide +kernel
theorem dX2_nextOrder_64 : decode cX2_nextOrder 64 = .ok (.iaload, 1) := by decide +kernel
theorem dX2_nextOrder_65 : decode cX2_nextOrder 65 = .ok (.iload_n 1, 1) := by decide +kernel
theorem dX2_nextOrder_66 : decode cX2_nextOrder 66 = .ok (.if_icmp .ne 7, 3) := by decide +kernel
theorem dX2_nextOrder_69 : decode cX2_nextOrder 69 = .ok (.iconst 1, 1) := by decide +kernel
theorem dX2_nextOrder_70 : decode cX2_nextOrder 70 = .ok (.goto 4, 3) := by decide +kernel
theorem dX2_nextOrder_73 : decode cX2_nextOrder 73 = .ok (.iconst 0, 1) := by decide +kernel
theorem dX2_nextOrder_74 : decode cX2_nextOrder 74 = .ok (.istore 5, 2) := by decide +kernel
theorem dX2_nextOrder_76 : decode cX2_nextOrder 76 = .ok (.aload_n 0, 1) := by decide +kernel
theorem dX2_nextOrder_77 : decode cX2_nextOrder 77 = .ok (.getfield 27, 3) := by decide +kernel
theorem dX2_nextOrder_80 : decode cX2_nextOrder 80 = .ok (.iload_n 1, 1) := by decide +kernel
theorem dX2_nextOrder_81 : decode cX2_nextOrder 81 = .ok (.iaload, 1) := by decide +kernel
theorem dX2_nextOrder_82 : decode cX2_nextOrder 82 = .ok (.iload 4, 2) := by decide +kernel
theorem dX2_nextOrder_84 : decode cX2_nextOrder 84 = .ok (.ishr, 1) := by decide +kernel
theorem dX2_nextOrder_85 : decode cX2_nextOrder 85 = .ok (.iconst 1, 1) := by decide +kernel
theorem dX2_nextOrder_86 : decode cX2_nextOrder 86 = .ok (.iand, 1) := by decide +kernel
theorem dX2_nextOrder_87 : decode cX2_nextOrder 87 = .ok (.ifCond .ne 7, 3) := by decide +kernel
theorem dX2_nextOrder_90 : decode cX2_nextOrder 90 = .ok (.iconst 1, 1) := by decide +kernel
theorem dX2_nextOrder_91 : decode cX2_nextOrder 91 = .ok (.goto 4, 3) := by decide +kernel
theorem dX2_nextOrder_94 : decode cX2_nextOrder 94 = .ok (.iconst 0, 1) := by decide +kernel
theorem dX2_nextOrder_95 : decode cX2_nextOrder 95 = .ok (.istore 6, 2) := by decide +kernel
theorem dX2_nextOrder_97 : decode cX2_nextOrder 97 = .ok (.iload 5, 2) := by decide +kernel
theorem dX2_nextOrder_99 : decode cX2_nextOrder 99 = .ok (.ifCond .eq 42, 3) := by decide +kernel
theorem dX2_nextOrder_102 : decode cX2_nextOrder 102 = .ok (.iload 6, 2) := by decide +kernel
theorem dX2_nextOrder_104 : decode cX2_nextOrder 104 = .ok (.ifCond .eq 37, 3) := by decide +kernel
theorem dX2_nextOrder_107 : decode cX2_nextOrder 107 = .ok (.aload_n 0, 1) := by decide +kernel
theorem dX2_nextOrder_108 : decode cX2_nextOrder 108 = .ok (.getfield 55, 3) := by decide +kernel
theorem dX2_nextOrder_111 : decode cX2_nextOrder 111 = .ok (.getfield 111, 3) := by decide +kernel
theorem dX2_nextOrder_114 : decode cX2_nextOrder 114 = .ok (.iload 4, 2) := by decide +kernel
theorem dX2_nextOrder_116 : decode cX2_nextOrder 116 = .ok (.iaload, 1) := by decide +kernel
theorem dX2_nextOrder_117 : decode cX2_nextOrder 117 = .ok (.iload_n 2, 1) := by decide +kernel
theorem dX2_nextOrder_118 : decode cX2_nextOrder 118 = .ok (.if_icmp .ne 23, 3) := by decide +kernel
theorem dX2_nextOrder_121 : decode cX2_nextOrder 121 = .ok (.iload_n 3, 1) := by decide +kernel
theorem dX2_nextOrder_122 : decode cX2_nextOrder 122 = .ok (.ifCond .ne 16, 3) := by decide +kernel
theorem dX2_nextOrder_125 : decode cX2_nextOrder 125 = .ok (.aload_n 0, 1) := by decide +kernel
theorem dX2_nextOrder_126 : decode cX2_nextOrder 126 = .ok (.getfield 55, 3) := by decide +kernel
theorem dX2_nextOrder_129 : decode cX2_nextOrder 129 = .ok (.getfield 114, 3) := by decide +kernel
theorem dX2_nextOrder_132 : decode cX2_nextOrder 132 = .ok (.iload 4, 2) := by decide +kernel
theorem dX2_nextOrder_134 : decode cX2_nextOrder 134 = .ok (.baload, 1) := by decide +kernel
theorem dX2_nextOrder_135 : decode cX2_nextOrder 135 = .ok (.ifCond .ne 6, 3) := by decide +kernel
theorem dX2_nextOrder_138 : decode cX2_nextOrder 138 = .ok (.iload 4, 2) := by decide +kernel
theorem dX2_nextOrder_140 : decode cX2_nextOrder 140 = .ok (.ireturn, 1) := by decide +kernel
theorem dX2_nextOrder_141 : decode cX2_nextOrder 141 = .ok (.iinc 4 1, 3) := by decide +kernel
theorem dX2_nextOrder_144 : decode cX2_nextOrder 144 = .ok (.goto (-115), 3) := by decide +kernel
theorem dX2_nextOrder_147 : decode cX2_nextOrder 147 = .ok (.iconst (-1), 1) := by decide +kernel
theorem dX2_nextOrder_148 : decode cX2_nextOrder 148 = .ok (.ireturn, 1) := by decide +kernel
theorem dX2_carryOut_0 : decode cX2_carryOut 0 = .ok (.aload_n 0, 1) := by decide +kernel
theorem dX2_carryOut_1 : decode cX2_carryOut 1 = .ok (.getfield 27, 3) := by decide +kernel
theorem dX2_carryOut_4 : decode cX2_carryOut 4 = .ok (.iload_n 2, 1) := by decide +kernel
theorem dX2_carryOut_5 : decode cX2_carryOut 5 = .ok (.dup2, 1) := by decide +kernel
theorem dX2_carryOut_6 : decode cX2_carryOut 6 = .ok (.iaload, 1) := by decide +kernel
theorem dX2_carryOut_7 : decode cX2_carryOut 7 = .ok (.iconst 1, 1) := by decide +kernel
theorem dX2_carryOut_8 : decode cX2_carryOut 8 = .ok (.iload_n 1, 1) := by decide +kernel
theorem dX2_carryOut_9 : decode cX2_carryOut 9 = .ok (.ishl, 1) := by decide +kernel
theorem dX2_carryOut_10 : decode cX2_carryOut 10 = .ok (.ior, 1) := by decide +kernel
theorem dX2_carryOut_11 : decode cX2_carryOut 11 = .ok (.iastore, 1) := by decide +kernel
theorem dX2_carryOut_12 : decode cX2_carryOut 12 = .ok (.aload_n 0, 1) := by decide +kernel
theorem dX2_carryOut_13 : decode cX2_carryOut 13 = .ok (.getfield 18, 3) := by decide +kernel
theorem dX2_carryOut_16 : decode cX2_carryOut 16 = .ok (.iconst 4, 1) := by decide +kernel
theorem dX2_carryOut_17 : decode cX2_carryOut 17 = .ok (.dup2, 1) := by decide +kernel
theorem dX2_carryOut_18 : decode cX2_carryOut 18 = .ok (.iaload, 1) := by decide +kernel
theorem dX2_carryOut_19 : decode cX2_carryOut 19 = .ok (.iconst 1, 1) := by decide +kernel
theorem dX2_carryOut_20 : decode cX2_carryOut 20 = .ok (.iadd, 1) := by decide +kernel
theorem dX2_carryOut_21 : decode cX2_carryOut 21 = .ok (.iastore, 1) := by decide +kernel
theorem dX2_carryOut_22 : decode cX2_carryOut 22 = .ok (.iload 4, 2) := by decide +kernel
theorem dX2_carryOut_24 : decode cX2_carryOut 24 = .ok (.aload_n 0, 1) := by decide +kernel
theorem dX2_carryOut_25 : decode cX2_carryOut 25 = .ok (.getfield 30, 3) := by decide +kernel
theorem dX2_carryOut_28 : decode cX2_carryOut 28 = .ok (.iload_n 2, 1) := by decide +kernel
theorem dX2_carryOut_29 : decode cX2_carryOut 29 = .ok (.iaload, 1) := by decide +kernel
theorem dX2_carryOut_30 : decode cX2_carryOut 30 = .ok (.invokestatic 118, 3) := by decide +kernel
theorem dX2_carryOut_33 : decode cX2_carryOut 33 = .ok (.istore 6, 2) := by decide +kernel
theorem dX2_carryOut_35 : decode cX2_carryOut 35 = .ok (.iconst 0, 1) := by decide +kernel
theorem dX2_carryOut_36 : decode cX2_carryOut 36 = .ok (.istore 7, 2) := by decide +kernel
theorem dX2_carryOut_38 : decode cX2_carryOut 38 = .ok (.iload 7, 2) := by decide +kernel
theorem dX2_carryOut_40 : decode cX2_carryOut 40 = .ok (.aload_n 0, 1) := by decide +kernel
theorem dX2_carryOut_41 : decode cX2_carryOut 41 = .ok (.getfield 55, 3) := by decide +kernel
theorem dX2_carryOut_44 : decode cX2_carryOut 44 = .ok (.getfield 123, 3) := by decide +kernel
theorem dX2_carryOut_47 : decode cX2_carryOut 47 = .ok (.iload_n 1, 1) := by decide +kernel
theorem dX2_carryOut_48 : decode cX2_carryOut 48 = .ok (.iaload, 1) := by decide +kernel
theorem dX2_carryOut_49 : decode cX2_carryOut 49 = .ok (.if_icmp .ge 230, 3) := by decide +kernel
theorem dX2_carryOut_52 : decode cX2_carryOut 52 = .ok (.aload_n 0, 1) := by decide +kernel
theorem dX2_carryOut_53 : decode cX2_carryOut 53 = .ok (.getfield 15, 3) := by decide +kernel
theorem dX2_carryOut_56 : decode cX2_carryOut 56 = .ok (.ifCond .ne 223, 3) := by decide +kernel
theorem dX2_carryOut_59 : decode cX2_carryOut 59 = .ok (.iload_n 1, 1) := by decide +kernel
theorem dX2_carryOut_60 : decode cX2_carryOut 60 = .ok (.iconst 4, 1) := by decide +kernel
theorem dX2_carryOut_61 : decode cX2_carryOut 61 = .ok (.imul, 1) := by decide +kernel
theorem dX2_carryOut_62 : decode cX2_carryOut 62 = .ok (.iload 7, 2) := by decide +kernel
theorem dX2_carryOut_64 : decode cX2_carryOut 64 = .ok (.iadd, 1) := by decide +kernel
theorem dX2_carryOut_65 : decode cX2_carryOut 65 = .ok (.istore 8, 2) := by decide +kernel
theorem dX2_carryOut_67 : decode cX2_carryOut 67 = .ok (.aload_n 0, 1) := by decide +kernel
theorem dX2_carryOut_68 : decode cX2_carryOut 68 = .ok (.getfield 51, 3) := by decide +kernel
theorem dX2_carryOut_71 : decode cX2_carryOut 71 = .ok (.getfield 126, 3) := by decide +kernel
theorem dX2_carryOut_74 : decode cX2_carryOut 74 = .ok (.iload_n 2, 1) := by decide +kernel
theorem dX2_carryOut_75 : decode cX2_carryOut 75 = .ok (.iaload, 1) := by decide +kernel
theorem dX2_carryOut_76 : decode cX2_carryOut 76 = .ok (.iload 5, 2) := by decide +kernel
theorem dX2_carryOut_78 : decode cX2_carryOut 78 = .ok (.invokestatic 91, 3) := by decide +kernel
theorem dX2_carryOut_81 : decode cX2_carryOut 81 = .ok (.iconst (-1), 1) := by decide +kernel
theorem dX2_carryOut_82 : decode cX2_carryOut 82 = .ok (.ixor, 1) := by decide +kernel
theorem dX2_carryOut_83 : decode cX2_carryOut 83 = .ok (.iand, 1) := by decide +kernel
theorem dX2_carryOut_84 : decode cX2_carryOut 84 = .ok (.istore 9, 2) := by decide +kernel
theorem dX2_carryOut_86 : decode cX2_carryOut 86 = .ok (.aload_n 0, 1) := by decide +kernel
theorem dX2_carryOut_87 : decode cX2_carryOut 87 = .ok (.getfield 55, 3) := by decide +kernel
theorem dX2_carryOut_90 : decode cX2_carryOut 90 = .ok (.getfield 129, 3) := by decide +kernel
theorem dX2_carryOut_93 : decode cX2_carryOut 93 = .ok (.iload 8, 2) := by decide +kernel
theorem dX2_carryOut_95 : decode cX2_carryOut 95 = .ok (.iaload, 1) := by decide +kernel
theorem dX2_carryOut_96 : decode cX2_carryOut 96 = .ok (.tableswitch 100 7 11 #[74, 100, 100, 36, 54], 36) := by decide +kernel
theorem dX2_carryOut_132 : decode cX2_carryOut 132 = .ok (.iload 6, 2) := by decide +kernel
theorem dX2_carryOut_134 : decode cX2_carryOut 134 = .ok (.aload_n 0, 1) := by decide +kernel
theorem dX2_carryOut_135 : decode cX2_carryOut 135 = .ok (.getfield 55, 3) := by decide +kernel
theorem dX2_carryOut_138 : decode cX2_carryOut 138 = .ok (.getfield 132, 3) := by decide +kernel
theorem dX2_carryOut_141 : decode cX2_carryOut 141 = .ok (.iload 8, 2) := by decide +kernel
theorem dX2_carryOut_143 : decode cX2_carryOut 143 = .ok (.iaload, 1) := by decide +kernel
theorem dX2_carryOut_144 : decode cX2_carryOut 144 = .ok (.iadd, 1) := by decide +kernel
theorem dX2_carryOut_145 : decode cX2_carryOut 145 = .ok (.istore 6, 2) := by decide +kernel
theorem dX2_carryOut_147 : decode cX2_carryOut 147 = .ok (.goto 126, 3) := by decide +kernel
theorem dX2_carryOut_150 : decode cX2_carryOut 150 = .ok (.aload_n 0, 1) := by decide +kernel
theorem dX2_carryOut_151 : decode cX2_carryOut 151 = .ok (.getfield 33, 3) := by decide +kernel
theorem dX2_carryOut_154 : decode cX2_carryOut 154 = .ok (.iload_n 2, 1) := by decide +kernel
theorem dX2_carryOut_155 : decode cX2_carryOut 155 = .ok (.aload_n 0, 1) := by decide +kernel
theorem dX2_carryOut_156 : decode cX2_carryOut 156 = .ok (.getfield 33, 3) := by decide +kernel
theorem dX2_carryOut_159 : decode cX2_carryOut 159 = .ok (.iload_n 2, 1) := by decide +kernel
theorem dX2_carryOut_160 : decode cX2_carryOut 160 = .ok (.iaload, 1) := by decide +kernel
theorem dX2_carryOut_161 : decode cX2_carryOut 161 = .ok (.iload 6, 2) := by decide +kernel
theorem dX2_carryOut_163 : decode cX2_carryOut 163 = .ok (.invokestatic 135, 3) := by decide +kernel
theorem dX2_carryOut_166 : decode cX2_carryOut 166 = .ok (.iastore, 1) := by decide +kernel
theorem dX2_carryOut_167 : decode cX2_carryOut 167 = .ok (.goto 106, 3) := by decide +kernel
theorem dX2_carryOut_170 : decode cX2_carryOut 170 = .ok (.iload 6, 2) := by decide +kernel
theorem dX2_carryOut_172 : decode cX2_carryOut 172 = .ok (.aload_n 0, 1) := by decide +kernel
theorem dX2_carryOut_173 : decode cX2_carryOut 173 = .ok (.getfield 55, 3) := by decide +kernel
theorem dX2_carryOut_176 : decode cX2_carryOut 176 = .ok (.iload_n 3, 1) := by decide +kernel
theorem dX2_carryOut_177 : decode cX2_carryOut 177 = .ok (.invokevirtual 138, 3) := by decide +kernel
theorem dX2_carryOut_180 : decode cX2_carryOut 180 = .ok (.iadd, 1) := by decide +kernel
theorem dX2_carryOut_181 : decode cX2_carryOut 181 = .ok (.istore 6, 2) := by decide +kernel
theorem dX2_carryOut_183 : decode cX2_carryOut 183 = .ok (.aload_n 0, 1) := by decide +kernel
theorem dX2_carryOut_184 : decode cX2_carryOut 184 = .ok (.iload_n 2, 1) := by decide +kernel
theorem dX2_carryOut_185 : decode cX2_carryOut 185 = .ok (.iload 9, 2) := by decide +kernel
theorem dX2_carryOut_187 : decode cX2_carryOut 187 = .ok (.iload_n 3, 1) := by decide +kernel
theorem dX2_carryOut_188 : decode cX2_carryOut 188 = .ok (.iload 6, 2) := by decide +kernel
theorem dX2_carryOut_190 : decode cX2_carryOut 190 = .ok (.invokevirtual 141, 3) := by decide +kernel
theorem dX2_carryOut_193 : decode cX2_carryOut 193 = .ok (.goto 80, 3) := by decide +kernel
theorem dX2_carryOut_196 : decode cX2_carryOut 196 = .ok (.aload_n 0, 1) := by decide +kernel
theorem dX2_carryOut_197 : decode cX2_carryOut 197 = .ok (.getfield 55, 3) := by decide +kernel
theorem dX2_carryOut_200 : decode cX2_carryOut 200 = .ok (.getfield 145, 3) := by decide +kernel
theorem dX2_carryOut_203 : decode cX2_carryOut 203 = .ok (.iload 8, 2) := by decide +kernel
theorem dX2_carryOut_205 : decode cX2_carryOut 205 = .ok (.iaload, 1) := by decide +kernel
theorem dX2_carryOut_206 : decode cX2_carryOut 206 = .ok (.istore 10, 2) := by decide +kernel
theorem dX2_carryOut_208 : decode cX2_carryOut 208 = .ok (.iload 6, 2) := by decide +kernel
theorem dX2_carryOut_210 : decode cX2_carryOut 210 = .ok (.aload_n 0, 1) := by decide +kernel
theorem dX2_carryOut_211 : decode cX2_carryOut 211 = .ok (.getfield 55, 3) := by decide +kernel
theorem dX2_carryOut_214 : decode cX2_carryOut 214 = .ok (.aload_n 0, 1) := by decide +kernel
theorem dX2_carryOut_215 : decode cX2_carryOut 215 = .ok (.getfield 55, 3) := by decide +kernel
theorem dX2_carryOut_218 : decode cX2_carryOut 218 = .ok (.getfield 132, 3) := by decide +kernel
theorem dX2_carryOut_221 : decode cX2_carryOut 221 = .ok (.iload 8, 2) := by decide +kernel
theorem dX2_carryOut_223 : decode cX2_carryOut 223 = .ok (.iaload, 1) := by decide +kernel
theorem dX2_carryOut_224 : decode cX2_carryOut 224 = .ok (.invokevirtual 138, 3) := by decide +kernel
theorem dX2_carryOut_227 : decode cX2_carryOut 227 = .ok (.iadd, 1) := by decide +kernel
theorem dX2_carryOut_228 : decode cX2_carryOut 228 = .ok (.istore 6, 2) := by decide +kernel
theorem dX2_carryOut_230 : decode cX2_carryOut 230 = .ok (.aload_n 0, 1) := by decide +kernel
theorem dX2_carryOut_231 : decode cX2_carryOut 231 = .ok (.iload_n 2, 1) := by decide +kernel
theorem dX2_carryOut_232 : decode cX2_carryOut 232 = .ok (.iload 10, 2) := by decide +kernel
theorem dX2_carryOut_234 : decode cX2_carryOut 234 = .ok (.iconst (-1), 1) := by decide +kernel
theorem dX2_carryOut_235 : decode cX2_carryOut 235 = .ok (.if_icmp .ne 8, 3) := by decide +kernel
theorem dX2_carryOut_238 : decode cX2_carryOut 238 = .ok (.iload 9, 2) := by decide +kernel
theorem dX2_carryOut_240 : decode cX2_carryOut 240 = .ok (.goto 18, 3) := by decide +kernel
theorem dX2_carryOut_243 : decode cX2_carryOut 243 = .ok (.aload_n 0, 1) := by decide +kernel
theorem dX2_carryOut_244 : decode cX2_carryOut 244 = .ok (.getfield 51, 3) := by decide +kernel
theorem dX2_carryOut_247 : decode cX2_carryOut 247 = .ok (.getfield 126, 3) := by decide +kernel
theorem dX2_carryOut_250 : decode cX2_carryOut 250 = .ok (.iload_n 2, 1) := by decide +kernel
theorem dX2_carryOut_251 : decode cX2_carryOut 251 = .ok (.iaload, 1) := by decide +kernel
theorem dX2_carryOut_252 : decode cX2_carryOut 252 = .ok (.iload 10, 2) := by decide +kernel
theorem dX2_carryOut_254 : decode cX2_carryOut 254 = .ok (.invokestatic 91, 3) := by decide +kernel
theorem dX2_carryOut_257 : decode cX2_carryOut 257 = .ok (.iand, 1) := by decide +kernel
theorem dX2_carryOut_258 : decode cX2_carryOut 258 = .ok (.aload_n 0, 1) := by decide +kernel
theorem dX2_carryOut_259 : decode cX2_carryOut 259 = .ok (.getfield 55, 3) := by decide +kernel
theorem dX2_carryOut_262 : decode cX2_carryOut 262 = .ok (.getfield 132, 3) := by decide +kernel
theorem dX2_carryOut_265 : decode cX2_carryOut 265 = .ok (.iload 8, 2) := by decide +kernel
theorem dX2_carryOut_267 : decode cX2_carryOut 267 = .ok (.iaload, 1) := by decide +kernel
theorem dX2_carryOut_268 : decode cX2_carryOut 268 = .ok (.iload 6, 2) := by decide +kernel
theorem dX2_carryOut_270 : decode cX2_carryOut 270 = .ok (.invokevirtual 141, 3) := by decide +kernel
theorem dX2_carryOut_273 : decode cX2_carryOut 273 = .ok (.iinc 7 1, 3) := by decide +kernel
theorem dX2_carryOut_276 : decode cX2_carryOut 276 = .ok (.goto (-238), 3) := by decide +kernel
theorem dX2_carryOut_279 : decode cX2_carryOut 279 = .ok (.aload_n 0, 1) := by decide +kernel
theorem dX2_carryOut_280 : decode cX2_carryOut 280 = .ok (.getfield 30, 3) := by decide +kernel
theorem dX2_carryOut_283 : decode cX2_carryOut 283 = .ok (.iload_n 2, 1) := by decide +kernel
theorem dX2_carryOut_284 : decode cX2_carryOut 284 = .ok (.iload 6, 2) := by decide +kernel
theorem dX2_carryOut_286 : decode cX2_carryOut 286 = .ok (.iastore, 1) := by decide +kernel
theorem dX2_carryOut_287 : decode cX2_carryOut 287 = .ok (.return_, 1) := by decide +kernel
theorem dX2_show_0 : decode cX2_show 0 = .ok (.iconst 0, 1) := by decide +kernel
theorem dX2_show_1 : decode cX2_show 1 = .ok (.istore 5, 2) := by decide +kernel
theorem dX2_show_3 : decode cX2_show 3 = .ok (.iload 5, 2) := by decide +kernel
theorem dX2_show_5 : decode cX2_show 5 = .ok (.bipush 12, 2) := by decide +kernel
theorem dX2_show_7 : decode cX2_show 7 = .ok (.if_icmp .ge 36, 3) := by decide +kernel
theorem dX2_show_10 : decode cX2_show 10 = .ok (.aload_n 0, 1) := by decide +kernel
theorem dX2_show_11 : decode cX2_show 11 = .ok (.getfield 15, 3) := by decide +kernel
theorem dX2_show_14 : decode cX2_show 14 = .ok (.ifCond .ne 29, 3) := by decide +kernel
theorem dX2_show_17 : decode cX2_show 17 = .ok (.iload_n 2, 1) := by decide +kernel
theorem dX2_show_18 : decode cX2_show 18 = .ok (.iload 5, 2) := by decide +kernel
theorem dX2_show_20 : decode cX2_show 20 = .ok (.ishr, 1) := by decide +kernel
theorem dX2_show_21 : decode cX2_show 21 = .ok (.iconst 1, 1) := by decide +kernel
theorem dX2_show_22 : decode cX2_show 22 = .ok (.iand, 1) := by decide +kernel
theorem dX2_show_23 : decode cX2_show 23 = .ok (.iconst 1, 1) := by decide +kernel
theorem dX2_show_24 : decode cX2_show 24 = .ok (.if_icmp .ne 13, 3) := by decide +kernel
theorem dX2_show_27 : decode cX2_show 27 = .ok (.aload_n 0, 1) := by decide +kernel
theorem dX2_show_28 : decode cX2_show 28 = .ok (.iload_n 1, 1) := by decide +kernel
theorem dX2_show_29 : decode cX2_show 29 = .ok (.iload 5, 2) := by decide +kernel
theorem dX2_show_31 : decode cX2_show 31 = .ok (.iload_n 3, 1) := by decide +kernel
theorem dX2_show_32 : decode cX2_show 32 = .ok (.iload 4, 2) := by decide +kernel
theorem dX2_show_34 : decode cX2_show 34 = .ok (.invokevirtual 148, 3) := by decide +kernel
theorem dX2_show_37 : decode cX2_show 37 = .ok (.iinc 5 1, 3) := by decide +kernel
theorem dX2_show_40 : decode cX2_show 40 = .ok (.goto (-37), 3) := by decide +kernel
theorem dX2_show_43 : decode cX2_show 43 = .ok (.return_, 1) := by decide +kernel
theorem dX2_queue_0 : decode cX2_queue 0 = .ok (.aload_n 0, 1) := by decide +kernel
theorem dX2_queue_1 : decode cX2_queue 1 = .ok (.getfield 18, 3) := by decide +kernel
theorem dX2_queue_4 : decode cX2_queue 4 = .ok (.iconst 0, 1) := by decide +kernel
theorem dX2_queue_5 : decode cX2_queue 5 = .ok (.iaload, 1) := by decide +kernel
theorem dX2_queue_6 : decode cX2_queue 6 = .ok (.istore 5, 2) := by decide +kernel
theorem dX2_queue_8 : decode cX2_queue 8 = .ok (.iload 5, 2) := by decide +kernel
theorem dX2_queue_10 : decode cX2_queue 10 = .ok (.sipush 200, 3) := by decide +kernel
theorem dX2_queue_13 : decode cX2_queue 13 = .ok (.if_icmp .lt 9, 3) := by decide +kernel
theorem dX2_queue_16 : decode cX2_queue 16 = .ok (.aload_n 0, 1) := by decide +kernel
theorem dX2_queue_17 : decode cX2_queue 17 = .ok (.iconst 1, 1) := by decide +kernel
theorem dX2_queue_18 : decode cX2_queue 18 = .ok (.putfield 15, 3) := by decide +kernel
theorem dX2_queue_21 : decode cX2_queue 21 = .ok (.return_, 1) := by decide +kernel
theorem dX2_queue_22 : decode cX2_queue 22 = .ok (.aload_n 0, 1) := by decide +kernel
theorem dX2_queue_23 : decode cX2_queue 23 = .ok (.getfield 39, 3) := by decide +kernel
theorem dX2_queue_26 : decode cX2_queue 26 = .ok (.iload 5, 2) := by decide +kernel
theorem dX2_queue_28 : decode cX2_queue 28 = .ok (.iload_n 1, 1) := by decide +kernel
theorem dX2_queue_29 : decode cX2_queue 29 = .ok (.iastore, 1) := by decide +kernel
theorem dX2_queue_30 : decode cX2_queue 30 = .ok (.aload_n 0, 1) := by decide +kernel
theorem dX2_queue_31 : decode cX2_queue 31 = .ok (.getfield 42, 3) := by decide +kernel
theorem dX2_queue_34 : decode cX2_queue 34 = .ok (.iload 5, 2) := by decide +kernel
theorem dX2_queue_36 : decode cX2_queue 36 = .ok (.iload_n 2, 1) := by decide +kernel
theorem dX2_queue_37 : decode cX2_queue 37 = .ok (.iastore, 1) := by decide +kernel
theorem dX2_queue_38 : decode cX2_queue 38 = .ok (.aload_n 0, 1) := by decide +kernel
theorem dX2_queue_39 : decode cX2_queue 39 = .ok (.getfield 45, 3) := by decide +kernel
theorem dX2_queue_42 : decode cX2_queue 42 = .ok (.iload 5, 2) := by decide +kernel
theorem dX2_queue_44 : decode cX2_queue 44 = .ok (.iload_n 3, 1) := by decide +kernel
theorem dX2_queue_45 : decode cX2_queue 45 = .ok (.iastore, 1) := by decide +kernel
theorem dX2_queue_46 : decode cX2_queue 46 = .ok (.aload_n 0, 1) := by decide +kernel
theorem dX2_queue_47 : decode cX2_queue 47 = .ok (.getfield 36, 3) := by decide +kernel
theorem dX2_queue_50 : decode cX2_queue 50 = .ok (.iload 5, 2) := by decide +kernel
theorem dX2_queue_52 : decode cX2_queue 52 = .ok (.iload 4, 2) := by decide +kernel
theorem dX2_queue_54 : decode cX2_queue 54 = .ok (.iastore, 1) := by decide +kernel
theorem dX2_queue_55 : decode cX2_queue 55 = .ok (.iload 5, 2) := by decide +kernel
theorem dX2_queue_57 : decode cX2_queue 57 = .ok (.istore 6, 2) := by decide +kernel
theorem dX2_queue_59 : decode cX2_queue 59 = .ok (.iload 6, 2) := by decide +kernel
theorem dX2_queue_61 : decode cX2_queue 61 = .ok (.ifCond .le 44, 3) := by decide +kernel
theorem dX2_queue_64 : decode cX2_queue 64 = .ok (.aload_n 0, 1) := by decide +kernel
theorem dX2_queue_65 : decode cX2_queue 65 = .ok (.getfield 36, 3) := by decide +kernel
theorem dX2_queue_68 : decode cX2_queue 68 = .ok (.aload_n 0, 1) := by decide +kernel
theorem dX2_queue_69 : decode cX2_queue 69 = .ok (.getfield 48, 3) := by decide +kernel
theorem dX2_queue_72 : decode cX2_queue 72 = .ok (.iload 6, 2) := by decide +kernel
theorem dX2_queue_74 : decode cX2_queue 74 = .ok (.iconst 1, 1) := by decide +kernel
theorem dX2_queue_75 : decode cX2_queue 75 = .ok (.isub, 1) := by decide +kernel
theorem dX2_queue_76 : decode cX2_queue 76 = .ok (.iaload, 1) := by decide +kernel
theorem dX2_queue_77 : decode cX2_queue 77 = .ok (.iaload, 1) := by decide +kernel
theorem dX2_queue_78 : decode cX2_queue 78 = .ok (.iload 4, 2) := by decide +kernel
theorem dX2_queue_80 : decode cX2_queue 80 = .ok (.if_icmp .le 25, 3) := by decide +kernel
theorem dX2_queue_83 : decode cX2_queue 83 = .ok (.aload_n 0, 1) := by decide +kernel
theorem dX2_queue_84 : decode cX2_queue 84 = .ok (.getfield 48, 3) := by decide +kernel
theorem dX2_queue_87 : decode cX2_queue 87 = .ok (.iload 6, 2) := by decide +kernel
theorem dX2_queue_89 : decode cX2_queue 89 = .ok (.aload_n 0, 1) := by decide +kernel
theorem dX2_queue_90 : decode cX2_queue 90 = .ok (.getfield 48, 3) := by decide +kernel
theorem dX2_queue_93 : decode cX2_queue 93 = .ok (.iload 6, 2) := by decide +kernel
theorem dX2_queue_95 : decode cX2_queue 95 = .ok (.iconst 1, 1) := by decide +kernel
theorem dX2_queue_96 : decode cX2_queue 96 = .ok (.isub, 1) := by decide +kernel
theorem dX2_queue_97 : decode cX2_queue 97 = .ok (.iaload, 1) := by decide +kernel
theorem dX2_queue_98 : decode cX2_queue 98 = .ok (.iastore, 1) := by decide +kernel
theorem dX2_queue_99 : decode cX2_queue 99 = .ok (.iinc 6 (-1), 3) := by decide +kernel
theorem dX2_queue_102 : decode cX2_queue 102 = .ok (.goto (-43), 3) := by decide +kernel
theorem dX2_queue_105 : decode cX2_queue 105 = .ok (.aload_n 0, 1) := by decide +kernel
theorem dX2_queue_106 : decode cX2_queue 106 = .ok (.getfield 48, 3) := by decide +kernel
theorem dX2_queue_109 : decode cX2_queue 109 = .ok (.iload 6, 2) := by decide +kernel
theorem dX2_queue_111 : decode cX2_queue 111 = .ok (.iload 5, 2) := by decide +kernel
theorem dX2_queue_113 : decode cX2_queue 113 = .ok (.iastore, 1) := by decide +kernel
theorem dX2_queue_114 : decode cX2_queue 114 = .ok (.aload_n 0, 1) := by decide +kernel
theorem dX2_queue_115 : decode cX2_queue 115 = .ok (.getfield 18, 3) := by decide +kernel
theorem dX2_queue_118 : decode cX2_queue 118 = .ok (.iconst 0, 1) := by decide +kernel
theorem dX2_queue_119 : decode cX2_queue 119 = .ok (.dup2, 1) := by decide +kernel
theorem dX2_queue_120 : decode cX2_queue 120 = .ok (.iaload, 1) := by decide +kernel
theorem dX2_queue_121 : decode cX2_queue 121 = .ok (.iconst 1, 1) := by decide +kernel
theorem dX2_queue_122 : decode cX2_queue 122 = .ok (.iadd, 1) := by decide +kernel
theorem dX2_queue_123 : decode cX2_queue 123 = .ok (.iastore, 1) := by decide +kernel
theorem dX2_queue_124 : decode cX2_queue 124 = .ok (.return_, 1) := by decide +kernel
theorem dX2_postsThatHeard_0 : decode cX2_postsThatHeard 0 = .ok (.iconst 0, 1) := by decide +kernel
theorem dX2_postsThatHeard_1 : decode cX2_postsThatHeard 1 = .ok (.istore_n 1, 1) := by decide +kernel
theorem dX2_postsThatHeard_2 : decode cX2_postsThatHeard 2 = .ok (.iconst 0, 1) := by decide +kernel
theorem dX2_postsThatHeard_3 : decode cX2_postsThatHeard 3 = .ok (.istore_n 2, 1) := by decide +kernel
theorem dX2_postsThatHeard_4 : decode cX2_postsThatHeard 4 = .ok (.iload_n 2, 1) := by decide +kernel
theorem dX2_postsThatHeard_5 : decode cX2_postsThatHeard 5 = .ok (.bipush 120, 2) := by decide +kernel
theorem dX2_postsThatHeard_7 : decode cX2_postsThatHeard 7 = .ok (.if_icmp .ge 31, 3) := by decide +kernel
theorem dX2_postsThatHeard_10 : decode cX2_postsThatHeard 10 = .ok (.aload_n 0, 1) := by decide +kernel
theorem dX2_postsThatHeard_11 : decode cX2_postsThatHeard 11 = .ok (.getfield 24, 3) := by decide +kernel
theorem dX2_postsThatHeard_14 : decode cX2_postsThatHeard 14 = .ok (.iconst 0, 1) := by decide +kernel
theorem dX2_postsThatHeard_15 : decode cX2_postsThatHeard 15 = .ok (.aaload, 1) := by decide +kernel
theorem dX2_postsThatHeard_16 : decode cX2_postsThatHeard 16 = .ok (.iload_n 2, 1) := by decide +kernel
theorem dX2_postsThatHeard_17 : decode cX2_postsThatHeard 17 = .ok (.iaload, 1) := by decide +kernel
theorem dX2_postsThatHeard_18 : decode cX2_postsThatHeard 18 = .ok (.iconst (-1), 1) := by decide +kernel
theorem dX2_postsThatHeard_19 : decode cX2_postsThatHeard 19 = .ok (.if_icmp .eq 13, 3) := by decide +kernel
theorem dX2_postsThatHeard_22 : decode cX2_postsThatHeard 22 = .ok (.iload_n 1, 1) := by decide +kernel
theorem dX2_postsThatHeard_23 : decode cX2_postsThatHeard 23 = .ok (.iload_n 2, 1) := by decide +kernel
theorem dX2_postsThatHeard_24 : decode cX2_postsThatHeard 24 = .ok (.bipush 10, 2) := by decide +kernel
theorem dX2_postsThatHeard_26 : decode cX2_postsThatHeard 26 = .ok (.idiv, 1) := by decide +kernel
theorem dX2_postsThatHeard_27 : decode cX2_postsThatHeard 27 = .ok (.invokestatic 91, 3) := by decide +kernel
theorem dX2_postsThatHeard_30 : decode cX2_postsThatHeard 30 = .ok (.ior, 1) := by decide +kernel
theorem dX2_postsThatHeard_31 : decode cX2_postsThatHeard 31 = .ok (.istore_n 1, 1) := by decide +kernel
theorem dX2_postsThatHeard_32 : decode cX2_postsThatHeard 32 = .ok (.iinc 2 1, 3) := by decide +kernel
theorem dX2_postsThatHeard_35 : decode cX2_postsThatHeard 35 = .ok (.goto (-31), 3) := by decide +kernel
theorem dX2_postsThatHeard_38 : decode cX2_postsThatHeard 38 = .ok (.iload_n 1, 1) := by decide +kernel
theorem dX2_postsThatHeard_39 : decode cX2_postsThatHeard 39 = .ok (.invokestatic 101, 3) := by decide +kernel
theorem dX2_postsThatHeard_42 : decode cX2_postsThatHeard 42 = .ok (.ireturn, 1) := by decide +kernel
theorem dX2_hearing_0 : decode cX2_hearing 0 = .ok (.iload_n 1, 1) := by decide +kernel
theorem dX2_hearing_1 : decode cX2_hearing 1 = .ok (.bipush 10, 2) := by decide +kernel
theorem dX2_hearing_3 : decode cX2_hearing 3 = .ok (.imul, 1) := by decide +kernel
theorem dX2_hearing_4 : decode cX2_hearing 4 = .ok (.iload_n 2, 1) := by decide +kernel
theorem dX2_hearing_5 : decode cX2_hearing 5 = .ok (.iadd, 1) := by decide +kernel
theorem dX2_hearing_6 : decode cX2_hearing 6 = .ok (.istore 4, 2) := by decide +kernel
theorem dX2_hearing_8 : decode cX2_hearing 8 = .ok (.iload_n 3, 1) := by decide +kernel
theorem dX2_hearing_9 : decode cX2_hearing 9 = .ok (.ifCond .lt 21, 3) := by decide +kernel
theorem dX2_hearing_12 : decode cX2_hearing 12 = .ok (.iload_n 3, 1) := by decide +kernel
theorem dX2_hearing_13 : decode cX2_hearing 13 = .ok (.iconst 3, 1) := by decide +kernel
theorem dX2_hearing_14 : decode cX2_hearing 14 = .ok (.if_icmp .gt 16, 3) := by decide +kernel
theorem dX2_hearing_17 : decode cX2_hearing 17 = .ok (.aload_n 0, 1) := by decide +kernel
theorem dX2_hearing_18 : decode cX2_hearing 18 = .ok (.getfield 24, 3) := by decide +kernel
theorem dX2_hearing_21 : decode cX2_hearing 21 = .ok (.iconst 0, 1) := by decide +kernel
theorem dX2_hearing_22 : decode cX2_hearing 22 = .ok (.aaload, 1) := by decide +kernel
theorem dX2_hearing_23 : decode cX2_hearing 23 = .ok (.iload 4, 2) := by decide +kernel
theorem dX2_hearing_25 : decode cX2_hearing 25 = .ok (.iaload, 1) := by decide +kernel
theorem dX2_hearing_26 : decode cX2_hearing 26 = .ok (.iconst (-1), 1) := by decide +kernel
theorem dX2_hearing_27 : decode cX2_hearing 27 = .ok (.if_icmp .ne 5, 3) := by decide +kernel
theorem dX2_hearing_30 : decode cX2_hearing 30 = .ok (.iconst (-1), 1) := by decide +kernel
theorem dX2_hearing_31 : decode cX2_hearing 31 = .ok (.ireturn, 1) := by decide +kernel
theorem dX2_hearing_32 : decode cX2_hearing 32 = .ok (.iload_n 3, 1) := by decide +kernel
theorem dX2_hearing_33 : decode cX2_hearing 33 = .ok (.iconst 3, 1) := by decide +kernel
theorem dX2_hearing_34 : decode cX2_hearing 34 = .ok (.if_icmp .ne 18, 3) := by decide +kernel
theorem dX2_hearing_37 : decode cX2_hearing 37 = .ok (.aload_n 0, 1) := by decide +kernel
theorem dX2_hearing_38 : decode cX2_hearing 38 = .ok (.getfield 24, 3) := by decide +kernel
theorem dX2_hearing_41 : decode cX2_hearing 41 = .ok (.iconst 3, 1) := by decide +kernel
theorem dX2_hearing_42 : decode cX2_hearing 42 = .ok (.aaload, 1) := by decide +kernel
theorem dX2_hearing_43 : decode cX2_hearing 43 = .ok (.iload 4, 2) := by decide +kernel
theorem dX2_hearing_45 : decode cX2_hearing 45 = .ok (.iaload, 1) := by decide +kernel
theorem dX2_hearing_46 : decode cX2_hearing 46 = .ok (.invokestatic 101, 3) := by decide +kernel
theorem dX2_hearing_49 : decode cX2_hearing 49 = .ok (.goto 12, 3) := by decide +kernel
theorem dX2_hearing_52 : decode cX2_hearing 52 = .ok (.aload_n 0, 1) := by decide +kernel
theorem dX2_hearing_53 : decode cX2_hearing 53 = .ok (.getfield 24, 3) := by decide +kernel
theorem dX2_hearing_56 : decode cX2_hearing 56 = .ok (.iload_n 3, 1) := by decide +kernel
theorem dX2_hearing_57 : decode cX2_hearing 57 = .ok (.aaload, 1) := by decide +kernel
theorem dX2_hearing_58 : decode cX2_hearing 58 = .ok (.iload 4, 2) := by decide +kernel
theorem dX2_hearing_60 : decode cX2_hearing 60 = .ok (.iaload, 1) := by decide +kernel
theorem dX2_hearing_61 : decode cX2_hearing 61 = .ok (.ireturn, 1) := by decide +kernel
theorem dX3_init_0 : decode cX3_init 0 = .ok (.aload_n 0, 1) := by decide +kernel
theorem dX3_init_1 : decode cX3_init 1 = .ok (.invokespecial 3, 3) := by decide +kernel
theorem dX3_init_4 : decode cX3_init 4 = .ok (.aload_n 0, 1) := by decide +kernel
theorem dX3_init_5 : decode cX3_init 5 = .ok (.bipush 60, 2) := by decide +kernel
theorem dX3_init_7 : decode cX3_init 7 = .ok (.newarray .int, 2) := by decide +kernel
theorem dX3_init_9 : decode cX3_init 9 = .ok (.putfield 9, 3) := by decide +kernel
theorem dX3_init_12 : decode cX3_init 12 = .ok (.aload_n 0, 1) := by decide +kernel
theorem dX3_init_13 : decode cX3_init 13 = .ok (.bipush 60, 2) := by decide +kernel
theorem dX3_init_15 : decode cX3_init 15 = .ok (.newarray .int, 2) := by decide +kernel
theorem dX3_init_17 : decode cX3_init 17 = .ok (.putfield 15, 3) := by decide +kernel
theorem dX3_init_20 : decode cX3_init 20 = .ok (.aload_n 0, 1) := by decide +kernel
theorem dX3_init_21 : decode cX3_init 21 = .ok (.bipush 60, 2) := by decide +kernel
theorem dX3_init_23 : decode cX3_init 23 = .ok (.newarray .int, 2) := by decide +kernel
theorem dX3_init_25 : decode cX3_init 25 = .ok (.putfield 18, 3) := by decide +kernel
theorem dX3_init_28 : decode cX3_init 28 = .ok (.aload_n 0, 1) := by decide +kernel
theorem dX3_init_29 : decode cX3_init 29 = .ok (.bipush 60, 2) := by decide +kernel
theorem dX3_init_31 : decode cX3_init 31 = .ok (.newarray .boolean, 2) := by decide +kernel
theorem dX3_init_33 : decode cX3_init 33 = .ok (.putfield 21, 3) := by decide +kernel
theorem dX3_init_36 : decode cX3_init 36 = .ok (.aload_n 0, 1) := by decide +kernel
theorem dX3_init_37 : decode cX3_init 37 = .ok (.bipush 24, 2) := by decide +kernel
theorem dX3_init_39 : decode cX3_init 39 = .ok (.newarray .int, 2) := by decide +kernel
theorem dX3_init_41 : decode cX3_init 41 = .ok (.putfield 25, 3) := by decide +kernel
theorem dX3_init_44 : decode cX3_init 44 = .ok (.aload_n 0, 1) := by decide +kernel
theorem dX3_init_45 : decode cX3_init 45 = .ok (.bipush 24, 2) := by decide +kernel
theorem dX3_init_47 : decode cX3_init 47 = .ok (.newarray .int, 2) := by decide +kernel
theorem dX3_init_49 : decode cX3_init 49 = .ok (.putfield 28, 3) := by decide +kernel
theorem dX3_init_52 : decode cX3_init 52 = .ok (.aload_n 0, 1) := by decide +kernel
theorem dX3_init_53 : decode cX3_init 53 = .ok (.iconst 0, 1) := by decide +kernel
theorem dX3_init_54 : decode cX3_init 54 = .ok (.putfield 31, 3) := by decide +kernel
theorem dX3_init_57 : decode cX3_init 57 = .ok (.aload_n 0, 1) := by decide +kernel
theorem dX3_init_58 : decode cX3_init 58 = .ok (.iconst (-1), 1) := by decide +kernel
theorem dX3_init_59 : decode cX3_init 59 = .ok (.putfield 35, 3) := by decide +kernel
theorem dX3_init_62 : decode cX3_init 62 = .ok (.aload_n 0, 1) := by decide +kernel
theorem dX3_init_63 : decode cX3_init 63 = .ok (.iconst 1, 1) := by decide +kernel
theorem dX3_init_64 : decode cX3_init 64 = .ok (.putfield 38, 3) := by decide +kernel
theorem dX3_init_67 : decode cX3_init 67 = .ok (.aload_n 0, 1) := by decide +kernel
theorem dX3_init_68 : decode cX3_init 68 = .ok (.iconst 0, 1) := by decide +kernel
theorem dX3_init_69 : decode cX3_init 69 = .ok (.putfield 42, 3) := by decide +kernel
theorem dX3_init_72 : decode cX3_init 72 = .ok (.return_, 1) := by decide +kernel
theorem dX3_clear_0 : decode cX3_clear 0 = .ok (.aload_n 0, 1) := by decide +kernel
theorem dX3_clear_1 : decode cX3_clear 1 = .ok (.iconst 0, 1) := by decide +kernel
theorem dX3_clear_2 : decode cX3_clear 2 = .ok (.putfield 31, 3) := by decide +kernel
theorem dX3_clear_5 : decode cX3_clear 5 = .ok (.aload_n 0, 1) := by decide +kernel
theorem dX3_clear_6 : decode cX3_clear 6 = .ok (.iconst (-1), 1) := by decide +kernel
theorem dX3_clear_7 : decode cX3_clear 7 = .ok (.putfield 35, 3) := by decide +kernel
theorem dX3_clear_10 : decode cX3_clear 10 = .ok (.aload_n 0, 1) := by decide +kernel
theorem dX3_clear_11 : decode cX3_clear 11 = .ok (.iconst 0, 1) := by decide +kernel
theorem dX3_clear_12 : decode cX3_clear 12 = .ok (.putfield 42, 3) := by decide +kernel
theorem dX3_clear_15 : decode cX3_clear 15 = .ok (.return_, 1) := by decide +kernel
theorem dX3_add_0 : decode cX3_add 0 = .ok (.aload_n 0, 1) := by decide +kernel
theorem dX3_add_1 : decode cX3_add 1 = .ok (.getfield 31, 3) := by decide +kernel
theorem dX3_add_4 : decode cX3_add 4 = .ok (.bipush 60, 2) := by decide +kernel
theorem dX3_add_6 : decode cX3_add 6 = .ok (.if_icmp .lt 5, 3) := by decide +kernel
theorem dX3_add_9 : decode cX3_add 9 = .ok (.iconst (-1), 1) := by decide +kernel
theorem dX3_add_10 : decode cX3_add 10 = .ok (.ireturn, 1) := by decide +kernel
theorem dX3_add_11 : decode cX3_add 11 = .ok (.aload_n 0, 1) := by decide +kernel
theorem dX3_add_12 : decode cX3_add 12 = .ok (.getfield 9, 3) := by decide +kernel
theorem dX3_add_15 : decode cX3_add 15 = .ok (.aload_n 0, 1) := by decide +kernel
theorem dX3_add_16 : decode cX3_add 16 = .ok (.getfield 31, 3) := by decide +kernel
theorem dX3_add_19 : decode cX3_add 19 = .ok (.iload_n 1, 1) := by decide +kernel
theorem dX3_add_20 : decode cX3_add 20 = .ok (.iastore, 1) := by decide +kernel
theorem dX3_add_21 : decode cX3_add 21 = .ok (.aload_n 0, 1) := by decide +kernel
theorem dX3_add_22 : decode cX3_add 22 = .ok (.getfield 15, 3) := by decide +kernel
theorem dX3_add_25 : decode cX3_add 25 = .ok (.aload_n 0, 1) := by decide +kernel
theorem dX3_add_26 : decode cX3_add 26 = .ok (.getfield 31, 3) := by decide +kernel
theorem dX3_add_29 : decode cX3_add 29 = .ok (.iload_n 2, 1) := by decide +kernel
theorem dX3_add_30 : decode cX3_add 30 = .ok (.iastore, 1) := by decide +kernel
theorem dX3_add_31 : decode cX3_add 31 = .ok (.aload_n 0, 1) := by decide +kernel
theorem dX3_add_32 : decode cX3_add 32 = .ok (.getfield 18, 3) := by decide +kernel
theorem dX3_add_35 : decode cX3_add 35 = .ok (.aload_n 0, 1) := by decide +kernel
theorem dX3_add_36 : decode cX3_add 36 = .ok (.getfield 31, 3) := by decide +kernel
theorem dX3_add_39 : decode cX3_add 39 = .ok (.iload_n 3, 1) := by decide +kernel
theorem dX3_add_40 : decode cX3_add 40 = .ok (.iastore, 1) := by decide +kernel
theorem dX3_add_41 : decode cX3_add 41 = .ok (.aload_n 0, 1) := by decide +kernel
theorem dX3_add_42 : decode cX3_add 42 = .ok (.dup, 1) := by decide +kernel
theorem dX3_add_43 : decode cX3_add 43 = .ok (.getfield 31, 3) := by decide +kernel
theorem dX3_add_46 : decode cX3_add 46 = .ok (.iconst 1, 1) := by decide +kernel
theorem dX3_add_47 : decode cX3_add 47 = .ok (.iadd, 1) := by decide +kernel
theorem dX3_add_48 : decode cX3_add 48 = .ok (.putfield 31, 3) := by decide +kernel
theorem dX3_add_51 : decode cX3_add 51 = .ok (.aload_n 0, 1) := by decide +kernel
theorem dX3_add_52 : decode cX3_add 52 = .ok (.getfield 31, 3) := by decide +kernel
theorem dX3_add_55 : decode cX3_add 55 = .ok (.iconst 1, 1) := by decide +kernel
theorem dX3_add_56 : decode cX3_add 56 = .ok (.isub, 1) := by decide +kernel
theorem dX3_add_57 : decode cX3_add 57 = .ok (.ireturn, 1) := by decide +kernel
theorem dX3_canKnow_0 : decode cX3_canKnow 0 = .ok (.iload_n 1, 1) := by decide +kernel
theorem dX3_canKnow_1 : decode cX3_canKnow 1 = .ok (.ifCond .lt 15, 3) := by decide +kernel
theorem dX3_canKnow_4 : decode cX3_canKnow 4 = .ok (.iload_n 1, 1) := by decide +kernel
theorem dX3_canKnow_5 : decode cX3_canKnow 5 = .ok (.aload_n 0, 1) := by decide +kernel
theorem dX3_canKnow_6 : decode cX3_canKnow 6 = .ok (.getfield 31, 3) := by decide +kernel
theorem dX3_canKnow_9 : decode cX3_canKnow 9 = .ok (.if_icmp .gt 7, 3) := by decide +kernel
theorem dX3_canKnow_12 : decode cX3_canKnow 12 = .ok (.iconst 1, 1) := by decide +kernel
theorem dX3_canKnow_13 : decode cX3_canKnow 13 = .ok (.goto 4, 3) := by decide +kernel
theorem dX3_canKnow_16 : decode cX3_canKnow 16 = .ok (.iconst 0, 1) := by decide +kernel
theorem dX3_canKnow_17 : decode cX3_canKnow 17 = .ok (.ireturn, 1) := by decide +kernel
theorem dX3_begin_0 : decode cX3_begin 0 = .ok (.iconst 2, 1) := by decide +kernel
theorem dX3_begin_1 : decode cX3_begin 1 = .ok (.iload_n 0, 1) := by decide +kernel
theorem dX3_begin_2 : decode cX3_begin 2 = .ok (.imul, 1) := by decide +kernel
theorem dX3_begin_3 : decode cX3_begin 3 = .ok (.ireturn, 1) := by decide +kernel
theorem dX3_end_0 : decode cX3_end 0 = .ok (.iconst 2, 1) := by decide +kernel
theorem dX3_end_1 : decode cX3_end 1 = .ok (.iload_n 0, 1) := by decide +kernel
theorem dX3_end_2 : decode cX3_end 2 = .ok (.imul, 1) := by decide +kernel
theorem dX3_end_3 : decode cX3_end 3 = .ok (.iconst 1, 1) := by decide +kernel
theorem dX3_end_4 : decode cX3_end 4 = .ok (.iadd, 1) := by decide +kernel
theorem dX3_end_5 : decode cX3_end 5 = .ok (.ireturn, 1) := by decide +kernel
theorem dX3_draw_0 : decode cX3_draw 0 = .ok (.iload_n 1, 1) := by decide +kernel
theorem dX3_draw_1 : decode cX3_draw 1 = .ok (.aload_n 0, 1) := by decide +kernel
theorem dX3_draw_2 : decode cX3_draw 2 = .ok (.getfield 35, 3) := by decide +kernel
theorem dX3_draw_5 : decode cX3_draw 5 = .ok (.if_icmp .ne 8, 3) := by decide +kernel
theorem dX3_draw_8 : decode cX3_draw 8 = .ok (.aload_n 0, 1) := by decide +kernel
theorem dX3_draw_9 : decode cX3_draw 9 = .ok (.getfield 38, 3) := by decide +kernel
theorem dX3_draw_12 : decode cX3_draw 12 = .ok (.ireturn, 1) := by decide +kernel
theorem dX3_draw_13 : decode cX3_draw 13 = .ok (.aload_n 0, 1) := by decide +kernel
theorem dX3_draw_14 : decode cX3_draw 14 = .ok (.iload_n 1, 1) := by decide +kernel
theorem dX3_draw_15 : decode cX3_draw 15 = .ok (.putfield 35, 3) := by decide +kernel
theorem dX3_draw_18 : decode cX3_draw 18 = .ok (.aload_n 0, 1) := by decide +kernel
theorem dX3_draw_19 : decode cX3_draw 19 = .ok (.iload_n 1, 1) := by decide +kernel
theorem dX3_draw_20 : decode cX3_draw 20 = .ok (.invokevirtual 45, 3) := by decide +kernel
theorem dX3_draw_23 : decode cX3_draw 23 = .ok (.aload_n 0, 1) := by decide +kernel
theorem dX3_draw_24 : decode cX3_draw 24 = .ok (.getfield 25, 3) := by decide +kernel
theorem dX3_draw_27 : decode cX3_draw 27 = .ok (.iconst 0, 1) := by decide +kernel
theorem dX3_draw_28 : decode cX3_draw 28 = .ok (.invokestatic 49, 3) := by decide +kernel
theorem dX3_draw_31 : decode cX3_draw 31 = .ok (.aload_n 0, 1) := by decide +kernel
theorem dX3_draw_32 : decode cX3_draw 32 = .ok (.getfield 28, 3) := by decide +kernel
theorem dX3_draw_35 : decode cX3_draw 35 = .ok (.sipush 500, 3) := by decide +kernel
theorem dX3_draw_38 : decode cX3_draw 38 = .ok (.invokestatic 49, 3) := by decide +kernel
theorem dX3_draw_41 : decode cX3_draw 41 = .ok (.iconst 0, 1) := by decide +kernel
theorem dX3_draw_42 : decode cX3_draw 42 = .ok (.istore_n 2, 1) := by decide +kernel
theorem dX3_draw_43 : decode cX3_draw 43 = .ok (.iload_n 2, 1) := by decide +kernel
theorem dX3_draw_44 : decode cX3_draw 44 = .ok (.iload_n 1, 1) := by decide +kernel
theorem dX3_draw_45 : decode cX3_draw 45 = .ok (.if_icmp .ge 23, 3) := by decide +kernel
theorem dX3_draw_48 : decode cX3_draw 48 = .ok (.aload_n 0, 1) := by decide +kernel
theorem dX3_draw_49 : decode cX3_draw 49 = .ok (.getfield 21, 3) := by decide +kernel
theorem dX3_draw_52 : decode cX3_draw 52 = .ok (.iload_n 2, 1) := by decide +kernel
theorem dX3_draw_53 : decode cX3_draw 53 = .ok (.baload, 1) := by decide +kernel
theorem dX3_draw_54 : decode cX3_draw 54 = .ok (.ifCond .ne 8, 3) := by decide +kernel
theorem dX3_draw_57 : decode cX3_draw 57 = .ok (.aload_n 0, 1) := by decide +kernel
theorem dX3_draw_58 : decode cX3_draw 58 = .ok (.iload_n 2, 1) := by decide +kernel
theorem dX3_draw_59 : decode cX3_draw 59 = .ok (.invokevirtual 55, 3) := by decide +kernel
theorem dX3_draw_62 : decode cX3_draw 62 = .ok (.iinc 2 1, 3) := by decide +kernel
theorem dX3_draw_65 : decode cX3_draw 65 = .ok (.goto (-22), 3) := by decide +kernel
theorem dX3_draw_68 : decode cX3_draw 68 = .ok (.iconst 1, 1) := by decide +kernel
theorem dX3_draw_69 : decode cX3_draw 69 = .ok (.istore_n 2, 1) := by decide +kernel
theorem dX3_draw_70 : decode cX3_draw 70 = .ok (.iconst 0, 1) := by decide +kernel
theorem dX3_draw_71 : decode cX3_draw 71 = .ok (.istore_n 3, 1) := by decide +kernel
theorem dX3_draw_72 : decode cX3_draw 72 = .ok (.iload_n 2, 1) := by decide +kernel
theorem dX3_draw_73 : decode cX3_draw 73 = .ok (.ifCond .eq 21, 3) := by decide +kernel
theorem dX3_draw_76 : decode cX3_draw 76 = .ok (.iload_n 3, 1) := by decide +kernel
theorem dX3_draw_77 : decode cX3_draw 77 = .ok (.bipush 24, 2) := by decide +kernel
theorem dX3_draw_79 : decode cX3_draw 79 = .ok (.if_icmp .ge 15, 3) := by decide +kernel
theorem dX3_draw_82 : decode cX3_draw 82 = .ok (.aload_n 0, 1) := by decide +kernel
theorem dX3_draw_83 : decode cX3_draw 83 = .ok (.iload_n 1, 1) := by decide +kernel
theorem dX3_draw_84 : decode cX3_draw 84 = .ok (.invokevirtual 58, 3) := by decide +kernel
theorem dX3_draw_87 : decode cX3_draw 87 = .ok (.istore_n 2, 1) := by decide +kernel
theorem dX3_draw_88 : decode cX3_draw 88 = .ok (.iinc 3 1, 3) := by decide +kernel
theorem dX3_draw_91 : decode cX3_draw 91 = .ok (.goto (-19), 3) := by decide +kernel
theorem dX3_draw_94 : decode cX3_draw 94 = .ok (.aload_n 0, 1) := by decide +kernel
theorem dX3_draw_95 : decode cX3_draw 95 = .ok (.aload_n 0, 1) := by decide +kernel
theorem dX3_draw_96 : decode cX3_draw 96 = .ok (.invokevirtual 62, 3) := by decide +kernel
theorem dX3_draw_99 : decode cX3_draw 99 = .ok (.putfield 38, 3) := by decide +kernel
theorem dX3_draw_102 : decode cX3_draw 102 = .ok (.aload_n 0, 1) := by decide +kernel
theorem dX3_draw_103 : decode cX3_draw 103 = .ok (.getfield 38, 3) := by decide +kernel
theorem dX3_draw_106 : decode cX3_draw 106 = .ok (.ireturn, 1) := by decide +kernel
theorem dX3_markStruck_0 : decode cX3_markStruck 0 = .ok (.iconst 0, 1) := by decide +kernel
theorem dX3_markStruck_1 : decode cX3_markStruck 1 = .ok (.istore_n 2, 1) := by decide +kernel
theorem dX3_markStruck_2 : decode cX3_markStruck 2 = .ok (.iload_n 2, 1) := by decide +kernel
theorem dX3_markStruck_3 : decode cX3_markStruck 3 = .ok (.iload_n 1, 1) := by decide +kernel
theorem dX3_markStruck_4 : decode cX3_markStruck 4 = .ok (.if_icmp .ge 16, 3) := by decide +kernel
theorem dX3_markStruck_7 : decode cX3_markStruck 7 = .ok (.aload_n 0, 1) := by decide +kernel
theorem dX3_markStruck_8 : decode cX3_markStruck 8 = .ok (.getfield 21, 3) := by decide +kernel
theorem dX3_markStruck_11 : decode cX3_markStruck 11 = .ok (.iload_n 2, 1) := by decide +kernel
theorem dX3_markStruck_12 : decode cX3_markStruck 12 = .ok (.iconst 0, 1) := by decide +kernel
theorem dX3_markStruck_13 : decode cX3_markStruck 13 = .ok (.bastore, 1) := by decide +kernel
theorem dX3_markStruck_14 : decode cX3_markStruck 14 = .ok (.iinc 2 1, 3) := by decide +kernel
theorem dX3_markStruck_17 : decode cX3_markStruck 17 = .ok (.goto (-15), 3) := by decide +kernel
theorem dX3_markStruck_20 : decode cX3_markStruck 20 = .ok (.iload_n 1, 1) := by decide +kernel
theorem dX3_markStruck_21 : decode cX3_markStruck 21 = .ok (.iconst 1, 1) := by decide +kernel
theorem dX3_markStruck_22 : decode cX3_markStruck 22 = .ok (.isub, 1) := by decide +kernel
theorem dX3_markStruck_23 : decode cX3_markStruck 23 = .ok (.istore_n 2, 1) := by decide +kernel
theorem dX3_markStruck_24 : decode cX3_markStruck 24 = .ok (.iload_n 2, 1) := by decide +kernel
theorem dX3_markStruck_25 : decode cX3_markStruck 25 = .ok (.ifCond .lt 41, 3) := by decide +kernel
theorem dX3_markStruck_28 : decode cX3_markStruck 28 = .ok (.aload_n 0, 1) := by decide +kernel
theorem dX3_markStruck_29 : decode cX3_markStruck 29 = .ok (.getfield 9, 3) := by decide +kernel
theorem dX3_markStruck_32 : decode cX3_markStruck 32 = .ok (.iload_n 2, 1) := by decide +kernel
theorem dX3_markStruck_33 : decode cX3_markStruck 33 = .ok (.iaload, 1) := by decide +kernel
theorem dX3_markStruck_34 : decode cX3_markStruck 34 = .ok (.bipush 6, 2) := by decide +kernel
theorem dX3_markStruck_36 : decode cX3_markStruck 36 = .ok (.if_icmp .ne 24, 3) := by decide +kernel
theorem dX3_markStruck_39 : decode cX3_markStruck 39 = .ok (.aload_n 0, 1) := by decide +kernel
theorem dX3_markStruck_40 : decode cX3_markStruck 40 = .ok (.getfield 21, 3) := by decide +kernel
theorem dX3_markStruck_43 : decode cX3_markStruck 43 = .ok (.iload_n 2, 1) := by decide +kernel
theorem dX3_markStruck_44 : decode cX3_markStruck 44 = .ok (.baload, 1) := by decide +kernel
theorem dX3_markStruck_45 : decode cX3_markStruck 45 = .ok (.ifCond .ne 15, 3) := by decide +kernel
theorem dX3_markStruck_48 : decode cX3_markStruck 48 = .ok (.aload_n 0, 1) := by decide +kernel
theorem dX3_markStruck_49 : decode cX3_markStruck 49 = .ok (.getfield 21, 3) := by decide +kernel
theorem dX3_markStruck_52 : decode cX3_markStruck 52 = .ok (.aload_n 0, 1) := by decide +kernel
theorem dX3_markStruck_53 : decode cX3_markStruck 53 = .ok (.getfield 15, 3) := by decide +kernel
theorem dX3_markStruck_56 : decode cX3_markStruck 56 = .ok (.iload_n 2, 1) := by decide +kernel
theorem dX3_markStruck_57 : decode cX3_markStruck 57 = .ok (.iaload, 1) := by decide +kernel
theorem dX3_markStruck_58 : decode cX3_markStruck 58 = .ok (.iconst 1, 1) := by decide +kernel
theorem dX3_markStruck_59 : decode cX3_markStruck 59 = .ok (.bastore, 1) := by decide +kernel
theorem dX3_markStruck_60 : decode cX3_markStruck 60 = .ok (.iinc 2 (-1), 3) := by decide +kernel
theorem dX3_markStruck_63 : decode cX3_markStruck 63 = .ok (.goto (-39), 3) := by decide +kernel
theorem dX3_markStruck_66 : decode cX3_markStruck 66 = .ok (.return_, 1) := by decide +kernel
theorem dX3_setBounds_0 : decode cX3_setBounds 0 = .ok (.aload_n 0, 1) := by decide +kernel
theorem dX3_setBounds_1 : decode cX3_setBounds 1 = .ok (.getfield 18, 3) := by decide +kernel
theorem dX3_setBounds_4 : decode cX3_setBounds 4 = .ok (.iload_n 1, 1) := by decide +kernel
theorem dX3_setBounds_5 : decode cX3_setBounds 5 = .ok (.iaload, 1) := by decide +kernel
theorem dX3_setBounds_6 : decode cX3_setBounds 6 = .ok (.istore_n 2, 1) := by decide +kernel
theorem dX3_setBounds_7 : decode cX3_setBounds 7 = .ok (.aload_n 0, 1) := by decide +kernel
theorem dX3_setBounds_8 : decode cX3_setBounds 8 = .ok (.getfield 9, 3) := by decide +kernel
theorem dX3_setBounds_11 : decode cX3_setBounds 11 = .ok (.iload_n 1, 1) := by decide +kernel
theorem dX3_setBounds_12 : decode cX3_setBounds 12 = .ok (.iaload, 1) := by decide +kernel
theorem dX3_setBounds_13 : decode cX3_setBounds 13 = .ok (.tableswitch 135 0 5 #[39, 70, 135, 135, 101, 118], 39) := by decide +kernel
theorem dX3_setBounds_52 : decode cX3_setBounds 52 = .ok (.aload_n 0, 1) := by decide +kernel
theorem dX3_setBounds_53 : decode cX3_setBounds 53 = .ok (.aload_n 0, 1) := by decide +kernel
theorem dX3_setBounds_54 : decode cX3_setBounds 54 = .ok (.getfield 15, 3) := by decide +kernel
theorem dX3_setBounds_57 : decode cX3_setBounds 57 = .ok (.iload_n 1, 1) := by decide +kernel
theorem dX3_setBounds_58 : decode cX3_setBounds 58 = .ok (.iaload, 1) := by decide +kernel
theorem dX3_setBounds_59 : decode cX3_setBounds 59 = .ok (.invokestatic 66, 3) := by decide +kernel
theorem dX3_setBounds_62 : decode cX3_setBounds 62 = .ok (.iload_n 2, 1) := by decide +kernel
theorem dX3_setBounds_63 : decode cX3_setBounds 63 = .ok (.invokevirtual 70, 3) := by decide +kernel
theorem dX3_setBounds_66 : decode cX3_setBounds 66 = .ok (.aload_n 0, 1) := by decide +kernel
theorem dX3_setBounds_67 : decode cX3_setBounds 67 = .ok (.aload_n 0, 1) := by decide +kernel
theorem dX3_setBounds_68 : decode cX3_setBounds 68 = .ok (.getfield 15, 3) := by decide +kernel
theorem dX3_setBounds_71 : decode cX3_setBounds 71 = .ok (.iload_n 1, 1) := by decide +kernel
theorem dX3_setBounds_72 : decode cX3_setBounds 72 = .ok (.iaload, 1) := by decide +kernel
theorem dX3_setBounds_73 : decode cX3_setBounds 73 = .ok (.invokestatic 74, 3) := by decide +kernel
theorem dX3_setBounds_76 : decode cX3_setBounds 76 = .ok (.iload_n 2, 1) := by decide +kernel
theorem dX3_setBounds_77 : decode cX3_setBounds 77 = .ok (.invokevirtual 77, 3) := by decide +kernel
theorem dX3_setBounds_80 : decode cX3_setBounds 80 = .ok (.goto 68, 3) := by decide +kernel
theorem dX3_setBounds_83 : decode cX3_setBounds 83 = .ok (.aload_n 0, 1) := by decide +kernel
theorem dX3_setBounds_84 : decode cX3_setBounds 84 = .ok (.aload_n 0, 1) := by decide +kernel
theorem dX3_setBounds_85 : decode cX3_setBounds 85 = .ok (.getfield 15, 3) := by decide +kernel
theorem dX3_setBounds_88 : decode cX3_setBounds 88 = .ok (.iload_n 1, 1) := by decide +kernel
theorem dX3_setBounds_89 : decode cX3_setBounds 89 = .ok (.iaload, 1) := by decide +kernel
theorem dX3_setBounds_90 : decode cX3_setBounds 90 = .ok (.invokestatic 74, 3) := by decide +kernel
theorem dX3_setBounds_93 : decode cX3_setBounds 93 = .ok (.iload_n 2, 1) := by decide +kernel
theorem dX3_setBounds_94 : decode cX3_setBounds 94 = .ok (.invokevirtual 70, 3) := by decide +kernel
theorem dX3_setBounds_97 : decode cX3_setBounds 97 = .ok (.aload_n 0, 1) := by decide +kernel
theorem dX3_setBounds_98 : decode cX3_setBounds 98 = .ok (.aload_n 0, 1) := by decide +kernel
theorem dX3_setBounds_99 : decode cX3_setBounds 99 = .ok (.getfield 15, 3) := by decide +kernel
theorem dX3_setBounds_102 : decode cX3_setBounds 102 = .ok (.iload_n 1, 1) := by decide +kernel
theorem dX3_setBounds_103 : decode cX3_setBounds 103 = .ok (.iaload, 1) := by decide +kernel
theorem dX3_setBounds_104 : decode cX3_setBounds 104 = .ok (.invokestatic 74, 3) := by decide +kernel
theorem dX3_setBounds_107 : decode cX3_setBounds 107 = .ok (.iload_n 2, 1) := by decide +kernel
theorem dX3_setBounds_108 : decode cX3_setBounds 108 = .ok (.invokevirtual 77, 3) := by decide +kernel
theorem dX3_setBounds_111 : decode cX3_setBounds 111 = .ok (.goto 37, 3) := by decide +kernel
theorem dX3_setBounds_114 : decode cX3_setBounds 114 = .ok (.aload_n 0, 1) := by decide +kernel
theorem dX3_setBounds_115 : decode cX3_setBounds 115 = .ok (.aload_n 0, 1) := by decide +kernel
theorem dX3_setBounds_116 : decode cX3_setBounds 116 = .ok (.getfield 15, 3) := by decide +kernel
theorem dX3_setBounds_119 : decode cX3_setBounds 119 = .ok (.iload_n 1, 1) := by decide +kernel
theorem dX3_setBounds_120 : decode cX3_setBounds 120 = .ok (.iaload, 1) := by decide +kernel
theorem dX3_setBounds_121 : decode cX3_setBounds 121 = .ok (.invokestatic 74, 3) := by decide +kernel
theorem dX3_setBounds_124 : decode cX3_setBounds 124 = .ok (.iload_n 2, 1) := by decide +kernel
theorem dX3_setBounds_125 : decode cX3_setBounds 125 = .ok (.invokevirtual 77, 3) := by decide +kernel
theorem dX3_setBounds_128 : decode cX3_setBounds 128 = .ok (.goto 20, 3) := by decide +kernel
theorem dX3_setBounds_131 : decode cX3_setBounds 131 = .ok (.aload_n 0, 1) := by decide +kernel
theorem dX3_setBounds_132 : decode cX3_setBounds 132 = .ok (.aload_n 0, 1) := by decide +kernel
theorem dX3_setBounds_133 : decode cX3_setBounds 133 = .ok (.getfield 15, 3) := by decide +kernel
theorem dX3_setBounds_136 : decode cX3_setBounds 136 = .ok (.iload_n 1, 1) := by decide +kernel
theorem dX3_setBounds_137 : decode cX3_setBounds 137 = .ok (.iaload, 1) := by decide +kernel
theorem dX3_setBounds_138 : decode cX3_setBounds 138 = .ok (.invokestatic 66, 3) := by decide +kernel
theorem dX3_setBounds_141 : decode cX3_setBounds 141 = .ok (.iload_n 2, 1) := by decide +kernel
theorem dX3_setBounds_142 : decode cX3_setBounds 142 = .ok (.invokevirtual 77, 3) := by decide +kernel
theorem dX3_setBounds_145 : decode cX3_setBounds 145 = .ok (.goto 3, 3) := by decide +kernel
theorem dX3_setBounds_148 : decode cX3_setBounds 148 = .ok (.return_, 1) := by decide +kernel
theorem dX3_notBefore_0 : decode cX3_notBefore 0 = .ok (.aload_n 0, 1) := by decide +kernel
theorem dX3_notBefore_1 : decode cX3_notBefore 1 = .ok (.getfield 25, 3) := by decide +kernel
theorem dX3_notBefore_4 : decode cX3_notBefore 4 = .ok (.iload_n 1, 1) := by decide +kernel
theorem dX3_notBefore_5 : decode cX3_notBefore 5 = .ok (.aload_n 0, 1) := by decide +kernel
theorem dX3_notBefore_6 : decode cX3_notBefore 6 = .ok (.getfield 25, 3) := by decide +kernel
theorem dX3_notBefore_9 : decode cX3_notBefore 9 = .ok (.iload_n 1, 1) := by decide +kernel
theorem dX3_notBefore_10 : decode cX3_notBefore 10 = .ok (.iaload, 1) := by decide +kernel
theorem dX3_notBefore_11 : decode cX3_notBefore 11 = .ok (.iload_n 2, 1) := by decide +kernel
theorem dX3_notBefore_12 : decode cX3_notBefore 12 = .ok (.invokestatic 80, 3) := by decide +kernel
theorem dX3_notBefore_15 : decode cX3_notBefore 15 = .ok (.iastore, 1) := by decide +kernel
theorem dX3_notBefore_16 : decode cX3_notBefore 16 = .ok (.return_, 1) := by decide +kernel
theorem dX3_notAfter_0 : decode cX3_notAfter 0 = .ok (.aload_n 0, 1) := by decide +kernel
theorem dX3_notAfter_1 : decode cX3_notAfter 1 = .ok (.getfield 28, 3) := by decide +kernel
theorem dX3_notAfter_4 : decode cX3_notAfter 4 = .ok (.iload_n 1, 1) := by decide +kernel
theorem dX3_notAfter_5 : decode cX3_notAfter 5 = .ok (.aload_n 0, 1) := by decide +kernel
theorem dX3_notAfter_6 : decode cX3_notAfter 6 = .ok (.getfield 28, 3) := by decide +kernel
theorem dX3_notAfter_9 : decode cX3_notAfter 9 = .ok (.iload_n 1, 1) := by decide +kernel
theorem dX3_notAfter_10 : decode cX3_notAfter 10 = .ok (.iaload, 1) := by decide +kernel
theorem dX3_notAfter_11 : decode cX3_notAfter 11 = .ok (.iload_n 2, 1) := by decide +kernel
theorem dX3_notAfter_12 : decode cX3_notAfter 12 = .ok (.invokestatic 86, 3) := by decide +kernel
theorem dX3_notAfter_15 : decode cX3_notAfter 15 = .ok (.iastore, 1) := by decide +kernel
theorem dX3_notAfter_16 : decode cX3_notAfter 16 = .ok (.return_, 1) := by decide +kernel
theorem dX3_handOn_0 : decode cX3_handOn 0 = .ok (.iconst 0, 1) := by decide +kernel
theorem dX3_handOn_1 : decode cX3_handOn 1 = .ok (.istore_n 2, 1) := by decide +kernel
theorem dX3_handOn_2 : decode cX3_handOn 2 = .ok (.iconst 0, 1) := by decide +kernel
theorem dX3_handOn_3 : decode cX3_handOn 3 = .ok (.istore_n 3, 1) := by decide +kernel
theorem dX3_handOn_4 : decode cX3_handOn 4 = .ok (.iload_n 3, 1) := by decide +kernel
theorem dX3_handOn_5 : decode cX3_handOn 5 = .ok (.bipush 12, 2) := by decide +kernel
theorem dX3_handOn_7 : decode cX3_handOn 7 = .ok (.if_icmp .ge 24, 3) := by decide +kernel
theorem dX3_handOn_10 : decode cX3_handOn 10 = .ok (.iload_n 2, 1) := by decide +kernel
theorem dX3_handOn_11 : decode cX3_handOn 11 = .ok (.aload_n 0, 1) := by decide +kernel
theorem dX3_handOn_12 : decode cX3_handOn 12 = .ok (.iload_n 3, 1) := by decide +kernel
theorem dX3_handOn_13 : decode cX3_handOn 13 = .ok (.invokestatic 66, 3) := by decide +kernel
theorem dX3_handOn_16 : decode cX3_handOn 16 = .ok (.iload_n 3, 1) := by decide +kernel
theorem dX3_handOn_17 : decode cX3_handOn 17 = .ok (.invokestatic 74, 3) := by decide +kernel
theorem dX3_handOn_20 : decode cX3_handOn 20 = .ok (.invokevirtual 89, 3) := by decide +kernel
theorem dX3_handOn_23 : decode cX3_handOn 23 = .ok (.ior, 1) := by decide +kernel
theorem dX3_handOn_24 : decode cX3_handOn 24 = .ok (.istore_n 2, 1) := by decide +kernel
theorem dX3_handOn_25 : decode cX3_handOn 25 = .ok (.iinc 3 1, 3) := by decide +kernel
theorem dX3_handOn_28 : decode cX3_handOn 28 = .ok (.goto (-24), 3) := by decide +kernel
theorem dX3_handOn_31 : decode cX3_handOn 31 = .ok (.iconst 0, 1) := by decide +kernel
theorem dX3_handOn_32 : decode cX3_handOn 32 = .ok (.istore_n 3, 1) := by decide +kernel
theorem dX3_handOn_33 : decode cX3_handOn 33 = .ok (.iload_n 3, 1) := by decide +kernel
theorem dX3_handOn_34 : decode cX3_handOn 34 = .ok (.iload_n 1, 1) := by decide +kernel
theorem dX3_handOn_35 : decode cX3_handOn 35 = .ok (.if_icmp .ge 125, 3) := by decide +kernel
theorem dX3_handOn_38 : decode cX3_handOn 38 = .ok (.aload_n 0, 1) := by decide +kernel
theorem dX3_handOn_39 : decode cX3_handOn 39 = .ok (.getfield 21, 3) := by decide +kernel
theorem dX3_handOn_42 : decode cX3_handOn 42 = .ok (.iload_n 3, 1) := by decide +kernel
theorem dX3_handOn_43 : decode cX3_handOn 43 = .ok (.baload, 1) := by decide +kernel
theorem dX3_handOn_44 : decode cX3_handOn 44 = .ok (.ifCond .ne 41, 3) := by decide +kernel
theorem dX3_handOn_47 : decode cX3_handOn 47 = .ok (.aload_n 0, 1) := by decide +kernel
theorem dX3_handOn_48 : decode cX3_handOn 48 = .ok (.getfield 9, 3) := by decide +kernel
theorem dX3_handOn_51 : decode cX3_handOn 51 = .ok (.iload_n 3, 1) := by decide +kernel
theorem dX3_handOn_52 : decode cX3_handOn 52 = .ok (.iaload, 1) := by decide +kernel
theorem dX3_handOn_53 : decode cX3_handOn 53 = .ok (.iconst 2, 1) := by decide +kernel
theorem dX3_handOn_54 : decode cX3_handOn 54 = .ok (.if_icmp .ne 31, 3) := by decide +kernel
theorem dX3_handOn_57 : decode cX3_handOn 57 = .ok (.iload_n 2, 1) := by decide +kernel
theorem dX3_handOn_58 : decode cX3_handOn 58 = .ok (.aload_n 0, 1) := by decide +kernel
theorem dX3_handOn_59 : decode cX3_handOn 59 = .ok (.aload_n 0, 1) := by decide +kernel
theorem dX3_handOn_60 : decode cX3_handOn 60 = .ok (.getfield 18, 3) := by decide +kernel
theorem dX3_handOn_63 : decode cX3_handOn 63 = .ok (.iload_n 3, 1) := by decide +kernel
theorem dX3_handOn_64 : decode cX3_handOn 64 = .ok (.iaload, 1) := by decide +kernel
theorem dX3_handOn_65 : decode cX3_handOn 65 = .ok (.invokestatic 74, 3) := by decide +kernel
theorem dX3_handOn_68 : decode cX3_handOn 68 = .ok (.aload_n 0, 1) := by decide +kernel
theorem dX3_handOn_69 : decode cX3_handOn 69 = .ok (.getfield 15, 3) := by decide +kernel
theorem dX3_handOn_72 : decode cX3_handOn 72 = .ok (.iload_n 3, 1) := by decide +kernel
theorem dX3_handOn_73 : decode cX3_handOn 73 = .ok (.iaload, 1) := by decide +kernel
theorem dX3_handOn_74 : decode cX3_handOn 74 = .ok (.invokestatic 66, 3) := by decide +kernel
theorem dX3_handOn_77 : decode cX3_handOn 77 = .ok (.invokevirtual 89, 3) := by decide +kernel
theorem dX3_handOn_80 : decode cX3_handOn 80 = .ok (.ior, 1) := by decide +kernel
theorem dX3_handOn_81 : decode cX3_handOn 81 = .ok (.istore_n 2, 1) := by decide +kernel
theorem dX3_handOn_82 : decode cX3_handOn 82 = .ok (.goto 72, 3) := by decide +kernel
theorem dX3_handOn_85 : decode cX3_handOn 85 = .ok (.aload_n 0, 1) := by decide +kernel
theorem dX3_handOn_86 : decode cX3_handOn 86 = .ok (.getfield 21, 3) := by decide +kernel
theorem dX3_handOn_89 : decode cX3_handOn 89 = .ok (.iload_n 3, 1) := by decide +kernel
theorem dX3_handOn_90 : decode cX3_handOn 90 = .ok (.baload, 1) := by decide +kernel
theorem dX3_handOn_91 : decode cX3_handOn 91 = .ok (.ifCond .ne 63, 3) := by decide +kernel
theorem dX3_handOn_94 : decode cX3_handOn 94 = .ok (.aload_n 0, 1) := by decide +kernel
theorem dX3_handOn_95 : decode cX3_handOn 95 = .ok (.getfield 9, 3) := by decide +kernel
theorem dX3_handOn_98 : decode cX3_handOn 98 = .ok (.iload_n 3, 1) := by decide +kernel
theorem dX3_handOn_99 : decode cX3_handOn 99 = .ok (.iaload, 1) := by decide +kernel
theorem dX3_handOn_100 : decode cX3_handOn 100 = .ok (.iconst 3, 1) := by decide +kernel
theorem dX3_handOn_101 : decode cX3_handOn 101 = .ok (.if_icmp .ne 53, 3) := by decide +kernel
theorem dX3_handOn_104 : decode cX3_handOn 104 = .ok (.iload_n 2, 1) := by decide +kernel
theorem dX3_handOn_105 : decode cX3_handOn 105 = .ok (.aload_n 0, 1) := by decide +kernel
theorem dX3_handOn_106 : decode cX3_handOn 106 = .ok (.aload_n 0, 1) := by decide +kernel
theorem dX3_handOn_107 : decode cX3_handOn 107 = .ok (.getfield 15, 3) := by decide +kernel
theorem dX3_handOn_110 : decode cX3_handOn 110 = .ok (.iload_n 3, 1) := by decide +kernel
theorem dX3_handOn_111 : decode cX3_handOn 111 = .ok (.iaload, 1) := by decide +kernel
theorem dX3_handOn_112 : decode cX3_handOn 112 = .ok (.invokestatic 66, 3) := by decide +kernel
theorem dX3_handOn_115 : decode cX3_handOn 115 = .ok (.aload_n 0, 1) := by decide +kernel
theorem dX3_handOn_116 : decode cX3_handOn 116 = .ok (.getfield 18, 3) := by decide +kernel
theorem dX3_handOn_119 : decode cX3_handOn 119 = .ok (.iload_n 3, 1) := by decide +kernel
theorem dX3_handOn_120 : decode cX3_handOn 120 = .ok (.iaload, 1) := by decide +kernel
theorem dX3_handOn_121 : decode cX3_handOn 121 = .ok (.invokestatic 74, 3) := by decide +kernel
theorem dX3_handOn_124 : decode cX3_handOn 124 = .ok (.invokevirtual 89, 3) := by decide +kernel
theorem dX3_handOn_127 : decode cX3_handOn 127 = .ok (.ior, 1) := by decide +kernel
theorem dX3_handOn_128 : decode cX3_handOn 128 = .ok (.istore_n 2, 1) := by decide +kernel
theorem dX3_handOn_129 : decode cX3_handOn 129 = .ok (.iload_n 2, 1) := by decide +kernel
theorem dX3_handOn_130 : decode cX3_handOn 130 = .ok (.aload_n 0, 1) := by decide +kernel
theorem dX3_handOn_131 : decode cX3_handOn 131 = .ok (.aload_n 0, 1) := by decide +kernel
theorem dX3_handOn_132 : decode cX3_handOn 132 = .ok (.getfield 18, 3) := by decide +kernel
theorem dX3_handOn_135 : decode cX3_handOn 135 = .ok (.iload_n 3, 1) := by decide +kernel
theorem dX3_handOn_136 : decode cX3_handOn 136 = .ok (.iaload, 1) := by decide +kernel
theorem dX3_handOn_137 : decode cX3_handOn 137 = .ok (.invokestatic 66, 3) := by decide +kernel
theorem dX3_handOn_140 : decode cX3_handOn 140 = .ok (.aload_n 0, 1) := by decide +kernel
theorem dX3_handOn_141 : decode cX3_handOn 141 = .ok (.getfield 15, 3) := by decide +kernel
theorem dX3_handOn_144 : decode cX3_handOn 144 = .ok (.iload_n 3, 1) := by decide +kernel
theorem dX3_handOn_145 : decode cX3_handOn 145 = .ok (.iaload, 1) := by decide +kernel
theorem dX3_handOn_146 : decode cX3_handOn 146 = .ok (.invokestatic 74, 3) := by decide +kernel
theorem dX3_handOn_149 : decode cX3_handOn 149 = .ok (.invokevirtual 89, 3) := by decide +kernel
theorem dX3_handOn_152 : decode cX3_handOn 152 = .ok (.ior, 1) := by decide +kernel
theorem dX3_handOn_153 : decode cX3_handOn 153 = .ok (.istore_n 2, 1) := by decide +kernel
theorem dX3_handOn_154 : decode cX3_handOn 154 = .ok (.iinc 3 1, 3) := by decide +kernel
theorem dX3_handOn_157 : decode cX3_handOn 157 = .ok (.goto (-124), 3) := by decide +kernel
theorem dX3_handOn_160 : decode cX3_handOn 160 = .ok (.iload_n 2, 1) := by decide +kernel
theorem dX3_handOn_161 : decode cX3_handOn 161 = .ok (.ireturn, 1) := by decide +kernel
theorem dX3_inOrder_0 : decode cX3_inOrder 0 = .ok (.aload_n 0, 1) := by decide +kernel
theorem dX3_inOrder_1 : decode cX3_inOrder 1 = .ok (.getfield 25, 3) := by decide +kernel
theorem dX3_inOrder_4 : decode cX3_inOrder 4 = .ok (.iload_n 2, 1) := by decide +kernel
theorem dX3_inOrder_5 : decode cX3_inOrder 5 = .ok (.iaload, 1) := by decide +kernel
theorem dX3_inOrder_6 : decode cX3_inOrder 6 = .ok (.aload_n 0, 1) := by decide +kernel
theorem dX3_inOrder_7 : decode cX3_inOrder 7 = .ok (.getfield 25, 3) := by decide +kernel
theorem dX3_inOrder_10 : decode cX3_inOrder 10 = .ok (.iload_n 1, 1) := by decide +kernel
theorem dX3_inOrder_11 : decode cX3_inOrder 11 = .ok (.iaload, 1) := by decide +kernel
theorem dX3_inOrder_12 : decode cX3_inOrder 12 = .ok (.if_icmp .lt 18, 3) := by decide +kernel
theorem dX3_inOrder_15 : decode cX3_inOrder 15 = .ok (.aload_n 0, 1) := by decide +kernel
theorem dX3_inOrder_16 : decode cX3_inOrder 16 = .ok (.getfield 28, 3) := by decide +kernel
theorem dX3_inOrder_19 : decode cX3_inOrder 19 = .ok (.iload_n 1, 1) := by decide +kernel
theorem dX3_inOrder_20 : decode cX3_inOrder 20 = .ok (.iaload, 1) := by decide +kernel
theorem dX3_inOrder_21 : decode cX3_inOrder 21 = .ok (.aload_n 0, 1) := by decide +kernel
theorem dX3_inOrder_22 : decode cX3_inOrder 22 = .ok (.getfield 28, 3) := by decide +kernel
theorem dX3_inOrder_25 : decode cX3_inOrder 25 = .ok (.iload_n 2, 1) := by decide +kernel
theorem dX3_inOrder_26 : decode cX3_inOrder 26 = .ok (.iaload, 1) := by decide +kernel
theorem dX3_inOrder_27 : decode cX3_inOrder 27 = .ok (.if_icmp .le 7, 3) := by decide +kernel
theorem dX3_inOrder_30 : decode cX3_inOrder 30 = .ok (.iconst 1, 1) := by decide +kernel
theorem dX3_inOrder_31 : decode cX3_inOrder 31 = .ok (.goto 4, 3) := by decide +kernel
theorem dX3_inOrder_34 : decode cX3_inOrder 34 = .ok (.iconst 0, 1) := by decide +kernel
theorem dX3_inOrder_35 : decode cX3_inOrder 35 = .ok (.istore_n 3, 1) := by decide +kernel
theorem dX3_inOrder_36 : decode cX3_inOrder 36 = .ok (.aload_n 0, 1) := by decide +kernel
theorem dX3_inOrder_37 : decode cX3_inOrder 37 = .ok (.iload_n 2, 1) := by decide +kernel
theorem dX3_inOrder_38 : decode cX3_inOrder 38 = .ok (.aload_n 0, 1) := by decide +kernel
theorem dX3_inOrder_39 : decode cX3_inOrder 39 = .ok (.getfield 25, 3) := by decide +kernel
theorem dX3_inOrder_42 : decode cX3_inOrder 42 = .ok (.iload_n 1, 1) := by decide +kernel
theorem dX3_inOrder_43 : decode cX3_inOrder 43 = .ok (.iaload, 1) := by decide +kernel
theorem dX3_inOrder_44 : decode cX3_inOrder 44 = .ok (.invokevirtual 77, 3) := by decide +kernel
theorem dX3_inOrder_47 : decode cX3_inOrder 47 = .ok (.aload_n 0, 1) := by decide +kernel
theorem dX3_inOrder_48 : decode cX3_inOrder 48 = .ok (.iload_n 1, 1) := by decide +kernel
theorem dX3_inOrder_49 : decode cX3_inOrder 49 = .ok (.aload_n 0, 1) := by decide +kernel
theorem dX3_inOrder_50 : decode cX3_inOrder 50 = .ok (.getfield 28, 3) := by decide +kernel
theorem dX3_inOrder_53 : decode cX3_inOrder 53 = .ok (.iload_n 2, 1) := by decide +kernel
theorem dX3_inOrder_54 : decode cX3_inOrder 54 = .ok (.iaload, 1) := by decide +kernel
theorem dX3_inOrder_55 : decode cX3_inOrder 55 = .ok (.invokevirtual 70, 3) := by decide +kernel
theorem dX3_inOrder_58 : decode cX3_inOrder 58 = .ok (.iload_n 3, 1) := by decide +kernel
theorem dX3_inOrder_59 : decode cX3_inOrder 59 = .ok (.ireturn, 1) := by decide +kernel
theorem dX3_boundsMeet_0 : decode cX3_boundsMeet 0 = .ok (.iconst 0, 1) := by decide +kernel
theorem dX3_boundsMeet_1 : decode cX3_boundsMeet 1 = .ok (.istore_n 1, 1) := by decide +kernel
theorem dX3_boundsMeet_2 : decode cX3_boundsMeet 2 = .ok (.iload_n 1, 1) := by decide +kernel
theorem dX3_boundsMeet_3 : decode cX3_boundsMeet 3 = .ok (.bipush 24, 2) := by decide +kernel
theorem dX3_boundsMeet_5 : decode cX3_boundsMeet 5 = .ok (.if_icmp .ge 26, 3) := by decide +kernel
theorem dX3_boundsMeet_8 : decode cX3_boundsMeet 8 = .ok (.aload_n 0, 1) := by decide +kernel
theorem dX3_boundsMeet_9 : decode cX3_boundsMeet 9 = .ok (.getfield 25, 3) := by decide +kernel
theorem dX3_boundsMeet_12 : decode cX3_boundsMeet 12 = .ok (.iload_n 1, 1) := by decide +kernel
theorem dX3_boundsMeet_13 : decode cX3_boundsMeet 13 = .ok (.iaload, 1) := by decide +kernel
theorem dX3_boundsMeet_14 : decode cX3_boundsMeet 14 = .ok (.aload_n 0, 1) := by decide +kernel
theorem dX3_boundsMeet_15 : decode cX3_boundsMeet 15 = .ok (.getfield 28, 3) := by decide +kernel
theorem dX3_boundsMeet_18 : decode cX3_boundsMeet 18 = .ok (.iload_n 1, 1) := by decide +kernel
theorem dX3_boundsMeet_19 : decode cX3_boundsMeet 19 = .ok (.iaload, 1) := by decide +kernel
theorem dX3_boundsMeet_20 : decode cX3_boundsMeet 20 = .ok (.if_icmp .le 5, 3) := by decide +kernel
theorem dX3_boundsMeet_23 : decode cX3_boundsMeet 23 = .ok (.iconst 0, 1) := by decide +kernel
theorem dX3_boundsMeet_24 : decode cX3_boundsMeet 24 = .ok (.ireturn, 1) := by decide +kernel
theorem dX3_boundsMeet_25 : decode cX3_boundsMeet 25 = .ok (.iinc 1 1, 3) := by decide +kernel
theorem dX3_boundsMeet_28 : decode cX3_boundsMeet 28 = .ok (.goto (-26), 3) := by decide +kernel
theorem dX3_boundsMeet_31 : decode cX3_boundsMeet 31 = .ok (.iconst 1, 1) := by decide +kernel
theorem dX3_boundsMeet_32 : decode cX3_boundsMeet 32 = .ok (.ireturn, 1) := by decide +kernel
theorem dX3_edge_0 : decode cX3_edge 0 = .ok (.iload_n 2, 1) := by decide +kernel
theorem dX3_edge_1 : decode cX3_edge 1 = .ok (.iconst 2, 1) := by decide +kernel
theorem dX3_edge_2 : decode cX3_edge 2 = .ok (.if_icmp .ge 10, 3) := by decide +kernel
theorem dX3_edge_5 : decode cX3_edge 5 = .ok (.iload_n 1, 1) := by decide +kernel
theorem dX3_edge_6 : decode cX3_edge 6 = .ok (.invokestatic 66, 3) := by decide +kernel
theorem dX3_edge_9 : decode cX3_edge 9 = .ok (.goto 7, 3) := by decide +kernel
theorem dX3_edge_12 : decode cX3_edge 12 = .ok (.iload_n 1, 1) := by decide +kernel
theorem dX3_edge_13 : decode cX3_edge 13 = .ok (.invokestatic 74, 3) := by decide +kernel
theorem dX3_edge_16 : decode cX3_edge 16 = .ok (.istore_n 3, 1) := by decide +kernel
theorem dX3_edge_17 : decode cX3_edge 17 = .ok (.iload_n 2, 1) := by decide +kernel
theorem dX3_edge_18 : decode cX3_edge 18 = .ok (.iconst 2, 1) := by decide +kernel
theorem dX3_edge_19 : decode cX3_edge 19 = .ok (.irem, 1) := by decide +kernel
theorem dX3_edge_20 : decode cX3_edge 20 = .ok (.ifCond .ne 12, 3) := by decide +kernel
theorem dX3_edge_23 : decode cX3_edge 23 = .ok (.aload_n 0, 1) := by decide +kernel
theorem dX3_edge_24 : decode cX3_edge 24 = .ok (.getfield 25, 3) := by decide +kernel
theorem dX3_edge_27 : decode cX3_edge 27 = .ok (.iload_n 3, 1) := by decide +kernel
theorem dX3_edge_28 : decode cX3_edge 28 = .ok (.iaload, 1) := by decide +kernel
theorem dX3_edge_29 : decode cX3_edge 29 = .ok (.goto 9, 3) := by decide +kernel
theorem dX3_edge_32 : decode cX3_edge 32 = .ok (.aload_n 0, 1) := by decide +kernel
theorem dX3_edge_33 : decode cX3_edge 33 = .ok (.getfield 28, 3) := by decide +kernel
theorem dX3_edge_36 : decode cX3_edge 36 = .ok (.iload_n 3, 1) := by decide +kernel
theorem dX3_edge_37 : decode cX3_edge 37 = .ok (.iaload, 1) := by decide +kernel
theorem dX3_edge_38 : decode cX3_edge 38 = .ok (.ireturn, 1) := by decide +kernel
theorem dX3_firstQuarrel_0 : decode cX3_firstQuarrel 0 = .ok (.aload_n 0, 1) := by decide +kernel
theorem dX3_firstQuarrel_1 : decode cX3_firstQuarrel 1 = .ok (.getfield 42, 3) := by decide +kernel
theorem dX3_firstQuarrel_4 : decode cX3_firstQuarrel 4 = .ok (.iconst 1, 1) := by decide +kernel
theorem dX3_firstQuarrel_5 : decode cX3_firstQuarrel 5 = .ok (.iadd, 1) := by decide +kernel
theorem dX3_firstQuarrel_6 : decode cX3_firstQuarrel 6 = .ok (.istore_n 1, 1) := by decide +kernel
theorem dX3_firstQuarrel_7 : decode cX3_firstQuarrel 7 = .ok (.iload_n 1, 1) := by decide +kernel
