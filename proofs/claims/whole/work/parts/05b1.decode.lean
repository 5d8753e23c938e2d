theorem d_R_init_0 : decode M_R_init.2.1 0 = .ok (.aload_n 0, 1) := by decide +kernel
theorem d_R_init_1 : decode M_R_init.2.1 1 = .ok (.invokespecial 5, 3) := by decide +kernel
theorem d_R_init_4 : decode M_R_init.2.1 4 = .ok (.aload_n 0, 1) := by decide +kernel
theorem d_R_init_5 : decode M_R_init.2.1 5 = .ok (.bipush (33), 2) := by decide +kernel
theorem d_R_init_7 : decode M_R_init.2.1 7 = .ok (.newarray .int, 2) := by decide +kernel
theorem d_R_init_9 : decode M_R_init.2.1 9 = .ok (.putfield 11, 3) := by decide +kernel
theorem d_R_init_12 : decode M_R_init.2.1 12 = .ok (.aload_n 0, 1) := by decide +kernel
theorem d_R_init_13 : decode M_R_init.2.1 13 = .ok (.bipush (33), 2) := by decide +kernel
theorem d_R_init_15 : decode M_R_init.2.1 15 = .ok (.newarray .int, 2) := by decide +kernel
theorem d_R_init_17 : decode M_R_init.2.1 17 = .ok (.putfield 15, 3) := by decide +kernel
theorem d_R_init_20 : decode M_R_init.2.1 20 = .ok (.aload_n 0, 1) := by decide +kernel
theorem d_R_init_21 : decode M_R_init.2.1 21 = .ok (.bipush (64), 2) := by decide +kernel
theorem d_R_init_23 : decode M_R_init.2.1 23 = .ok (.newarray .int, 2) := by decide +kernel
theorem d_R_init_25 : decode M_R_init.2.1 25 = .ok (.putfield 18, 3) := by decide +kernel
theorem d_R_init_28 : decode M_R_init.2.1 28 = .ok (.aload_n 0, 1) := by decide +kernel
theorem d_R_init_29 : decode M_R_init.2.1 29 = .ok (.bipush (64), 2) := by decide +kernel
theorem d_R_init_31 : decode M_R_init.2.1 31 = .ok (.newarray .int, 2) := by decide +kernel
theorem d_R_init_33 : decode M_R_init.2.1 33 = .ok (.putfield 21, 3) := by decide +kernel
theorem d_R_init_36 : decode M_R_init.2.1 36 = .ok (.aload_n 0, 1) := by decide +kernel
theorem d_R_init_37 : decode M_R_init.2.1 37 = .ok (.sipush (2304), 3) := by decide +kernel
theorem d_R_init_40 : decode M_R_init.2.1 40 = .ok (.newarray .long, 2) := by decide +kernel
theorem d_R_init_42 : decode M_R_init.2.1 42 = .ok (.putfield 24, 3) := by decide +kernel
theorem d_R_init_45 : decode M_R_init.2.1 45 = .ok (.return_, 1) := by decide +kernel
theorem d_R_coefficient_0 : decode M_R_coefficient.2.1 0 = .ok (.aload_n 0, 1) := by decide +kernel
theorem d_R_coefficient_1 : decode M_R_coefficient.2.1 1 = .ok (.aload_n 1, 1) := by decide +kernel
theorem d_R_coefficient_2 : decode M_R_coefficient.2.1 2 = .ok (.invokevirtual 28, 3) := by decide +kernel
theorem d_R_coefficient_5 : decode M_R_coefficient.2.1 5 = .ok (.iload_n 2, 1) := by decide +kernel
theorem d_R_coefficient_6 : decode M_R_coefficient.2.1 6 = .ok (.iadd, 1) := by decide +kernel
theorem d_R_coefficient_7 : decode M_R_coefficient.2.1 7 = .ok (.iconst (1), 1) := by decide +kernel
theorem d_R_coefficient_8 : decode M_R_coefficient.2.1 8 = .ok (.isub, 1) := by decide +kernel
theorem d_R_coefficient_9 : decode M_R_coefficient.2.1 9 = .ok (.istore 4, 2) := by decide +kernel
theorem d_R_coefficient_11 : decode M_R_coefficient.2.1 11 = .ok (.iload_n 3, 1) := by decide +kernel
theorem d_R_coefficient_12 : decode M_R_coefficient.2.1 12 = .ok (.ifCond .lt (23), 3) := by decide +kernel
theorem d_R_coefficient_15 : decode M_R_coefficient.2.1 15 = .ok (.iload_n 3, 1) := by decide +kernel
theorem d_R_coefficient_16 : decode M_R_coefficient.2.1 16 = .ok (.bipush (8), 2) := by decide +kernel
theorem d_R_coefficient_18 : decode M_R_coefficient.2.1 18 = .ok (.if_icmp .gt (17), 3) := by decide +kernel
theorem d_R_coefficient_21 : decode M_R_coefficient.2.1 21 = .ok (.iload 4, 2) := by decide +kernel
theorem d_R_coefficient_23 : decode M_R_coefficient.2.1 23 = .ok (.ifCond .lt (12), 3) := by decide +kernel
theorem d_R_coefficient_26 : decode M_R_coefficient.2.1 26 = .ok (.iload 4, 2) := by decide +kernel
theorem d_R_coefficient_28 : decode M_R_coefficient.2.1 28 = .ok (.aload_n 1, 1) := by decide +kernel
theorem d_R_coefficient_29 : decode M_R_coefficient.2.1 29 = .ok (.invokevirtual 32, 3) := by decide +kernel
theorem d_R_coefficient_32 : decode M_R_coefficient.2.1 32 = .ok (.if_icmp .le (5), 3) := by decide +kernel
theorem d_R_coefficient_35 : decode M_R_coefficient.2.1 35 = .ok (.lconst 0, 1) := by decide +kernel
theorem d_R_coefficient_36 : decode M_R_coefficient.2.1 36 = .ok (.lreturn, 1) := by decide +kernel
theorem d_R_coefficient_37 : decode M_R_coefficient.2.1 37 = .ok (.aload_n 0, 1) := by decide +kernel
theorem d_R_coefficient_38 : decode M_R_coefficient.2.1 38 = .ok (.aload_n 1, 1) := by decide +kernel
theorem d_R_coefficient_39 : decode M_R_coefficient.2.1 39 = .ok (.iload 4, 2) := by decide +kernel
theorem d_R_coefficient_41 : decode M_R_coefficient.2.1 41 = .ok (.invokevirtual 38, 3) := by decide +kernel
theorem d_R_coefficient_44 : decode M_R_coefficient.2.1 44 = .ok (.aload_n 0, 1) := by decide +kernel
theorem d_R_coefficient_45 : decode M_R_coefficient.2.1 45 = .ok (.iload 4, 2) := by decide +kernel
theorem d_R_coefficient_47 : decode M_R_coefficient.2.1 47 = .ok (.invokevirtual 42, 3) := by decide +kernel
theorem d_R_coefficient_50 : decode M_R_coefficient.2.1 50 = .ok (.aload_n 0, 1) := by decide +kernel
theorem d_R_coefficient_51 : decode M_R_coefficient.2.1 51 = .ok (.iconst (1), 1) := by decide +kernel
theorem d_R_coefficient_52 : decode M_R_coefficient.2.1 52 = .ok (.iload 4, 2) := by decide +kernel
theorem d_R_coefficient_54 : decode M_R_coefficient.2.1 54 = .ok (.ishl, 1) := by decide +kernel
theorem d_R_coefficient_55 : decode M_R_coefficient.2.1 55 = .ok (.iconst (1), 1) := by decide +kernel
theorem d_R_coefficient_56 : decode M_R_coefficient.2.1 56 = .ok (.isub, 1) := by decide +kernel
theorem d_R_coefficient_57 : decode M_R_coefficient.2.1 57 = .ok (.bipush (9), 2) := by decide +kernel
theorem d_R_coefficient_59 : decode M_R_coefficient.2.1 59 = .ok (.imul, 1) := by decide +kernel
theorem d_R_coefficient_60 : decode M_R_coefficient.2.1 60 = .ok (.iload_n 3, 1) := by decide +kernel
theorem d_R_coefficient_61 : decode M_R_coefficient.2.1 61 = .ok (.invokevirtual 46, 3) := by decide +kernel
theorem d_R_coefficient_64 : decode M_R_coefficient.2.1 64 = .ok (.lreturn, 1) := by decide +kernel
theorem d_R_numberArcs_0 : decode M_R_numberArcs.2.1 0 = .ok (.iconst (0), 1) := by decide +kernel
theorem d_R_numberArcs_1 : decode M_R_numberArcs.2.1 1 = .ok (.istore_n 2, 1) := by decide +kernel
theorem d_R_numberArcs_2 : decode M_R_numberArcs.2.1 2 = .ok (.iload_n 2, 1) := by decide +kernel
theorem d_R_numberArcs_3 : decode M_R_numberArcs.2.1 3 = .ok (.bipush (32), 2) := by decide +kernel
theorem d_R_numberArcs_5 : decode M_R_numberArcs.2.1 5 = .ok (.if_icmp .gt (16), 3) := by decide +kernel
theorem d_R_numberArcs_8 : decode M_R_numberArcs.2.1 8 = .ok (.aload_n 0, 1) := by decide +kernel
theorem d_R_numberArcs_9 : decode M_R_numberArcs.2.1 9 = .ok (.getfield 11, 3) := by decide +kernel
theorem d_R_numberArcs_12 : decode M_R_numberArcs.2.1 12 = .ok (.iload_n 2, 1) := by decide +kernel
theorem d_R_numberArcs_13 : decode M_R_numberArcs.2.1 13 = .ok (.iload_n 2, 1) := by decide +kernel
theorem d_R_numberArcs_14 : decode M_R_numberArcs.2.1 14 = .ok (.iastore, 1) := by decide +kernel
theorem d_R_numberArcs_15 : decode M_R_numberArcs.2.1 15 = .ok (.iinc 2 (1), 3) := by decide +kernel
theorem d_R_numberArcs_18 : decode M_R_numberArcs.2.1 18 = .ok (.goto (-16), 3) := by decide +kernel
theorem d_R_numberArcs_21 : decode M_R_numberArcs.2.1 21 = .ok (.iconst (0), 1) := by decide +kernel
theorem d_R_numberArcs_22 : decode M_R_numberArcs.2.1 22 = .ok (.istore_n 2, 1) := by decide +kernel
theorem d_R_numberArcs_23 : decode M_R_numberArcs.2.1 23 = .ok (.iload_n 2, 1) := by decide +kernel
theorem d_R_numberArcs_24 : decode M_R_numberArcs.2.1 24 = .ok (.aload_n 1, 1) := by decide +kernel
theorem d_R_numberArcs_25 : decode M_R_numberArcs.2.1 25 = .ok (.invokevirtual 32, 3) := by decide +kernel
theorem d_R_numberArcs_28 : decode M_R_numberArcs.2.1 28 = .ok (.if_icmp .ge (41), 3) := by decide +kernel
theorem d_R_numberArcs_31 : decode M_R_numberArcs.2.1 31 = .ok (.aload_n 0, 1) := by decide +kernel
theorem d_R_numberArcs_32 : decode M_R_numberArcs.2.1 32 = .ok (.aload_n 0, 1) := by decide +kernel
theorem d_R_numberArcs_33 : decode M_R_numberArcs.2.1 33 = .ok (.getfield 11, 3) := by decide +kernel
theorem d_R_numberArcs_36 : decode M_R_numberArcs.2.1 36 = .ok (.aload_n 1, 1) := by decide +kernel
theorem d_R_numberArcs_37 : decode M_R_numberArcs.2.1 37 = .ok (.iconst (4), 1) := by decide +kernel
theorem d_R_numberArcs_38 : decode M_R_numberArcs.2.1 38 = .ok (.iload_n 2, 1) := by decide +kernel
theorem d_R_numberArcs_39 : decode M_R_numberArcs.2.1 39 = .ok (.imul, 1) := by decide +kernel
theorem d_R_numberArcs_40 : decode M_R_numberArcs.2.1 40 = .ok (.iconst (1), 1) := by decide +kernel
theorem d_R_numberArcs_41 : decode M_R_numberArcs.2.1 41 = .ok (.iadd, 1) := by decide +kernel
theorem d_R_numberArcs_42 : decode M_R_numberArcs.2.1 42 = .ok (.invokevirtual 50, 3) := by decide +kernel
theorem d_R_numberArcs_45 : decode M_R_numberArcs.2.1 45 = .ok (.iaload, 1) := by decide +kernel
theorem d_R_numberArcs_46 : decode M_R_numberArcs.2.1 46 = .ok (.aload_n 0, 1) := by decide +kernel
theorem d_R_numberArcs_47 : decode M_R_numberArcs.2.1 47 = .ok (.getfield 11, 3) := by decide +kernel
theorem d_R_numberArcs_50 : decode M_R_numberArcs.2.1 50 = .ok (.aload_n 1, 1) := by decide +kernel
theorem d_R_numberArcs_51 : decode M_R_numberArcs.2.1 51 = .ok (.iconst (4), 1) := by decide +kernel
theorem d_R_numberArcs_52 : decode M_R_numberArcs.2.1 52 = .ok (.iload_n 2, 1) := by decide +kernel
theorem d_R_numberArcs_53 : decode M_R_numberArcs.2.1 53 = .ok (.imul, 1) := by decide +kernel
theorem d_R_numberArcs_54 : decode M_R_numberArcs.2.1 54 = .ok (.iconst (3), 1) := by decide +kernel
theorem d_R_numberArcs_55 : decode M_R_numberArcs.2.1 55 = .ok (.iadd, 1) := by decide +kernel
theorem d_R_numberArcs_56 : decode M_R_numberArcs.2.1 56 = .ok (.invokevirtual 50, 3) := by decide +kernel
theorem d_R_numberArcs_59 : decode M_R_numberArcs.2.1 59 = .ok (.iaload, 1) := by decide +kernel
theorem d_R_numberArcs_60 : decode M_R_numberArcs.2.1 60 = .ok (.invokevirtual 54, 3) := by decide +kernel
theorem d_R_numberArcs_63 : decode M_R_numberArcs.2.1 63 = .ok (.iinc 2 (1), 3) := by decide +kernel
theorem d_R_numberArcs_66 : decode M_R_numberArcs.2.1 66 = .ok (.goto (-43), 3) := by decide +kernel
theorem d_R_numberArcs_69 : decode M_R_numberArcs.2.1 69 = .ok (.iconst (0), 1) := by decide +kernel
theorem d_R_numberArcs_70 : decode M_R_numberArcs.2.1 70 = .ok (.istore_n 2, 1) := by decide +kernel
theorem d_R_numberArcs_71 : decode M_R_numberArcs.2.1 71 = .ok (.iconst (1), 1) := by decide +kernel
theorem d_R_numberArcs_72 : decode M_R_numberArcs.2.1 72 = .ok (.istore_n 3, 1) := by decide +kernel
theorem d_R_numberArcs_73 : decode M_R_numberArcs.2.1 73 = .ok (.iload_n 3, 1) := by decide +kernel
theorem d_R_numberArcs_74 : decode M_R_numberArcs.2.1 74 = .ok (.bipush (32), 2) := by decide +kernel
theorem d_R_numberArcs_76 : decode M_R_numberArcs.2.1 76 = .ok (.if_icmp .gt (37), 3) := by decide +kernel
theorem d_R_numberArcs_79 : decode M_R_numberArcs.2.1 79 = .ok (.aload_n 0, 1) := by decide +kernel
theorem d_R_numberArcs_80 : decode M_R_numberArcs.2.1 80 = .ok (.getfield 11, 3) := by decide +kernel
theorem d_R_numberArcs_83 : decode M_R_numberArcs.2.1 83 = .ok (.iload_n 3, 1) := by decide +kernel
theorem d_R_numberArcs_84 : decode M_R_numberArcs.2.1 84 = .ok (.iaload, 1) := by decide +kernel
theorem d_R_numberArcs_85 : decode M_R_numberArcs.2.1 85 = .ok (.iload_n 3, 1) := by decide +kernel
theorem d_R_numberArcs_86 : decode M_R_numberArcs.2.1 86 = .ok (.if_icmp .ne (21), 3) := by decide +kernel
theorem d_R_numberArcs_89 : decode M_R_numberArcs.2.1 89 = .ok (.aload_n 1, 1) := by decide +kernel
theorem d_R_numberArcs_90 : decode M_R_numberArcs.2.1 90 = .ok (.iload_n 3, 1) := by decide +kernel
theorem d_R_numberArcs_91 : decode M_R_numberArcs.2.1 91 = .ok (.invokevirtual 58, 3) := by decide +kernel
theorem d_R_numberArcs_94 : decode M_R_numberArcs.2.1 94 = .ok (.ifCond .eq (13), 3) := by decide +kernel
theorem d_R_numberArcs_97 : decode M_R_numberArcs.2.1 97 = .ok (.aload_n 0, 1) := by decide +kernel
theorem d_R_numberArcs_98 : decode M_R_numberArcs.2.1 98 = .ok (.getfield 15, 3) := by decide +kernel
theorem d_R_numberArcs_101 : decode M_R_numberArcs.2.1 101 = .ok (.iload_n 3, 1) := by decide +kernel
theorem d_R_numberArcs_102 : decode M_R_numberArcs.2.1 102 = .ok (.iload_n 2, 1) := by decide +kernel
theorem d_R_numberArcs_103 : decode M_R_numberArcs.2.1 103 = .ok (.iastore, 1) := by decide +kernel
theorem d_R_numberArcs_104 : decode M_R_numberArcs.2.1 104 = .ok (.iinc 2 (1), 3) := by decide +kernel
theorem d_R_numberArcs_107 : decode M_R_numberArcs.2.1 107 = .ok (.iinc 3 (1), 3) := by decide +kernel
theorem d_R_numberArcs_110 : decode M_R_numberArcs.2.1 110 = .ok (.goto (-37), 3) := by decide +kernel
theorem d_R_numberArcs_113 : decode M_R_numberArcs.2.1 113 = .ok (.iload_n 2, 1) := by decide +kernel
theorem d_R_numberArcs_114 : decode M_R_numberArcs.2.1 114 = .ok (.ireturn, 1) := by decide +kernel
theorem d_R_mergeArcs_0 : decode M_R_mergeArcs.2.1 0 = .ok (.iload_n 1, 1) := by decide +kernel
theorem d_R_mergeArcs_1 : decode M_R_mergeArcs.2.1 1 = .ok (.iload_n 2, 1) := by decide +kernel
theorem d_R_mergeArcs_2 : decode M_R_mergeArcs.2.1 2 = .ok (.invokestatic 62, 3) := by decide +kernel
theorem d_R_mergeArcs_5 : decode M_R_mergeArcs.2.1 5 = .ok (.istore_n 3, 1) := by decide +kernel
theorem d_R_mergeArcs_6 : decode M_R_mergeArcs.2.1 6 = .ok (.iconst (1), 1) := by decide +kernel
theorem d_R_mergeArcs_7 : decode M_R_mergeArcs.2.1 7 = .ok (.istore 4, 2) := by decide +kernel
theorem d_R_mergeArcs_9 : decode M_R_mergeArcs.2.1 9 = .ok (.iload 4, 2) := by decide +kernel
theorem d_R_mergeArcs_11 : decode M_R_mergeArcs.2.1 11 = .ok (.bipush (32), 2) := by decide +kernel
theorem d_R_mergeArcs_13 : decode M_R_mergeArcs.2.1 13 = .ok (.if_icmp .gt (39), 3) := by decide +kernel
theorem d_R_mergeArcs_16 : decode M_R_mergeArcs.2.1 16 = .ok (.aload_n 0, 1) := by decide +kernel
theorem d_R_mergeArcs_17 : decode M_R_mergeArcs.2.1 17 = .ok (.getfield 11, 3) := by decide +kernel
theorem d_R_mergeArcs_20 : decode M_R_mergeArcs.2.1 20 = .ok (.iload 4, 2) := by decide +kernel
theorem d_R_mergeArcs_22 : decode M_R_mergeArcs.2.1 22 = .ok (.iaload, 1) := by decide +kernel
theorem d_R_mergeArcs_23 : decode M_R_mergeArcs.2.1 23 = .ok (.iload_n 1, 1) := by decide +kernel
theorem d_R_mergeArcs_24 : decode M_R_mergeArcs.2.1 24 = .ok (.if_icmp .eq (14), 3) := by decide +kernel
theorem d_R_mergeArcs_27 : decode M_R_mergeArcs.2.1 27 = .ok (.aload_n 0, 1) := by decide +kernel
theorem d_R_mergeArcs_28 : decode M_R_mergeArcs.2.1 28 = .ok (.getfield 11, 3) := by decide +kernel
theorem d_R_mergeArcs_31 : decode M_R_mergeArcs.2.1 31 = .ok (.iload 4, 2) := by decide +kernel
theorem d_R_mergeArcs_33 : decode M_R_mergeArcs.2.1 33 = .ok (.iaload, 1) := by decide +kernel
theorem d_R_mergeArcs_34 : decode M_R_mergeArcs.2.1 34 = .ok (.iload_n 2, 1) := by decide +kernel
theorem d_R_mergeArcs_35 : decode M_R_mergeArcs.2.1 35 = .ok (.if_icmp .ne (11), 3) := by decide +kernel
theorem d_R_mergeArcs_38 : decode M_R_mergeArcs.2.1 38 = .ok (.aload_n 0, 1) := by decide +kernel
theorem d_R_mergeArcs_39 : decode M_R_mergeArcs.2.1 39 = .ok (.getfield 11, 3) := by decide +kernel
theorem d_R_mergeArcs_42 : decode M_R_mergeArcs.2.1 42 = .ok (.iload 4, 2) := by decide +kernel
theorem d_R_mergeArcs_44 : decode M_R_mergeArcs.2.1 44 = .ok (.iload_n 3, 1) := by decide +kernel
theorem d_R_mergeArcs_45 : decode M_R_mergeArcs.2.1 45 = .ok (.iastore, 1) := by decide +kernel
theorem d_R_mergeArcs_46 : decode M_R_mergeArcs.2.1 46 = .ok (.iinc 4 (1), 3) := by decide +kernel
theorem d_R_mergeArcs_49 : decode M_R_mergeArcs.2.1 49 = .ok (.goto (-40), 3) := by decide +kernel
theorem d_R_mergeArcs_52 : decode M_R_mergeArcs.2.1 52 = .ok (.return_, 1) := by decide +kernel
theorem d_R_fillMatrix_0 : decode M_R_fillMatrix.2.1 0 = .ok (.aload_n 0, 1) := by decide +kernel
theorem d_R_fillMatrix_1 : decode M_R_fillMatrix.2.1 1 = .ok (.getfield 18, 3) := by decide +kernel
theorem d_R_fillMatrix_4 : decode M_R_fillMatrix.2.1 4 = .ok (.iconst (0), 1) := by decide +kernel
theorem d_R_fillMatrix_5 : decode M_R_fillMatrix.2.1 5 = .ok (.invokestatic 68, 3) := by decide +kernel
theorem d_R_fillMatrix_8 : decode M_R_fillMatrix.2.1 8 = .ok (.aload_n 0, 1) := by decide +kernel
theorem d_R_fillMatrix_9 : decode M_R_fillMatrix.2.1 9 = .ok (.getfield 21, 3) := by decide +kernel
theorem d_R_fillMatrix_12 : decode M_R_fillMatrix.2.1 12 = .ok (.iconst (0), 1) := by decide +kernel
theorem d_R_fillMatrix_13 : decode M_R_fillMatrix.2.1 13 = .ok (.invokestatic 68, 3) := by decide +kernel
theorem d_R_fillMatrix_16 : decode M_R_fillMatrix.2.1 16 = .ok (.iconst (0), 1) := by decide +kernel
theorem d_R_fillMatrix_17 : decode M_R_fillMatrix.2.1 17 = .ok (.istore_n 3, 1) := by decide +kernel
theorem d_R_fillMatrix_18 : decode M_R_fillMatrix.2.1 18 = .ok (.iload_n 3, 1) := by decide +kernel
theorem d_R_fillMatrix_19 : decode M_R_fillMatrix.2.1 19 = .ok (.iload_n 2, 1) := by decide +kernel
theorem d_R_fillMatrix_20 : decode M_R_fillMatrix.2.1 20 = .ok (.if_icmp .ge (66), 3) := by decide +kernel
theorem d_R_fillMatrix_23 : decode M_R_fillMatrix.2.1 23 = .ok (.aload_n 1, 1) := by decide +kernel
theorem d_R_fillMatrix_24 : decode M_R_fillMatrix.2.1 24 = .ok (.iload_n 3, 1) := by decide +kernel
theorem d_R_fillMatrix_25 : decode M_R_fillMatrix.2.1 25 = .ok (.invokevirtual 74, 3) := by decide +kernel
theorem d_R_fillMatrix_28 : decode M_R_fillMatrix.2.1 28 = .ok (.ifCond .eq (9), 3) := by decide +kernel
theorem d_R_fillMatrix_31 : decode M_R_fillMatrix.2.1 31 = .ok (.iconst (4), 1) := by decide +kernel
theorem d_R_fillMatrix_32 : decode M_R_fillMatrix.2.1 32 = .ok (.iload_n 3, 1) := by decide +kernel
theorem d_R_fillMatrix_33 : decode M_R_fillMatrix.2.1 33 = .ok (.imul, 1) := by decide +kernel
theorem d_R_fillMatrix_34 : decode M_R_fillMatrix.2.1 34 = .ok (.goto (8), 3) := by decide +kernel
theorem d_R_fillMatrix_37 : decode M_R_fillMatrix.2.1 37 = .ok (.iconst (4), 1) := by decide +kernel
theorem d_R_fillMatrix_38 : decode M_R_fillMatrix.2.1 38 = .ok (.iload_n 3, 1) := by decide +kernel
theorem d_R_fillMatrix_39 : decode M_R_fillMatrix.2.1 39 = .ok (.imul, 1) := by decide +kernel
theorem d_R_fillMatrix_40 : decode M_R_fillMatrix.2.1 40 = .ok (.iconst (2), 1) := by decide +kernel
theorem d_R_fillMatrix_41 : decode M_R_fillMatrix.2.1 41 = .ok (.iadd, 1) := by decide +kernel
theorem d_R_fillMatrix_42 : decode M_R_fillMatrix.2.1 42 = .ok (.istore 4, 2) := by decide +kernel
theorem d_R_fillMatrix_44 : decode M_R_fillMatrix.2.1 44 = .ok (.aload_n 0, 1) := by decide +kernel
theorem d_R_fillMatrix_45 : decode M_R_fillMatrix.2.1 45 = .ok (.aload_n 1, 1) := by decide +kernel
theorem d_R_fillMatrix_46 : decode M_R_fillMatrix.2.1 46 = .ok (.iload_n 2, 1) := by decide +kernel
theorem d_R_fillMatrix_47 : decode M_R_fillMatrix.2.1 47 = .ok (.iconst (4), 1) := by decide +kernel
theorem d_R_fillMatrix_48 : decode M_R_fillMatrix.2.1 48 = .ok (.iload_n 3, 1) := by decide +kernel
theorem d_R_fillMatrix_49 : decode M_R_fillMatrix.2.1 49 = .ok (.imul, 1) := by decide +kernel
theorem d_R_fillMatrix_50 : decode M_R_fillMatrix.2.1 50 = .ok (.iconst (1), 1) := by decide +kernel
theorem d_R_fillMatrix_51 : decode M_R_fillMatrix.2.1 51 = .ok (.iadd, 1) := by decide +kernel
theorem d_R_fillMatrix_52 : decode M_R_fillMatrix.2.1 52 = .ok (.iconst (1), 1) := by decide +kernel
theorem d_R_fillMatrix_53 : decode M_R_fillMatrix.2.1 53 = .ok (.iconst (-1), 1) := by decide +kernel
theorem d_R_fillMatrix_54 : decode M_R_fillMatrix.2.1 54 = .ok (.invokevirtual 77, 3) := by decide +kernel
theorem d_R_fillMatrix_57 : decode M_R_fillMatrix.2.1 57 = .ok (.aload_n 0, 1) := by decide +kernel
theorem d_R_fillMatrix_58 : decode M_R_fillMatrix.2.1 58 = .ok (.aload_n 1, 1) := by decide +kernel
theorem d_R_fillMatrix_59 : decode M_R_fillMatrix.2.1 59 = .ok (.iload_n 2, 1) := by decide +kernel
theorem d_R_fillMatrix_60 : decode M_R_fillMatrix.2.1 60 = .ok (.iload 4, 2) := by decide +kernel
theorem d_R_fillMatrix_62 : decode M_R_fillMatrix.2.1 62 = .ok (.iconst (0), 1) := by decide +kernel
theorem d_R_fillMatrix_63 : decode M_R_fillMatrix.2.1 63 = .ok (.iconst (1), 1) := by decide +kernel
theorem d_R_fillMatrix_64 : decode M_R_fillMatrix.2.1 64 = .ok (.invokevirtual 77, 3) := by decide +kernel
theorem d_R_fillMatrix_67 : decode M_R_fillMatrix.2.1 67 = .ok (.aload_n 0, 1) := by decide +kernel
theorem d_R_fillMatrix_68 : decode M_R_fillMatrix.2.1 68 = .ok (.aload_n 1, 1) := by decide +kernel
theorem d_R_fillMatrix_69 : decode M_R_fillMatrix.2.1 69 = .ok (.iload_n 2, 1) := by decide +kernel
theorem d_R_fillMatrix_70 : decode M_R_fillMatrix.2.1 70 = .ok (.iload 4, 2) := by decide +kernel
theorem d_R_fillMatrix_72 : decode M_R_fillMatrix.2.1 72 = .ok (.invokestatic 81, 3) := by decide +kernel
theorem d_R_fillMatrix_75 : decode M_R_fillMatrix.2.1 75 = .ok (.iconst (-1), 1) := by decide +kernel
theorem d_R_fillMatrix_76 : decode M_R_fillMatrix.2.1 76 = .ok (.iconst (0), 1) := by decide +kernel
theorem d_R_fillMatrix_77 : decode M_R_fillMatrix.2.1 77 = .ok (.invokevirtual 77, 3) := by decide +kernel
theorem d_R_fillMatrix_80 : decode M_R_fillMatrix.2.1 80 = .ok (.iinc 3 (1), 3) := by decide +kernel
theorem d_R_fillMatrix_83 : decode M_R_fillMatrix.2.1 83 = .ok (.goto (-65), 3) := by decide +kernel
theorem d_R_fillMatrix_86 : decode M_R_fillMatrix.2.1 86 = .ok (.return_, 1) := by decide +kernel
theorem d_R_addEntry_0 : decode M_R_addEntry.2.1 0 = .ok (.aload_n 0, 1) := by decide +kernel
theorem d_R_addEntry_1 : decode M_R_addEntry.2.1 1 = .ok (.getfield 15, 3) := by decide +kernel
theorem d_R_addEntry_4 : decode M_R_addEntry.2.1 4 = .ok (.aload_n 0, 1) := by decide +kernel
theorem d_R_addEntry_5 : decode M_R_addEntry.2.1 5 = .ok (.getfield 11, 3) := by decide +kernel
theorem d_R_addEntry_8 : decode M_R_addEntry.2.1 8 = .ok (.aload_n 1, 1) := by decide +kernel
theorem d_R_addEntry_9 : decode M_R_addEntry.2.1 9 = .ok (.iload_n 3, 1) := by decide +kernel
theorem d_R_addEntry_10 : decode M_R_addEntry.2.1 10 = .ok (.invokevirtual 50, 3) := by decide +kernel
theorem d_R_addEntry_13 : decode M_R_addEntry.2.1 13 = .ok (.iaload, 1) := by decide +kernel
theorem d_R_addEntry_14 : decode M_R_addEntry.2.1 14 = .ok (.iaload, 1) := by decide +kernel
theorem d_R_addEntry_15 : decode M_R_addEntry.2.1 15 = .ok (.istore 6, 2) := by decide +kernel
theorem d_R_addEntry_17 : decode M_R_addEntry.2.1 17 = .ok (.iload 6, 2) := by decide +kernel
theorem d_R_addEntry_19 : decode M_R_addEntry.2.1 19 = .ok (.iload_n 2, 1) := by decide +kernel
theorem d_R_addEntry_20 : decode M_R_addEntry.2.1 20 = .ok (.if_icmp .ge (39), 3) := by decide +kernel
theorem d_R_addEntry_23 : decode M_R_addEntry.2.1 23 = .ok (.iload_n 3, 1) := by decide +kernel
theorem d_R_addEntry_24 : decode M_R_addEntry.2.1 24 = .ok (.invokestatic 84, 3) := by decide +kernel
theorem d_R_addEntry_27 : decode M_R_addEntry.2.1 27 = .ok (.bipush (8), 2) := by decide +kernel
theorem d_R_addEntry_29 : decode M_R_addEntry.2.1 29 = .ok (.imul, 1) := by decide +kernel
theorem d_R_addEntry_30 : decode M_R_addEntry.2.1 30 = .ok (.iload 6, 2) := by decide +kernel
theorem d_R_addEntry_32 : decode M_R_addEntry.2.1 32 = .ok (.iadd, 1) := by decide +kernel
theorem d_R_addEntry_33 : decode M_R_addEntry.2.1 33 = .ok (.istore 7, 2) := by decide +kernel
theorem d_R_addEntry_35 : decode M_R_addEntry.2.1 35 = .ok (.aload_n 0, 1) := by decide +kernel
theorem d_R_addEntry_36 : decode M_R_addEntry.2.1 36 = .ok (.getfield 18, 3) := by decide +kernel
theorem d_R_addEntry_39 : decode M_R_addEntry.2.1 39 = .ok (.iload 7, 2) := by decide +kernel
theorem d_R_addEntry_41 : decode M_R_addEntry.2.1 41 = .ok (.dup2, 1) := by decide +kernel
theorem d_R_addEntry_42 : decode M_R_addEntry.2.1 42 = .ok (.iaload, 1) := by decide +kernel
theorem d_R_addEntry_43 : decode M_R_addEntry.2.1 43 = .ok (.iload 4, 2) := by decide +kernel
theorem d_R_addEntry_45 : decode M_R_addEntry.2.1 45 = .ok (.iadd, 1) := by decide +kernel
theorem d_R_addEntry_46 : decode M_R_addEntry.2.1 46 = .ok (.iastore, 1) := by decide +kernel
theorem d_R_addEntry_47 : decode M_R_addEntry.2.1 47 = .ok (.aload_n 0, 1) := by decide +kernel
theorem d_R_addEntry_48 : decode M_R_addEntry.2.1 48 = .ok (.getfield 21, 3) := by decide +kernel
theorem d_R_addEntry_51 : decode M_R_addEntry.2.1 51 = .ok (.iload 7, 2) := by decide +kernel
theorem d_R_addEntry_53 : decode M_R_addEntry.2.1 53 = .ok (.dup2, 1) := by decide +kernel
theorem d_R_addEntry_54 : decode M_R_addEntry.2.1 54 = .ok (.iaload, 1) := by decide +kernel
theorem d_R_addEntry_55 : decode M_R_addEntry.2.1 55 = .ok (.iload 5, 2) := by decide +kernel
theorem d_R_addEntry_57 : decode M_R_addEntry.2.1 57 = .ok (.iadd, 1) := by decide +kernel
theorem d_R_addEntry_58 : decode M_R_addEntry.2.1 58 = .ok (.iastore, 1) := by decide +kernel
theorem d_R_addEntry_59 : decode M_R_addEntry.2.1 59 = .ok (.return_, 1) := by decide +kernel
theorem d_R_expandMinors_0 : decode M_R_expandMinors.2.1 0 = .ok (.aload_n 0, 1) := by decide +kernel
theorem d_R_expandMinors_1 : decode M_R_expandMinors.2.1 1 = .ok (.getfield 24, 3) := by decide +kernel
theorem d_R_expandMinors_4 : decode M_R_expandMinors.2.1 4 = .ok (.lconst 0, 1) := by decide +kernel
theorem d_R_expandMinors_5 : decode M_R_expandMinors.2.1 5 = .ok (.invokestatic 87, 3) := by decide +kernel
theorem d_R_expandMinors_8 : decode M_R_expandMinors.2.1 8 = .ok (.aload_n 0, 1) := by decide +kernel
theorem d_R_expandMinors_9 : decode M_R_expandMinors.2.1 9 = .ok (.getfield 24, 3) := by decide +kernel
theorem d_R_expandMinors_12 : decode M_R_expandMinors.2.1 12 = .ok (.iconst (0), 1) := by decide +kernel
theorem d_R_expandMinors_13 : decode M_R_expandMinors.2.1 13 = .ok (.lconst 1, 1) := by decide +kernel
theorem d_R_expandMinors_14 : decode M_R_expandMinors.2.1 14 = .ok (.lastore, 1) := by decide +kernel
theorem d_R_expandMinors_15 : decode M_R_expandMinors.2.1 15 = .ok (.iconst (1), 1) := by decide +kernel
theorem d_R_expandMinors_16 : decode M_R_expandMinors.2.1 16 = .ok (.istore_n 2, 1) := by decide +kernel
theorem d_R_expandMinors_17 : decode M_R_expandMinors.2.1 17 = .ok (.iload_n 2, 1) := by decide +kernel
theorem d_R_expandMinors_18 : decode M_R_expandMinors.2.1 18 = .ok (.iconst (1), 1) := by decide +kernel
theorem d_R_expandMinors_19 : decode M_R_expandMinors.2.1 19 = .ok (.iload_n 1, 1) := by decide +kernel
theorem d_R_expandMinors_20 : decode M_R_expandMinors.2.1 20 = .ok (.ishl, 1) := by decide +kernel
theorem d_R_expandMinors_21 : decode M_R_expandMinors.2.1 21 = .ok (.if_icmp .ge (49), 3) := by decide +kernel
theorem d_R_expandMinors_24 : decode M_R_expandMinors.2.1 24 = .ok (.iload_n 2, 1) := by decide +kernel
theorem d_R_expandMinors_25 : decode M_R_expandMinors.2.1 25 = .ok (.invokestatic 90, 3) := by decide +kernel
theorem d_R_expandMinors_28 : decode M_R_expandMinors.2.1 28 = .ok (.iconst (1), 1) := by decide +kernel
theorem d_R_expandMinors_29 : decode M_R_expandMinors.2.1 29 = .ok (.isub, 1) := by decide +kernel
theorem d_R_expandMinors_30 : decode M_R_expandMinors.2.1 30 = .ok (.istore_n 3, 1) := by decide +kernel
theorem d_R_expandMinors_31 : decode M_R_expandMinors.2.1 31 = .ok (.iconst (0), 1) := by decide +kernel
theorem d_R_expandMinors_32 : decode M_R_expandMinors.2.1 32 = .ok (.istore 4, 2) := by decide +kernel
theorem d_R_expandMinors_34 : decode M_R_expandMinors.2.1 34 = .ok (.iload 4, 2) := by decide +kernel
theorem d_R_expandMinors_36 : decode M_R_expandMinors.2.1 36 = .ok (.iload_n 1, 1) := by decide +kernel
theorem d_R_expandMinors_37 : decode M_R_expandMinors.2.1 37 = .ok (.if_icmp .ge (27), 3) := by decide +kernel
theorem d_R_expandMinors_40 : decode M_R_expandMinors.2.1 40 = .ok (.iload_n 2, 1) := by decide +kernel
theorem d_R_expandMinors_41 : decode M_R_expandMinors.2.1 41 = .ok (.iload 4, 2) := by decide +kernel
theorem d_R_expandMinors_43 : decode M_R_expandMinors.2.1 43 = .ok (.ishr, 1) := by decide +kernel
theorem d_R_expandMinors_44 : decode M_R_expandMinors.2.1 44 = .ok (.iconst (1), 1) := by decide +kernel
theorem d_R_expandMinors_45 : decode M_R_expandMinors.2.1 45 = .ok (.iand, 1) := by decide +kernel
theorem d_R_expandMinors_46 : decode M_R_expandMinors.2.1 46 = .ok (.iconst (1), 1) := by decide +kernel
theorem d_R_expandMinors_47 : decode M_R_expandMinors.2.1 47 = .ok (.if_icmp .ne (11), 3) := by decide +kernel
theorem d_R_expandMinors_50 : decode M_R_expandMinors.2.1 50 = .ok (.aload_n 0, 1) := by decide +kernel
theorem d_R_expandMinors_51 : decode M_R_expandMinors.2.1 51 = .ok (.iload_n 2, 1) := by decide +kernel
theorem d_R_expandMinors_52 : decode M_R_expandMinors.2.1 52 = .ok (.iload_n 3, 1) := by decide +kernel
theorem d_R_expandMinors_53 : decode M_R_expandMinors.2.1 53 = .ok (.iload 4, 2) := by decide +kernel
theorem d_R_expandMinors_55 : decode M_R_expandMinors.2.1 55 = .ok (.invokevirtual 95, 3) := by decide +kernel
theorem d_R_expandMinors_58 : decode M_R_expandMinors.2.1 58 = .ok (.iinc 4 (1), 3) := by decide +kernel
theorem d_R_expandMinors_61 : decode M_R_expandMinors.2.1 61 = .ok (.goto (-27), 3) := by decide +kernel
theorem d_R_expandMinors_64 : decode M_R_expandMinors.2.1 64 = .ok (.iinc 2 (1), 3) := by decide +kernel
theorem d_R_expandMinors_67 : decode M_R_expandMinors.2.1 67 = .ok (.goto (-50), 3) := by decide +kernel
theorem d_R_expandMinors_70 : decode M_R_expandMinors.2.1 70 = .ok (.return_, 1) := by decide +kernel
theorem d_R_addProduct_0 : decode M_R_addProduct.2.1 0 = .ok (.iload_n 1, 1) := by decide +kernel
theorem d_R_addProduct_1 : decode M_R_addProduct.2.1 1 = .ok (.iload_n 3, 1) := by decide +kernel
theorem d_R_addProduct_2 : decode M_R_addProduct.2.1 2 = .ok (.iconst (1), 1) := by decide +kernel
theorem d_R_addProduct_3 : decode M_R_addProduct.2.1 3 = .ok (.iadd, 1) := by decide +kernel
theorem d_R_addProduct_4 : decode M_R_addProduct.2.1 4 = .ok (.ishr, 1) := by decide +kernel
theorem d_R_addProduct_5 : decode M_R_addProduct.2.1 5 = .ok (.invokestatic 90, 3) := by decide +kernel
theorem d_R_addProduct_8 : decode M_R_addProduct.2.1 8 = .ok (.iconst (2), 1) := by decide +kernel
theorem d_R_addProduct_9 : decode M_R_addProduct.2.1 9 = .ok (.irem, 1) := by decide +kernel
theorem d_R_addProduct_10 : decode M_R_addProduct.2.1 10 = .ok (.ifCond .ne (7), 3) := by decide +kernel
theorem d_R_addProduct_13 : decode M_R_addProduct.2.1 13 = .ok (.iconst (1), 1) := by decide +kernel
theorem d_R_addProduct_14 : decode M_R_addProduct.2.1 14 = .ok (.goto (4), 3) := by decide +kernel
theorem d_R_addProduct_17 : decode M_R_addProduct.2.1 17 = .ok (.iconst (-1), 1) := by decide +kernel
theorem d_R_addProduct_18 : decode M_R_addProduct.2.1 18 = .ok (.istore 4, 2) := by decide +kernel
theorem d_R_addProduct_20 : decode M_R_addProduct.2.1 20 = .ok (.iload 4, 2) := by decide +kernel
theorem d_R_addProduct_22 : decode M_R_addProduct.2.1 22 = .ok (.aload_n 0, 1) := by decide +kernel
theorem d_R_addProduct_23 : decode M_R_addProduct.2.1 23 = .ok (.getfield 18, 3) := by decide +kernel
theorem d_R_addProduct_26 : decode M_R_addProduct.2.1 26 = .ok (.iload_n 2, 1) := by decide +kernel
theorem d_R_addProduct_27 : decode M_R_addProduct.2.1 27 = .ok (.bipush (8), 2) := by decide +kernel
theorem d_R_addProduct_29 : decode M_R_addProduct.2.1 29 = .ok (.imul, 1) := by decide +kernel
theorem d_R_addProduct_30 : decode M_R_addProduct.2.1 30 = .ok (.iload_n 3, 1) := by decide +kernel
theorem d_R_addProduct_31 : decode M_R_addProduct.2.1 31 = .ok (.iadd, 1) := by decide +kernel
theorem d_R_addProduct_32 : decode M_R_addProduct.2.1 32 = .ok (.iaload, 1) := by decide +kernel
theorem d_R_addProduct_33 : decode M_R_addProduct.2.1 33 = .ok (.imul, 1) := by decide +kernel
theorem d_R_addProduct_34 : decode M_R_addProduct.2.1 34 = .ok (.i2l, 1) := by decide +kernel
theorem d_R_addProduct_35 : decode M_R_addProduct.2.1 35 = .ok (.lstore 5, 2) := by decide +kernel
theorem d_R_addProduct_37 : decode M_R_addProduct.2.1 37 = .ok (.iload 4, 2) := by decide +kernel
theorem d_R_addProduct_39 : decode M_R_addProduct.2.1 39 = .ok (.aload_n 0, 1) := by decide +kernel
theorem d_R_addProduct_40 : decode M_R_addProduct.2.1 40 = .ok (.getfield 21, 3) := by decide +kernel
theorem d_R_addProduct_43 : decode M_R_addProduct.2.1 43 = .ok (.iload_n 2, 1) := by decide +kernel
theorem d_R_addProduct_44 : decode M_R_addProduct.2.1 44 = .ok (.bipush (8), 2) := by decide +kernel
theorem d_R_addProduct_46 : decode M_R_addProduct.2.1 46 = .ok (.imul, 1) := by decide +kernel
theorem d_R_addProduct_47 : decode M_R_addProduct.2.1 47 = .ok (.iload_n 3, 1) := by decide +kernel
theorem d_R_addProduct_48 : decode M_R_addProduct.2.1 48 = .ok (.iadd, 1) := by decide +kernel
theorem d_R_addProduct_49 : decode M_R_addProduct.2.1 49 = .ok (.iaload, 1) := by decide +kernel
theorem d_R_addProduct_50 : decode M_R_addProduct.2.1 50 = .ok (.imul, 1) := by decide +kernel
theorem d_R_addProduct_51 : decode M_R_addProduct.2.1 51 = .ok (.i2l, 1) := by decide +kernel
theorem d_R_addProduct_52 : decode M_R_addProduct.2.1 52 = .ok (.lstore 7, 2) := by decide +kernel
theorem d_R_addProduct_54 : decode M_R_addProduct.2.1 54 = .ok (.iload_n 1, 1) := by decide +kernel
theorem d_R_addProduct_55 : decode M_R_addProduct.2.1 55 = .ok (.bipush (9), 2) := by decide +kernel
theorem d_R_addProduct_57 : decode M_R_addProduct.2.1 57 = .ok (.imul, 1) := by decide +kernel
theorem d_R_addProduct_58 : decode M_R_addProduct.2.1 58 = .ok (.istore 9, 2) := by decide +kernel
theorem d_R_addProduct_60 : decode M_R_addProduct.2.1 60 = .ok (.iload_n 1, 1) := by decide +kernel
theorem d_R_addProduct_61 : decode M_R_addProduct.2.1 61 = .ok (.iconst (1), 1) := by decide +kernel
theorem d_R_addProduct_62 : decode M_R_addProduct.2.1 62 = .ok (.iload_n 3, 1) := by decide +kernel
theorem d_R_addProduct_63 : decode M_R_addProduct.2.1 63 = .ok (.ishl, 1) := by decide +kernel
theorem d_R_addProduct_64 : decode M_R_addProduct.2.1 64 = .ok (.ixor, 1) := by decide +kernel
theorem d_R_addProduct_65 : decode M_R_addProduct.2.1 65 = .ok (.bipush (9), 2) := by decide +kernel
theorem d_R_addProduct_67 : decode M_R_addProduct.2.1 67 = .ok (.imul, 1) := by decide +kernel
theorem d_R_addProduct_68 : decode M_R_addProduct.2.1 68 = .ok (.istore 10, 2) := by decide +kernel
theorem d_R_addProduct_70 : decode M_R_addProduct.2.1 70 = .ok (.iconst (0), 1) := by decide +kernel
theorem d_R_addProduct_71 : decode M_R_addProduct.2.1 71 = .ok (.istore 11, 2) := by decide +kernel
theorem d_R_addProduct_73 : decode M_R_addProduct.2.1 73 = .ok (.iload 11, 2) := by decide +kernel
theorem d_R_addProduct_75 : decode M_R_addProduct.2.1 75 = .ok (.iload_n 2, 1) := by decide +kernel
theorem d_R_addProduct_76 : decode M_R_addProduct.2.1 76 = .ok (.if_icmp .gt (63), 3) := by decide +kernel
theorem d_R_addProduct_79 : decode M_R_addProduct.2.1 79 = .ok (.aload_n 0, 1) := by decide +kernel
theorem d_R_addProduct_80 : decode M_R_addProduct.2.1 80 = .ok (.getfield 24, 3) := by decide +kernel
theorem d_R_addProduct_83 : decode M_R_addProduct.2.1 83 = .ok (.iload 9, 2) := by decide +kernel
theorem d_R_addProduct_85 : decode M_R_addProduct.2.1 85 = .ok (.iload 11, 2) := by decide +kernel
theorem d_R_addProduct_87 : decode M_R_addProduct.2.1 87 = .ok (.iadd, 1) := by decide +kernel
theorem d_R_addProduct_88 : decode M_R_addProduct.2.1 88 = .ok (.dup2, 1) := by decide +kernel
theorem d_R_addProduct_89 : decode M_R_addProduct.2.1 89 = .ok (.laload, 1) := by decide +kernel
theorem d_R_addProduct_90 : decode M_R_addProduct.2.1 90 = .ok (.lload 5, 2) := by decide +kernel
theorem d_R_addProduct_92 : decode M_R_addProduct.2.1 92 = .ok (.aload_n 0, 1) := by decide +kernel
theorem d_R_addProduct_93 : decode M_R_addProduct.2.1 93 = .ok (.getfield 24, 3) := by decide +kernel
theorem d_R_addProduct_96 : decode M_R_addProduct.2.1 96 = .ok (.iload 10, 2) := by decide +kernel
theorem d_R_addProduct_98 : decode M_R_addProduct.2.1 98 = .ok (.iload 11, 2) := by decide +kernel
theorem d_R_addProduct_100 : decode M_R_addProduct.2.1 100 = .ok (.iadd, 1) := by decide +kernel
theorem d_R_addProduct_101 : decode M_R_addProduct.2.1 101 = .ok (.laload, 1) := by decide +kernel
theorem d_R_addProduct_102 : decode M_R_addProduct.2.1 102 = .ok (.lmul, 1) := by decide +kernel
theorem d_R_addProduct_103 : decode M_R_addProduct.2.1 103 = .ok (.ladd, 1) := by decide +kernel
theorem d_R_addProduct_104 : decode M_R_addProduct.2.1 104 = .ok (.lastore, 1) := by decide +kernel
theorem d_R_addProduct_105 : decode M_R_addProduct.2.1 105 = .ok (.aload_n 0, 1) := by decide +kernel
theorem d_R_addProduct_106 : decode M_R_addProduct.2.1 106 = .ok (.getfield 24, 3) := by decide +kernel
theorem d_R_addProduct_109 : decode M_R_addProduct.2.1 109 = .ok (.iload 9, 2) := by decide +kernel
theorem d_R_addProduct_111 : decode M_R_addProduct.2.1 111 = .ok (.iload 11, 2) := by decide +kernel
theorem d_R_addProduct_113 : decode M_R_addProduct.2.1 113 = .ok (.iadd, 1) := by decide +kernel
theorem d_R_addProduct_114 : decode M_R_addProduct.2.1 114 = .ok (.iconst (1), 1) := by decide +kernel
theorem d_R_addProduct_115 : decode M_R_addProduct.2.1 115 = .ok (.iadd, 1) := by decide +kernel
theorem d_R_addProduct_116 : decode M_R_addProduct.2.1 116 = .ok (.dup2, 1) := by decide +kernel
theorem d_R_addProduct_117 : decode M_R_addProduct.2.1 117 = .ok (.laload, 1) := by decide +kernel
theorem d_R_addProduct_118 : decode M_R_addProduct.2.1 118 = .ok (.lload 7, 2) := by decide +kernel
theorem d_R_addProduct_120 : decode M_R_addProduct.2.1 120 = .ok (.aload_n 0, 1) := by decide +kernel
theorem d_R_addProduct_121 : decode M_R_addProduct.2.1 121 = .ok (.getfield 24, 3) := by decide +kernel
theorem d_R_addProduct_124 : decode M_R_addProduct.2.1 124 = .ok (.iload 10, 2) := by decide +kernel
theorem d_R_addProduct_126 : decode M_R_addProduct.2.1 126 = .ok (.iload 11, 2) := by decide +kernel
theorem d_R_addProduct_128 : decode M_R_addProduct.2.1 128 = .ok (.iadd, 1) := by decide +kernel
theorem d_R_addProduct_129 : decode M_R_addProduct.2.1 129 = .ok (.laload, 1) := by decide +kernel
theorem d_R_addProduct_130 : decode M_R_addProduct.2.1 130 = .ok (.lmul, 1) := by decide +kernel
theorem d_R_addProduct_131 : decode M_R_addProduct.2.1 131 = .ok (.ladd, 1) := by decide +kernel
theorem d_R_addProduct_132 : decode M_R_addProduct.2.1 132 = .ok (.lastore, 1) := by decide +kernel
theorem d_R_addProduct_133 : decode M_R_addProduct.2.1 133 = .ok (.iinc 11 (1), 3) := by decide +kernel
theorem d_R_addProduct_136 : decode M_R_addProduct.2.1 136 = .ok (.goto (-63), 3) := by decide +kernel
theorem d_R_addProduct_139 : decode M_R_addProduct.2.1 139 = .ok (.return_, 1) := by decide +kernel
theorem d_R_normalCoefficient_0 : decode M_R_normalCoefficient.2.1 0 = .ok (.iconst (0), 1) := by decide +kernel
theorem d_R_normalCoefficient_1 : decode M_R_normalCoefficient.2.1 1 = .ok (.istore_n 3, 1) := by decide +kernel
theorem d_R_normalCoefficient_2 : decode M_R_normalCoefficient.2.1 2 = .ok (.iload_n 3, 1) := by decide +kernel
theorem d_R_normalCoefficient_3 : decode M_R_normalCoefficient.2.1 3 = .ok (.bipush (8), 2) := by decide +kernel
theorem d_R_normalCoefficient_5 : decode M_R_normalCoefficient.2.1 5 = .ok (.if_icmp .ge (22), 3) := by decide +kernel
theorem d_R_normalCoefficient_8 : decode M_R_normalCoefficient.2.1 8 = .ok (.aload_n 0, 1) := by decide +kernel
theorem d_R_normalCoefficient_9 : decode M_R_normalCoefficient.2.1 9 = .ok (.getfield 24, 3) := by decide +kernel
theorem d_R_normalCoefficient_12 : decode M_R_normalCoefficient.2.1 12 = .ok (.iload_n 1, 1) := by decide +kernel
theorem d_R_normalCoefficient_13 : decode M_R_normalCoefficient.2.1 13 = .ok (.iload_n 3, 1) := by decide +kernel
theorem d_R_normalCoefficient_14 : decode M_R_normalCoefficient.2.1 14 = .ok (.iadd, 1) := by decide +kernel
theorem d_R_normalCoefficient_15 : decode M_R_normalCoefficient.2.1 15 = .ok (.laload, 1) := by decide +kernel
theorem d_R_normalCoefficient_16 : decode M_R_normalCoefficient.2.1 16 = .ok (.lconst 0, 1) := by decide +kernel
theorem d_R_normalCoefficient_17 : decode M_R_normalCoefficient.2.1 17 = .ok (.lcmp, 1) := by decide +kernel
theorem d_R_normalCoefficient_18 : decode M_R_normalCoefficient.2.1 18 = .ok (.ifCond .ne (9), 3) := by decide +kernel
theorem d_R_normalCoefficient_21 : decode M_R_normalCoefficient.2.1 21 = .ok (.iinc 3 (1), 3) := by decide +kernel
theorem d_R_normalCoefficient_24 : decode M_R_normalCoefficient.2.1 24 = .ok (.goto (-22), 3) := by decide +kernel
theorem d_R_normalCoefficient_27 : decode M_R_normalCoefficient.2.1 27 = .ok (.bipush (8), 2) := by decide +kernel
theorem d_R_normalCoefficient_29 : decode M_R_normalCoefficient.2.1 29 = .ok (.istore 4, 2) := by decide +kernel
theorem d_R_normalCoefficient_31 : decode M_R_normalCoefficient.2.1 31 = .ok (.iload 4, 2) := by decide +kernel
theorem d_R_normalCoefficient_33 : decode M_R_normalCoefficient.2.1 33 = .ok (.ifCond .le (23), 3) := by decide +kernel
theorem d_R_normalCoefficient_36 : decode M_R_normalCoefficient.2.1 36 = .ok (.aload_n 0, 1) := by decide +kernel
theorem d_R_normalCoefficient_37 : decode M_R_normalCoefficient.2.1 37 = .ok (.getfield 24, 3) := by decide +kernel
theorem d_R_normalCoefficient_40 : decode M_R_normalCoefficient.2.1 40 = .ok (.iload_n 1, 1) := by decide +kernel
theorem d_R_normalCoefficient_41 : decode M_R_normalCoefficient.2.1 41 = .ok (.iload 4, 2) := by decide +kernel
theorem d_R_normalCoefficient_43 : decode M_R_normalCoefficient.2.1 43 = .ok (.iadd, 1) := by decide +kernel
theorem d_R_normalCoefficient_44 : decode M_R_normalCoefficient.2.1 44 = .ok (.laload, 1) := by decide +kernel
theorem d_R_normalCoefficient_45 : decode M_R_normalCoefficient.2.1 45 = .ok (.lconst 0, 1) := by decide +kernel
theorem d_R_normalCoefficient_46 : decode M_R_normalCoefficient.2.1 46 = .ok (.lcmp, 1) := by decide +kernel
theorem d_R_normalCoefficient_47 : decode M_R_normalCoefficient.2.1 47 = .ok (.ifCond .ne (9), 3) := by decide +kernel
theorem d_R_normalCoefficient_50 : decode M_R_normalCoefficient.2.1 50 = .ok (.iinc 4 (-1), 3) := by decide +kernel
theorem d_R_normalCoefficient_53 : decode M_R_normalCoefficient.2.1 53 = .ok (.goto (-22), 3) := by decide +kernel
theorem d_R_normalCoefficient_56 : decode M_R_normalCoefficient.2.1 56 = .ok (.iload_n 3, 1) := by decide +kernel
theorem d_R_normalCoefficient_57 : decode M_R_normalCoefficient.2.1 57 = .ok (.iload_n 2, 1) := by decide +kernel
theorem d_R_normalCoefficient_58 : decode M_R_normalCoefficient.2.1 58 = .ok (.iadd, 1) := by decide +kernel
theorem d_R_normalCoefficient_59 : decode M_R_normalCoefficient.2.1 59 = .ok (.iload 4, 2) := by decide +kernel
theorem d_R_normalCoefficient_61 : decode M_R_normalCoefficient.2.1 61 = .ok (.if_icmp .le (5), 3) := by decide +kernel
theorem d_R_normalCoefficient_64 : decode M_R_normalCoefficient.2.1 64 = .ok (.lconst 0, 1) := by decide +kernel
theorem d_R_normalCoefficient_65 : decode M_R_normalCoefficient.2.1 65 = .ok (.lreturn, 1) := by decide +kernel
theorem d_R_normalCoefficient_66 : decode M_R_normalCoefficient.2.1 66 = .ok (.aload_n 0, 1) := by decide +kernel
theorem d_R_normalCoefficient_67 : decode M_R_normalCoefficient.2.1 67 = .ok (.getfield 24, 3) := by decide +kernel
theorem d_R_normalCoefficient_70 : decode M_R_normalCoefficient.2.1 70 = .ok (.iload_n 1, 1) := by decide +kernel
theorem d_R_normalCoefficient_71 : decode M_R_normalCoefficient.2.1 71 = .ok (.iload_n 3, 1) := by decide +kernel
theorem d_R_normalCoefficient_72 : decode M_R_normalCoefficient.2.1 72 = .ok (.iadd, 1) := by decide +kernel
theorem d_R_normalCoefficient_73 : decode M_R_normalCoefficient.2.1 73 = .ok (.iload_n 2, 1) := by decide +kernel
theorem d_R_normalCoefficient_74 : decode M_R_normalCoefficient.2.1 74 = .ok (.iadd, 1) := by decide +kernel
theorem d_R_normalCoefficient_75 : decode M_R_normalCoefficient.2.1 75 = .ok (.laload, 1) := by decide +kernel
theorem d_R_normalCoefficient_76 : decode M_R_normalCoefficient.2.1 76 = .ok (.lstore 5, 2) := by decide +kernel
theorem d_R_normalCoefficient_78 : decode M_R_normalCoefficient.2.1 78 = .ok (.aload_n 0, 1) := by decide +kernel
theorem d_R_normalCoefficient_79 : decode M_R_normalCoefficient.2.1 79 = .ok (.getfield 24, 3) := by decide +kernel
theorem d_R_normalCoefficient_82 : decode M_R_normalCoefficient.2.1 82 = .ok (.iload_n 1, 1) := by decide +kernel
theorem d_R_normalCoefficient_83 : decode M_R_normalCoefficient.2.1 83 = .ok (.iload 4, 2) := by decide +kernel
theorem d_R_normalCoefficient_85 : decode M_R_normalCoefficient.2.1 85 = .ok (.iadd, 1) := by decide +kernel
theorem d_R_normalCoefficient_86 : decode M_R_normalCoefficient.2.1 86 = .ok (.laload, 1) := by decide +kernel
theorem d_R_normalCoefficient_87 : decode M_R_normalCoefficient.2.1 87 = .ok (.lconst 0, 1) := by decide +kernel
theorem d_R_normalCoefficient_88 : decode M_R_normalCoefficient.2.1 88 = .ok (.lcmp, 1) := by decide +kernel
theorem d_R_normalCoefficient_89 : decode M_R_normalCoefficient.2.1 89 = .ok (.ifCond .ge (9), 3) := by decide +kernel
theorem d_R_normalCoefficient_92 : decode M_R_normalCoefficient.2.1 92 = .ok (.lload 5, 2) := by decide +kernel
theorem d_R_normalCoefficient_94 : decode M_R_normalCoefficient.2.1 94 = .ok (.lneg, 1) := by decide +kernel
theorem d_R_normalCoefficient_95 : decode M_R_normalCoefficient.2.1 95 = .ok (.goto (5), 3) := by decide +kernel
theorem d_R_normalCoefficient_98 : decode M_R_normalCoefficient.2.1 98 = .ok (.lload 5, 2) := by decide +kernel
theorem d_R_normalCoefficient_100 : decode M_R_normalCoefficient.2.1 100 = .ok (.lreturn, 1) := by decide +kernel
theorem d_B_init_0 : decode M_B_init.2.1 0 = .ok (.aload_n 0, 1) := by decide +kernel
theorem d_B_init_1 : decode M_B_init.2.1 1 = .ok (.invokespecial 5, 3) := by decide +kernel
theorem d_B_init_4 : decode M_B_init.2.1 4 = .ok (.aload_n 0, 1) := by decide +kernel
theorem d_B_init_5 : decode M_B_init.2.1 5 = .ok (.bipush (32), 2) := by decide +kernel
theorem d_B_init_7 : decode M_B_init.2.1 7 = .ok (.newarray .int, 2) := by decide +kernel
theorem d_B_init_9 : decode M_B_init.2.1 9 = .ok (.putfield 11, 3) := by decide +kernel
theorem d_B_init_12 : decode M_B_init.2.1 12 = .ok (.aload_n 0, 1) := by decide +kernel
theorem d_B_init_13 : decode M_B_init.2.1 13 = .ok (.sipush (261), 3) := by decide +kernel
theorem d_B_init_16 : decode M_B_init.2.1 16 = .ok (.newarray .int, 2) := by decide +kernel
theorem d_B_init_18 : decode M_B_init.2.1 18 = .ok (.putfield 15, 3) := by decide +kernel
theorem d_B_init_21 : decode M_B_init.2.1 21 = .ok (.aload_n 0, 1) := by decide +kernel
theorem d_B_init_22 : decode M_B_init.2.1 22 = .ok (.bipush (125), 2) := by decide +kernel
theorem d_B_init_24 : decode M_B_init.2.1 24 = .ok (.newarray .long, 2) := by decide +kernel
theorem d_B_init_26 : decode M_B_init.2.1 26 = .ok (.putfield 18, 3) := by decide +kernel
theorem d_B_init_29 : decode M_B_init.2.1 29 = .ok (.return_, 1) := by decide +kernel
theorem d_B_coefficient_0 : decode M_B_coefficient.2.1 0 = .ok (.lload_n 3, 1) := by decide +kernel
theorem d_B_coefficient_1 : decode M_B_coefficient.2.1 1 = .ok (.ldc2_w 22, 3) := by decide +kernel
theorem d_B_coefficient_4 : decode M_B_coefficient.2.1 4 = .ok (.lcmp, 1) := by decide +kernel
theorem d_B_coefficient_5 : decode M_B_coefficient.2.1 5 = .ok (.ifCond .lt (11), 3) := by decide +kernel
theorem d_B_coefficient_8 : decode M_B_coefficient.2.1 8 = .ok (.lload_n 3, 1) := by decide +kernel
theorem d_B_coefficient_9 : decode M_B_coefficient.2.1 9 = .ok (.ldc2_w 24, 3) := by decide +kernel
theorem d_B_coefficient_12 : decode M_B_coefficient.2.1 12 = .ok (.lcmp, 1) := by decide +kernel
theorem d_B_coefficient_13 : decode M_B_coefficient.2.1 13 = .ok (.ifCond .le (5), 3) := by decide +kernel
theorem d_B_coefficient_16 : decode M_B_coefficient.2.1 16 = .ok (.lconst 0, 1) := by decide +kernel
theorem d_B_coefficient_17 : decode M_B_coefficient.2.1 17 = .ok (.lreturn, 1) := by decide +kernel
theorem d_B_coefficient_18 : decode M_B_coefficient.2.1 18 = .ok (.aload_n 0, 1) := by decide +kernel
theorem d_B_coefficient_19 : decode M_B_coefficient.2.1 19 = .ok (.aload_n 1, 1) := by decide +kernel
theorem d_B_coefficient_20 : decode M_B_coefficient.2.1 20 = .ok (.iload_n 2, 1) := by decide +kernel
theorem d_B_coefficient_21 : decode M_B_coefficient.2.1 21 = .ok (.invokevirtual 26, 3) := by decide +kernel
theorem d_B_coefficient_24 : decode M_B_coefficient.2.1 24 = .ok (.aload_n 0, 1) := by decide +kernel
theorem d_B_coefficient_25 : decode M_B_coefficient.2.1 25 = .ok (.getfield 18, 3) := by decide +kernel
theorem d_B_coefficient_28 : decode M_B_coefficient.2.1 28 = .ok (.lconst 0, 1) := by decide +kernel
theorem d_B_coefficient_29 : decode M_B_coefficient.2.1 29 = .ok (.invokestatic 30, 3) := by decide +kernel
theorem d_B_coefficient_32 : decode M_B_coefficient.2.1 32 = .ok (.bipush (28), 2) := by decide +kernel
theorem d_B_coefficient_34 : decode M_B_coefficient.2.1 34 = .ok (.istore 5, 2) := by decide +kernel
theorem d_B_coefficient_36 : decode M_B_coefficient.2.1 36 = .ok (.iload 5, 2) := by decide +kernel
theorem d_B_coefficient_38 : decode M_B_coefficient.2.1 38 = .ok (.iconst (1), 1) := by decide +kernel
theorem d_B_coefficient_39 : decode M_B_coefficient.2.1 39 = .ok (.if_icmp .lt (23), 3) := by decide +kernel
theorem d_B_coefficient_42 : decode M_B_coefficient.2.1 42 = .ok (.aload_n 0, 1) := by decide +kernel
theorem d_B_coefficient_43 : decode M_B_coefficient.2.1 43 = .ok (.invokevirtual 36, 3) := by decide +kernel
theorem d_B_coefficient_46 : decode M_B_coefficient.2.1 46 = .ok (.aload_n 0, 1) := by decide +kernel
theorem d_B_coefficient_47 : decode M_B_coefficient.2.1 47 = .ok (.iload 5, 2) := by decide +kernel
theorem d_B_coefficient_49 : decode M_B_coefficient.2.1 49 = .ok (.aload_n 1, 1) := by decide +kernel
theorem d_B_coefficient_50 : decode M_B_coefficient.2.1 50 = .ok (.invokevirtual 39, 3) := by decide +kernel
theorem d_B_coefficient_53 : decode M_B_coefficient.2.1 53 = .ok (.invokevirtual 45, 3) := by decide +kernel
theorem d_B_coefficient_56 : decode M_B_coefficient.2.1 56 = .ok (.iinc 5 (-1), 3) := by decide +kernel
theorem d_B_coefficient_59 : decode M_B_coefficient.2.1 59 = .ok (.goto (-23), 3) := by decide +kernel
theorem d_B_coefficient_62 : decode M_B_coefficient.2.1 62 = .ok (.aload_n 0, 1) := by decide +kernel
theorem d_B_coefficient_63 : decode M_B_coefficient.2.1 63 = .ok (.getfield 18, 3) := by decide +kernel
theorem d_B_coefficient_66 : decode M_B_coefficient.2.1 66 = .ok (.bipush (62), 2) := by decide +kernel
theorem d_B_coefficient_68 : decode M_B_coefficient.2.1 68 = .ok (.lload_n 3, 1) := by decide +kernel
theorem d_B_coefficient_69 : decode M_B_coefficient.2.1 69 = .ok (.l2i, 1) := by decide +kernel
theorem d_B_coefficient_70 : decode M_B_coefficient.2.1 70 = .ok (.iadd, 1) := by decide +kernel
theorem d_B_coefficient_71 : decode M_B_coefficient.2.1 71 = .ok (.laload, 1) := by decide +kernel
theorem d_B_coefficient_72 : decode M_B_coefficient.2.1 72 = .ok (.lreturn, 1) := by decide +kernel
theorem d_B_tallyStates_0 : decode M_B_tallyStates.2.1 0 = .ok (.aload_n 0, 1) := by decide +kernel
theorem d_B_tallyStates_1 : decode M_B_tallyStates.2.1 1 = .ok (.getfield 15, 3) := by decide +kernel
theorem d_B_tallyStates_4 : decode M_B_tallyStates.2.1 4 = .ok (.iconst (0), 1) := by decide +kernel
theorem d_B_tallyStates_5 : decode M_B_tallyStates.2.1 5 = .ok (.invokestatic 49, 3) := by decide +kernel
theorem d_B_tallyStates_8 : decode M_B_tallyStates.2.1 8 = .ok (.iconst (0), 1) := by decide +kernel
theorem d_B_tallyStates_9 : decode M_B_tallyStates.2.1 9 = .ok (.istore_n 3, 1) := by decide +kernel
theorem d_B_tallyStates_10 : decode M_B_tallyStates.2.1 10 = .ok (.iload_n 3, 1) := by decide +kernel
theorem d_B_tallyStates_11 : decode M_B_tallyStates.2.1 11 = .ok (.aload_n 1, 1) := by decide +kernel
theorem d_B_tallyStates_12 : decode M_B_tallyStates.2.1 12 = .ok (.invokevirtual 52, 3) := by decide +kernel
theorem d_B_tallyStates_15 : decode M_B_tallyStates.2.1 15 = .ok (.if_icmp .ge (20), 3) := by decide +kernel
theorem d_B_tallyStates_18 : decode M_B_tallyStates.2.1 18 = .ok (.aload_n 0, 1) := by decide +kernel
theorem d_B_tallyStates_19 : decode M_B_tallyStates.2.1 19 = .ok (.getfield 11, 3) := by decide +kernel
theorem d_B_tallyStates_22 : decode M_B_tallyStates.2.1 22 = .ok (.iload_n 3, 1) := by decide +kernel
theorem d_B_tallyStates_23 : decode M_B_tallyStates.2.1 23 = .ok (.aload_n 1, 1) := by decide +kernel
theorem d_B_tallyStates_24 : decode M_B_tallyStates.2.1 24 = .ok (.iload_n 3, 1) := by decide +kernel
theorem d_B_tallyStates_25 : decode M_B_tallyStates.2.1 25 = .ok (.invokevirtual 55, 3) := by decide +kernel
theorem d_B_tallyStates_28 : decode M_B_tallyStates.2.1 28 = .ok (.iastore, 1) := by decide +kernel
theorem d_B_tallyStates_29 : decode M_B_tallyStates.2.1 29 = .ok (.iinc 3 (1), 3) := by decide +kernel
theorem d_B_tallyStates_32 : decode M_B_tallyStates.2.1 32 = .ok (.goto (-22), 3) := by decide +kernel
theorem d_B_tallyStates_35 : decode M_B_tallyStates.2.1 35 = .ok (.iconst (0), 1) := by decide +kernel
theorem d_B_tallyStates_36 : decode M_B_tallyStates.2.1 36 = .ok (.istore_n 3, 1) := by decide +kernel
theorem d_B_tallyStates_37 : decode M_B_tallyStates.2.1 37 = .ok (.iload_n 3, 1) := by decide +kernel
theorem d_B_tallyStates_38 : decode M_B_tallyStates.2.1 38 = .ok (.iconst (1), 1) := by decide +kernel
theorem d_B_tallyStates_39 : decode M_B_tallyStates.2.1 39 = .ok (.aload_n 1, 1) := by decide +kernel
theorem d_B_tallyStates_40 : decode M_B_tallyStates.2.1 40 = .ok (.invokevirtual 39, 3) := by decide +kernel
theorem d_B_tallyStates_43 : decode M_B_tallyStates.2.1 43 = .ok (.ishl, 1) := by decide +kernel
theorem d_B_tallyStates_44 : decode M_B_tallyStates.2.1 44 = .ok (.if_icmp .ge (48), 3) := by decide +kernel
theorem d_B_tallyStates_47 : decode M_B_tallyStates.2.1 47 = .ok (.aload_n 0, 1) := by decide +kernel
theorem d_B_tallyStates_48 : decode M_B_tallyStates.2.1 48 = .ok (.iload_n 3, 1) := by decide +kernel
theorem d_B_tallyStates_49 : decode M_B_tallyStates.2.1 49 = .ok (.aload_n 1, 1) := by decide +kernel
theorem d_B_tallyStates_50 : decode M_B_tallyStates.2.1 50 = .ok (.invokevirtual 52, 3) := by decide +kernel
theorem d_B_tallyStates_53 : decode M_B_tallyStates.2.1 53 = .ok (.invokevirtual 59, 3) := by decide +kernel
theorem d_B_tallyStates_56 : decode M_B_tallyStates.2.1 56 = .ok (.iload_n 2, 1) := by decide +kernel
theorem d_B_tallyStates_57 : decode M_B_tallyStates.2.1 57 = .ok (.iadd, 1) := by decide +kernel
theorem d_B_tallyStates_58 : decode M_B_tallyStates.2.1 58 = .ok (.istore 4, 2) := by decide +kernel
theorem d_B_tallyStates_60 : decode M_B_tallyStates.2.1 60 = .ok (.iload 4, 2) := by decide +kernel
theorem d_B_tallyStates_62 : decode M_B_tallyStates.2.1 62 = .ok (.bipush (28), 2) := by decide +kernel
theorem d_B_tallyStates_64 : decode M_B_tallyStates.2.1 64 = .ok (.if_icmp .gt (22), 3) := by decide +kernel
theorem d_B_tallyStates_67 : decode M_B_tallyStates.2.1 67 = .ok (.aload_n 0, 1) := by decide +kernel
theorem d_B_tallyStates_68 : decode M_B_tallyStates.2.1 68 = .ok (.getfield 15, 3) := by decide +kernel
theorem d_B_tallyStates_71 : decode M_B_tallyStates.2.1 71 = .ok (.iload 4, 2) := by decide +kernel
theorem d_B_tallyStates_73 : decode M_B_tallyStates.2.1 73 = .ok (.bipush (9), 2) := by decide +kernel
theorem d_B_tallyStates_75 : decode M_B_tallyStates.2.1 75 = .ok (.imul, 1) := by decide +kernel
theorem d_B_tallyStates_76 : decode M_B_tallyStates.2.1 76 = .ok (.iload_n 3, 1) := by decide +kernel
theorem d_B_tallyStates_77 : decode M_B_tallyStates.2.1 77 = .ok (.invokestatic 63, 3) := by decide +kernel
theorem d_B_tallyStates_80 : decode M_B_tallyStates.2.1 80 = .ok (.iadd, 1) := by decide +kernel
theorem d_B_tallyStates_81 : decode M_B_tallyStates.2.1 81 = .ok (.dup2, 1) := by decide +kernel
theorem d_B_tallyStates_82 : decode M_B_tallyStates.2.1 82 = .ok (.iaload, 1) := by decide +kernel
theorem d_B_tallyStates_83 : decode M_B_tallyStates.2.1 83 = .ok (.iconst (1), 1) := by decide +kernel
theorem d_B_tallyStates_84 : decode M_B_tallyStates.2.1 84 = .ok (.iadd, 1) := by decide +kernel
theorem d_B_tallyStates_85 : decode M_B_tallyStates.2.1 85 = .ok (.iastore, 1) := by decide +kernel
theorem d_B_tallyStates_86 : decode M_B_tallyStates.2.1 86 = .ok (.iinc 3 (1), 3) := by decide +kernel
theorem d_B_tallyStates_89 : decode M_B_tallyStates.2.1 89 = .ok (.goto (-52), 3) := by decide +kernel
theorem d_B_tallyStates_92 : decode M_B_tallyStates.2.1 92 = .ok (.return_, 1) := by decide +kernel
theorem d_B_curvesOf_0 : decode M_B_curvesOf.2.1 0 = .ok (.iconst (0), 1) := by decide +kernel
theorem d_B_curvesOf_1 : decode M_B_curvesOf.2.1 1 = .ok (.istore_n 3, 1) := by decide +kernel
theorem d_B_curvesOf_2 : decode M_B_curvesOf.2.1 2 = .ok (.iconst (0), 1) := by decide +kernel
theorem d_B_curvesOf_3 : decode M_B_curvesOf.2.1 3 = .ok (.istore 4, 2) := by decide +kernel
theorem d_B_curvesOf_5 : decode M_B_curvesOf.2.1 5 = .ok (.iconst (0), 1) := by decide +kernel
theorem d_B_curvesOf_6 : decode M_B_curvesOf.2.1 6 = .ok (.istore 5, 2) := by decide +kernel
theorem d_B_curvesOf_8 : decode M_B_curvesOf.2.1 8 = .ok (.iload 5, 2) := by decide +kernel
theorem d_B_curvesOf_10 : decode M_B_curvesOf.2.1 10 = .ok (.iload_n 2, 1) := by decide +kernel
theorem d_B_curvesOf_11 : decode M_B_curvesOf.2.1 11 = .ok (.if_icmp .ge (33), 3) := by decide +kernel
theorem d_B_curvesOf_14 : decode M_B_curvesOf.2.1 14 = .ok (.iload 4, 2) := by decide +kernel
theorem d_B_curvesOf_16 : decode M_B_curvesOf.2.1 16 = .ok (.iload 5, 2) := by decide +kernel
theorem d_B_curvesOf_18 : decode M_B_curvesOf.2.1 18 = .ok (.ishr, 1) := by decide +kernel
theorem d_B_curvesOf_19 : decode M_B_curvesOf.2.1 19 = .ok (.iconst (1), 1) := by decide +kernel
theorem d_B_curvesOf_20 : decode M_B_curvesOf.2.1 20 = .ok (.iand, 1) := by decide +kernel
theorem d_B_curvesOf_21 : decode M_B_curvesOf.2.1 21 = .ok (.ifCond .ne (17), 3) := by decide +kernel
theorem d_B_curvesOf_24 : decode M_B_curvesOf.2.1 24 = .ok (.iinc 3 (1), 3) := by decide +kernel
theorem d_B_curvesOf_27 : decode M_B_curvesOf.2.1 27 = .ok (.aload_n 0, 1) := by decide +kernel
theorem d_B_curvesOf_28 : decode M_B_curvesOf.2.1 28 = .ok (.iload 4, 2) := by decide +kernel
theorem d_B_curvesOf_30 : decode M_B_curvesOf.2.1 30 = .ok (.iload 5, 2) := by decide +kernel
theorem d_B_curvesOf_32 : decode M_B_curvesOf.2.1 32 = .ok (.iload_n 1, 1) := by decide +kernel
theorem d_B_curvesOf_33 : decode M_B_curvesOf.2.1 33 = .ok (.invokevirtual 68, 3) := by decide +kernel
theorem d_B_curvesOf_36 : decode M_B_curvesOf.2.1 36 = .ok (.istore 4, 2) := by decide +kernel
theorem d_B_curvesOf_38 : decode M_B_curvesOf.2.1 38 = .ok (.iinc 5 (1), 3) := by decide +kernel
theorem d_B_curvesOf_41 : decode M_B_curvesOf.2.1 41 = .ok (.goto (-33), 3) := by decide +kernel
theorem d_B_curvesOf_44 : decode M_B_curvesOf.2.1 44 = .ok (.iload_n 3, 1) := by decide +kernel
theorem d_B_curvesOf_45 : decode M_B_curvesOf.2.1 45 = .ok (.ireturn, 1) := by decide +kernel
theorem d_B_seenWithCurve_0 : decode M_B_seenWithCurve.2.1 0 = .ok (.iload_n 1, 1) := by decide +kernel
theorem d_B_seenWithCurve_1 : decode M_B_seenWithCurve.2.1 1 = .ok (.istore 4, 2) := by decide +kernel
theorem d_B_seenWithCurve_3 : decode M_B_seenWithCurve.2.1 3 = .ok (.iload_n 2, 1) := by decide +kernel
theorem d_B_seenWithCurve_4 : decode M_B_seenWithCurve.2.1 4 = .ok (.istore 5, 2) := by decide +kernel
theorem d_B_seenWithCurve_6 : decode M_B_seenWithCurve.2.1 6 = .ok (.iconst (0), 1) := by decide +kernel
theorem d_B_seenWithCurve_7 : decode M_B_seenWithCurve.2.1 7 = .ok (.istore 6, 2) := by decide +kernel
theorem d_B_seenWithCurve_9 : decode M_B_seenWithCurve.2.1 9 = .ok (.iload 6, 2) := by decide +kernel
theorem d_B_seenWithCurve_11 : decode M_B_seenWithCurve.2.1 11 = .ok (.bipush (32), 2) := by decide +kernel
theorem d_B_seenWithCurve_13 : decode M_B_seenWithCurve.2.1 13 = .ok (.if_icmp .ge (80), 3) := by decide +kernel
theorem d_B_seenWithCurve_16 : decode M_B_seenWithCurve.2.1 16 = .ok (.iload 4, 2) := by decide +kernel
theorem d_B_seenWithCurve_18 : decode M_B_seenWithCurve.2.1 18 = .ok (.iload 5, 2) := by decide +kernel
theorem d_B_seenWithCurve_20 : decode M_B_seenWithCurve.2.1 20 = .ok (.ishr, 1) := by decide +kernel
theorem d_B_seenWithCurve_21 : decode M_B_seenWithCurve.2.1 21 = .ok (.iconst (1), 1) := by decide +kernel
theorem d_B_seenWithCurve_22 : decode M_B_seenWithCurve.2.1 22 = .ok (.iand, 1) := by decide +kernel
theorem d_B_seenWithCurve_23 : decode M_B_seenWithCurve.2.1 23 = .ok (.ifCond .ne (70), 3) := by decide +kernel
theorem d_B_seenWithCurve_26 : decode M_B_seenWithCurve.2.1 26 = .ok (.aload_n 0, 1) := by decide +kernel
theorem d_B_seenWithCurve_27 : decode M_B_seenWithCurve.2.1 27 = .ok (.getfield 11, 3) := by decide +kernel
theorem d_B_seenWithCurve_30 : decode M_B_seenWithCurve.2.1 30 = .ok (.iload 5, 2) := by decide +kernel
theorem d_B_seenWithCurve_32 : decode M_B_seenWithCurve.2.1 32 = .ok (.iaload, 1) := by decide +kernel
theorem d_B_seenWithCurve_33 : decode M_B_seenWithCurve.2.1 33 = .ok (.istore 7, 2) := by decide +kernel
theorem d_B_seenWithCurve_35 : decode M_B_seenWithCurve.2.1 35 = .ok (.iload 4, 2) := by decide +kernel
theorem d_B_seenWithCurve_37 : decode M_B_seenWithCurve.2.1 37 = .ok (.iconst (1), 1) := by decide +kernel
theorem d_B_seenWithCurve_38 : decode M_B_seenWithCurve.2.1 38 = .ok (.iload 5, 2) := by decide +kernel
theorem d_B_seenWithCurve_40 : decode M_B_seenWithCurve.2.1 40 = .ok (.ishl, 1) := by decide +kernel
theorem d_B_seenWithCurve_41 : decode M_B_seenWithCurve.2.1 41 = .ok (.iconst (1), 1) := by decide +kernel
theorem d_B_seenWithCurve_42 : decode M_B_seenWithCurve.2.1 42 = .ok (.iload 7, 2) := by decide +kernel
theorem d_B_seenWithCurve_44 : decode M_B_seenWithCurve.2.1 44 = .ok (.ishl, 1) := by decide +kernel
theorem d_B_seenWithCurve_45 : decode M_B_seenWithCurve.2.1 45 = .ok (.ior, 1) := by decide +kernel
theorem d_B_seenWithCurve_46 : decode M_B_seenWithCurve.2.1 46 = .ok (.ior, 1) := by decide +kernel
theorem d_B_seenWithCurve_47 : decode M_B_seenWithCurve.2.1 47 = .ok (.istore 4, 2) := by decide +kernel
theorem d_B_seenWithCurve_49 : decode M_B_seenWithCurve.2.1 49 = .ok (.iload_n 3, 1) := by decide +kernel
theorem d_B_seenWithCurve_50 : decode M_B_seenWithCurve.2.1 50 = .ok (.iload 7, 2) := by decide +kernel
theorem d_B_seenWithCurve_52 : decode M_B_seenWithCurve.2.1 52 = .ok (.invokestatic 72, 3) := by decide +kernel
theorem d_B_seenWithCurve_55 : decode M_B_seenWithCurve.2.1 55 = .ok (.ishr, 1) := by decide +kernel
theorem d_B_seenWithCurve_56 : decode M_B_seenWithCurve.2.1 56 = .ok (.iconst (1), 1) := by decide +kernel
theorem d_B_seenWithCurve_57 : decode M_B_seenWithCurve.2.1 57 = .ok (.iand, 1) := by decide +kernel
theorem d_B_seenWithCurve_58 : decode M_B_seenWithCurve.2.1 58 = .ok (.iconst (1), 1) := by decide +kernel
theorem d_B_seenWithCurve_59 : decode M_B_seenWithCurve.2.1 59 = .ok (.if_icmp .ne (7), 3) := by decide +kernel
theorem d_B_seenWithCurve_62 : decode M_B_seenWithCurve.2.1 62 = .ok (.iconst (1), 1) := by decide +kernel
theorem d_B_seenWithCurve_63 : decode M_B_seenWithCurve.2.1 63 = .ok (.goto (4), 3) := by decide +kernel
theorem d_B_seenWithCurve_66 : decode M_B_seenWithCurve.2.1 66 = .ok (.iconst (0), 1) := by decide +kernel
theorem d_B_seenWithCurve_67 : decode M_B_seenWithCurve.2.1 67 = .ok (.istore 8, 2) := by decide +kernel
theorem d_B_seenWithCurve_69 : decode M_B_seenWithCurve.2.1 69 = .ok (.iload 8, 2) := by decide +kernel
theorem d_B_seenWithCurve_71 : decode M_B_seenWithCurve.2.1 71 = .ok (.ifCond .eq (10), 3) := by decide +kernel
theorem d_B_seenWithCurve_74 : decode M_B_seenWithCurve.2.1 74 = .ok (.iload 7, 2) := by decide +kernel
theorem d_B_seenWithCurve_76 : decode M_B_seenWithCurve.2.1 76 = .ok (.iconst (1), 1) := by decide +kernel
theorem d_B_seenWithCurve_77 : decode M_B_seenWithCurve.2.1 77 = .ok (.ixor, 1) := by decide +kernel
theorem d_B_seenWithCurve_78 : decode M_B_seenWithCurve.2.1 78 = .ok (.goto (7), 3) := by decide +kernel
theorem d_B_seenWithCurve_81 : decode M_B_seenWithCurve.2.1 81 = .ok (.iload 7, 2) := by decide +kernel
theorem d_B_seenWithCurve_83 : decode M_B_seenWithCurve.2.1 83 = .ok (.iconst (3), 1) := by decide +kernel
theorem d_B_seenWithCurve_84 : decode M_B_seenWithCurve.2.1 84 = .ok (.ixor, 1) := by decide +kernel
theorem d_B_seenWithCurve_85 : decode M_B_seenWithCurve.2.1 85 = .ok (.istore 5, 2) := by decide +kernel
theorem d_B_seenWithCurve_87 : decode M_B_seenWithCurve.2.1 87 = .ok (.iinc 6 (1), 3) := by decide +kernel
theorem d_B_seenWithCurve_90 : decode M_B_seenWithCurve.2.1 90 = .ok (.goto (-81), 3) := by decide +kernel
theorem d_B_seenWithCurve_93 : decode M_B_seenWithCurve.2.1 93 = .ok (.iload 4, 2) := by decide +kernel
theorem d_B_seenWithCurve_95 : decode M_B_seenWithCurve.2.1 95 = .ok (.ireturn, 1) := by decide +kernel
theorem d_B_multiplyByCurve_0 : decode M_B_multiplyByCurve.2.1 0 = .ok (.lconst 0, 1) := by decide +kernel
theorem d_B_multiplyByCurve_1 : decode M_B_multiplyByCurve.2.1 1 = .ok (.lstore_n 1, 1) := by decide +kernel
theorem d_B_multiplyByCurve_2 : decode M_B_multiplyByCurve.2.1 2 = .ok (.lconst 0, 1) := by decide +kernel
theorem d_B_multiplyByCurve_3 : decode M_B_multiplyByCurve.2.1 3 = .ok (.lstore_n 3, 1) := by decide +kernel
theorem d_B_multiplyByCurve_4 : decode M_B_multiplyByCurve.2.1 4 = .ok (.iconst (0), 1) := by decide +kernel
theorem d_B_multiplyByCurve_5 : decode M_B_multiplyByCurve.2.1 5 = .ok (.istore 5, 2) := by decide +kernel
theorem d_B_multiplyByCurve_7 : decode M_B_multiplyByCurve.2.1 7 = .ok (.iload 5, 2) := by decide +kernel
theorem d_B_multiplyByCurve_9 : decode M_B_multiplyByCurve.2.1 9 = .ok (.aload_n 0, 1) := by decide +kernel
theorem d_B_multiplyByCurve_10 : decode M_B_multiplyByCurve.2.1 10 = .ok (.getfield 18, 3) := by decide +kernel
theorem d_B_multiplyByCurve_13 : decode M_B_multiplyByCurve.2.1 13 = .ok (.arraylength, 1) := by decide +kernel
theorem d_B_multiplyByCurve_14 : decode M_B_multiplyByCurve.2.1 14 = .ok (.if_icmp .ge (62), 3) := by decide +kernel
theorem d_B_multiplyByCurve_17 : decode M_B_multiplyByCurve.2.1 17 = .ok (.aload_n 0, 1) := by decide +kernel
theorem d_B_multiplyByCurve_18 : decode M_B_multiplyByCurve.2.1 18 = .ok (.getfield 18, 3) := by decide +kernel
theorem d_B_multiplyByCurve_21 : decode M_B_multiplyByCurve.2.1 21 = .ok (.iload 5, 2) := by decide +kernel
theorem d_B_multiplyByCurve_23 : decode M_B_multiplyByCurve.2.1 23 = .ok (.laload, 1) := by decide +kernel
theorem d_B_multiplyByCurve_24 : decode M_B_multiplyByCurve.2.1 24 = .ok (.lstore 6, 2) := by decide +kernel
theorem d_B_multiplyByCurve_26 : decode M_B_multiplyByCurve.2.1 26 = .ok (.iload 5, 2) := by decide +kernel
theorem d_B_multiplyByCurve_28 : decode M_B_multiplyByCurve.2.1 28 = .ok (.iconst (2), 1) := by decide +kernel
theorem d_B_multiplyByCurve_29 : decode M_B_multiplyByCurve.2.1 29 = .ok (.iadd, 1) := by decide +kernel
theorem d_B_multiplyByCurve_30 : decode M_B_multiplyByCurve.2.1 30 = .ok (.aload_n 0, 1) := by decide +kernel
theorem d_B_multiplyByCurve_31 : decode M_B_multiplyByCurve.2.1 31 = .ok (.getfield 18, 3) := by decide +kernel
theorem d_B_multiplyByCurve_34 : decode M_B_multiplyByCurve.2.1 34 = .ok (.arraylength, 1) := by decide +kernel
theorem d_B_multiplyByCurve_35 : decode M_B_multiplyByCurve.2.1 35 = .ok (.if_icmp .ge (15), 3) := by decide +kernel
theorem d_B_multiplyByCurve_38 : decode M_B_multiplyByCurve.2.1 38 = .ok (.aload_n 0, 1) := by decide +kernel
theorem d_B_multiplyByCurve_39 : decode M_B_multiplyByCurve.2.1 39 = .ok (.getfield 18, 3) := by decide +kernel
theorem d_B_multiplyByCurve_42 : decode M_B_multiplyByCurve.2.1 42 = .ok (.iload 5, 2) := by decide +kernel
theorem d_B_multiplyByCurve_44 : decode M_B_multiplyByCurve.2.1 44 = .ok (.iconst (2), 1) := by decide +kernel
theorem d_B_multiplyByCurve_45 : decode M_B_multiplyByCurve.2.1 45 = .ok (.iadd, 1) := by decide +kernel
theorem d_B_multiplyByCurve_46 : decode M_B_multiplyByCurve.2.1 46 = .ok (.laload, 1) := by decide +kernel
theorem d_B_multiplyByCurve_47 : decode M_B_multiplyByCurve.2.1 47 = .ok (.goto (4), 3) := by decide +kernel
theorem d_B_multiplyByCurve_50 : decode M_B_multiplyByCurve.2.1 50 = .ok (.lconst 0, 1) := by decide +kernel
theorem d_B_multiplyByCurve_51 : decode M_B_multiplyByCurve.2.1 51 = .ok (.lstore 8, 2) := by decide +kernel
theorem d_B_multiplyByCurve_53 : decode M_B_multiplyByCurve.2.1 53 = .ok (.aload_n 0, 1) := by decide +kernel
theorem d_B_multiplyByCurve_54 : decode M_B_multiplyByCurve.2.1 54 = .ok (.getfield 18, 3) := by decide +kernel
theorem d_B_multiplyByCurve_57 : decode M_B_multiplyByCurve.2.1 57 = .ok (.iload 5, 2) := by decide +kernel
theorem d_B_multiplyByCurve_59 : decode M_B_multiplyByCurve.2.1 59 = .ok (.lload_n 1, 1) := by decide +kernel
theorem d_B_multiplyByCurve_60 : decode M_B_multiplyByCurve.2.1 60 = .ok (.lneg, 1) := by decide +kernel
theorem d_B_multiplyByCurve_61 : decode M_B_multiplyByCurve.2.1 61 = .ok (.lload 8, 2) := by decide +kernel
theorem d_B_multiplyByCurve_63 : decode M_B_multiplyByCurve.2.1 63 = .ok (.lsub, 1) := by decide +kernel
theorem d_B_multiplyByCurve_64 : decode M_B_multiplyByCurve.2.1 64 = .ok (.lastore, 1) := by decide +kernel
theorem d_B_multiplyByCurve_65 : decode M_B_multiplyByCurve.2.1 65 = .ok (.lload_n 3, 1) := by decide +kernel
theorem d_B_multiplyByCurve_66 : decode M_B_multiplyByCurve.2.1 66 = .ok (.lstore_n 1, 1) := by decide +kernel
theorem d_B_multiplyByCurve_67 : decode M_B_multiplyByCurve.2.1 67 = .ok (.lload 6, 2) := by decide +kernel
theorem d_B_multiplyByCurve_69 : decode M_B_multiplyByCurve.2.1 69 = .ok (.lstore_n 3, 1) := by decide +kernel
theorem d_B_multiplyByCurve_70 : decode M_B_multiplyByCurve.2.1 70 = .ok (.iinc 5 (1), 3) := by decide +kernel
theorem d_B_multiplyByCurve_73 : decode M_B_multiplyByCurve.2.1 73 = .ok (.goto (-66), 3) := by decide +kernel
theorem d_B_multiplyByCurve_76 : decode M_B_multiplyByCurve.2.1 76 = .ok (.return_, 1) := by decide +kernel
theorem d_B_addStates_0 : decode M_B_addStates.2.1 0 = .ok (.iconst (0), 1) := by decide +kernel
theorem d_B_addStates_1 : decode M_B_addStates.2.1 1 = .ok (.istore_n 3, 1) := by decide +kernel
theorem d_B_addStates_2 : decode M_B_addStates.2.1 2 = .ok (.iload_n 3, 1) := by decide +kernel
theorem d_B_addStates_3 : decode M_B_addStates.2.1 3 = .ok (.iload_n 2, 1) := by decide +kernel
theorem d_B_addStates_4 : decode M_B_addStates.2.1 4 = .ok (.if_icmp .gt (37), 3) := by decide +kernel
theorem d_B_addStates_7 : decode M_B_addStates.2.1 7 = .ok (.aload_n 0, 1) := by decide +kernel
theorem d_B_addStates_8 : decode M_B_addStates.2.1 8 = .ok (.getfield 18, 3) := by decide +kernel
theorem d_B_addStates_11 : decode M_B_addStates.2.1 11 = .ok (.bipush (62), 2) := by decide +kernel
theorem d_B_addStates_13 : decode M_B_addStates.2.1 13 = .ok (.iconst (2), 1) := by decide +kernel
theorem d_B_addStates_14 : decode M_B_addStates.2.1 14 = .ok (.iload_n 3, 1) := by decide +kernel
theorem d_B_addStates_15 : decode M_B_addStates.2.1 15 = .ok (.imul, 1) := by decide +kernel
theorem d_B_addStates_16 : decode M_B_addStates.2.1 16 = .ok (.iadd, 1) := by decide +kernel
theorem d_B_addStates_17 : decode M_B_addStates.2.1 17 = .ok (.iload_n 2, 1) := by decide +kernel
theorem d_B_addStates_18 : decode M_B_addStates.2.1 18 = .ok (.isub, 1) := by decide +kernel
theorem d_B_addStates_19 : decode M_B_addStates.2.1 19 = .ok (.dup2, 1) := by decide +kernel
theorem d_B_addStates_20 : decode M_B_addStates.2.1 20 = .ok (.laload, 1) := by decide +kernel
theorem d_B_addStates_21 : decode M_B_addStates.2.1 21 = .ok (.aload_n 0, 1) := by decide +kernel
theorem d_B_addStates_22 : decode M_B_addStates.2.1 22 = .ok (.getfield 15, 3) := by decide +kernel
theorem d_B_addStates_25 : decode M_B_addStates.2.1 25 = .ok (.iload_n 1, 1) := by decide +kernel
theorem d_B_addStates_26 : decode M_B_addStates.2.1 26 = .ok (.bipush (9), 2) := by decide +kernel
theorem d_B_addStates_28 : decode M_B_addStates.2.1 28 = .ok (.imul, 1) := by decide +kernel
theorem d_B_addStates_29 : decode M_B_addStates.2.1 29 = .ok (.iload_n 3, 1) := by decide +kernel
theorem d_B_addStates_30 : decode M_B_addStates.2.1 30 = .ok (.iadd, 1) := by decide +kernel
theorem d_B_addStates_31 : decode M_B_addStates.2.1 31 = .ok (.iaload, 1) := by decide +kernel
theorem d_B_addStates_32 : decode M_B_addStates.2.1 32 = .ok (.i2l, 1) := by decide +kernel
theorem d_B_addStates_33 : decode M_B_addStates.2.1 33 = .ok (.ladd, 1) := by decide +kernel
theorem d_B_addStates_34 : decode M_B_addStates.2.1 34 = .ok (.lastore, 1) := by decide +kernel
theorem d_B_addStates_35 : decode M_B_addStates.2.1 35 = .ok (.iinc 3 (1), 3) := by decide +kernel
theorem d_B_addStates_38 : decode M_B_addStates.2.1 38 = .ok (.goto (-36), 3) := by decide +kernel
theorem d_B_addStates_41 : decode M_B_addStates.2.1 41 = .ok (.return_, 1) := by decide +kernel
