theorem d_M_first_0 : decode M_M_first.2.1 0 = .ok (.iload_n 1, 1) := by decide +kernel
theorem d_M_first_1 : decode M_M_first.2.1 1 = .ok (.bipush (-128), 2) := by decide +kernel
theorem d_M_first_3 : decode M_M_first.2.1 3 = .ok (.if_icmp .lt (10), 3) := by decide +kernel
theorem d_M_first_6 : decode M_M_first.2.1 6 = .ok (.iload_n 1, 1) := by decide +kernel
theorem d_M_first_7 : decode M_M_first.2.1 7 = .ok (.sipush (128), 3) := by decide +kernel
theorem d_M_first_10 : decode M_M_first.2.1 10 = .ok (.if_icmp .le (5), 3) := by decide +kernel
theorem d_M_first_13 : decode M_M_first.2.1 13 = .ok (.lconst 0, 1) := by decide +kernel
theorem d_M_first_14 : decode M_M_first.2.1 14 = .ok (.lreturn, 1) := by decide +kernel
theorem d_M_first_15 : decode M_M_first.2.1 15 = .ok (.iconst (0), 1) := by decide +kernel
theorem d_M_first_16 : decode M_M_first.2.1 16 = .ok (.istore_n 2, 1) := by decide +kernel
theorem d_M_first_17 : decode M_M_first.2.1 17 = .ok (.iload_n 2, 1) := by decide +kernel
theorem d_M_first_18 : decode M_M_first.2.1 18 = .ok (.sipush (257), 3) := by decide +kernel
theorem d_M_first_21 : decode M_M_first.2.1 21 = .ok (.if_icmp .ge (16), 3) := by decide +kernel
theorem d_M_first_24 : decode M_M_first.2.1 24 = .ok (.aload_n 0, 1) := by decide +kernel
theorem d_M_first_25 : decode M_M_first.2.1 25 = .ok (.getfield 27, 3) := by decide +kernel
theorem d_M_first_28 : decode M_M_first.2.1 28 = .ok (.iload_n 2, 1) := by decide +kernel
theorem d_M_first_29 : decode M_M_first.2.1 29 = .ok (.lconst 0, 1) := by decide +kernel
theorem d_M_first_30 : decode M_M_first.2.1 30 = .ok (.lastore, 1) := by decide +kernel
theorem d_M_first_31 : decode M_M_first.2.1 31 = .ok (.iinc 2 (1), 3) := by decide +kernel
theorem d_M_first_34 : decode M_M_first.2.1 34 = .ok (.goto (-17), 3) := by decide +kernel
theorem d_M_first_37 : decode M_M_first.2.1 37 = .ok (.iconst (0), 1) := by decide +kernel
theorem d_M_first_38 : decode M_M_first.2.1 38 = .ok (.istore_n 2, 1) := by decide +kernel
theorem d_M_first_39 : decode M_M_first.2.1 39 = .ok (.iload_n 2, 1) := by decide +kernel
theorem d_M_first_40 : decode M_M_first.2.1 40 = .ok (.iconst (1), 1) := by decide +kernel
theorem d_M_first_41 : decode M_M_first.2.1 41 = .ok (.aload_n 0, 1) := by decide +kernel
theorem d_M_first_42 : decode M_M_first.2.1 42 = .ok (.getfield 66, 3) := by decide +kernel
theorem d_M_first_45 : decode M_M_first.2.1 45 = .ok (.ishl, 1) := by decide +kernel
theorem d_M_first_46 : decode M_M_first.2.1 46 = .ok (.if_icmp .ge (14), 3) := by decide +kernel
theorem d_M_first_49 : decode M_M_first.2.1 49 = .ok (.aload_n 0, 1) := by decide +kernel
theorem d_M_first_50 : decode M_M_first.2.1 50 = .ok (.iload_n 2, 1) := by decide +kernel
theorem d_M_first_51 : decode M_M_first.2.1 51 = .ok (.invokevirtual 126, 3) := by decide +kernel
theorem d_M_first_54 : decode M_M_first.2.1 54 = .ok (.iinc 2 (1), 3) := by decide +kernel
theorem d_M_first_57 : decode M_M_first.2.1 57 = .ok (.goto (-18), 3) := by decide +kernel
theorem d_M_first_60 : decode M_M_first.2.1 60 = .ok (.aload_n 0, 1) := by decide +kernel
theorem d_M_first_61 : decode M_M_first.2.1 61 = .ok (.invokevirtual 120, 3) := by decide +kernel
theorem d_M_first_64 : decode M_M_first.2.1 64 = .ok (.istore_n 2, 1) := by decide +kernel
theorem d_M_first_65 : decode M_M_first.2.1 65 = .ok (.iload_n 1, 1) := by decide +kernel
theorem d_M_first_66 : decode M_M_first.2.1 66 = .ok (.iconst (3), 1) := by decide +kernel
theorem d_M_first_67 : decode M_M_first.2.1 67 = .ok (.iload_n 2, 1) := by decide +kernel
theorem d_M_first_68 : decode M_M_first.2.1 68 = .ok (.imul, 1) := by decide +kernel
theorem d_M_first_69 : decode M_M_first.2.1 69 = .ok (.iadd, 1) := by decide +kernel
theorem d_M_first_70 : decode M_M_first.2.1 70 = .ok (.sipush (128), 3) := by decide +kernel
theorem d_M_first_73 : decode M_M_first.2.1 73 = .ok (.iadd, 1) := by decide +kernel
theorem d_M_first_74 : decode M_M_first.2.1 74 = .ok (.istore_n 3, 1) := by decide +kernel
theorem d_M_first_75 : decode M_M_first.2.1 75 = .ok (.iload_n 3, 1) := by decide +kernel
theorem d_M_first_76 : decode M_M_first.2.1 76 = .ok (.ifCond .lt (10), 3) := by decide +kernel
theorem d_M_first_79 : decode M_M_first.2.1 79 = .ok (.iload_n 3, 1) := by decide +kernel
theorem d_M_first_80 : decode M_M_first.2.1 80 = .ok (.sipush (256), 3) := by decide +kernel
theorem d_M_first_83 : decode M_M_first.2.1 83 = .ok (.if_icmp .le (7), 3) := by decide +kernel
theorem d_M_first_86 : decode M_M_first.2.1 86 = .ok (.lconst 0, 1) := by decide +kernel
theorem d_M_first_87 : decode M_M_first.2.1 87 = .ok (.goto (9), 3) := by decide +kernel
theorem d_M_first_90 : decode M_M_first.2.1 90 = .ok (.aload_n 0, 1) := by decide +kernel
theorem d_M_first_91 : decode M_M_first.2.1 91 = .ok (.getfield 27, 3) := by decide +kernel
theorem d_M_first_94 : decode M_M_first.2.1 94 = .ok (.iload_n 3, 1) := by decide +kernel
theorem d_M_first_95 : decode M_M_first.2.1 95 = .ok (.laload, 1) := by decide +kernel
theorem d_M_first_96 : decode M_M_first.2.1 96 = .ok (.lstore 4, 2) := by decide +kernel
theorem d_M_first_98 : decode M_M_first.2.1 98 = .ok (.iload_n 2, 1) := by decide +kernel
theorem d_M_first_99 : decode M_M_first.2.1 99 = .ok (.iconst (2), 1) := by decide +kernel
theorem d_M_first_100 : decode M_M_first.2.1 100 = .ok (.irem, 1) := by decide +kernel
theorem d_M_first_101 : decode M_M_first.2.1 101 = .ok (.ifCond .ne (8), 3) := by decide +kernel
theorem d_M_first_104 : decode M_M_first.2.1 104 = .ok (.lload 4, 2) := by decide +kernel
theorem d_M_first_106 : decode M_M_first.2.1 106 = .ok (.goto (6), 3) := by decide +kernel
theorem d_M_first_109 : decode M_M_first.2.1 109 = .ok (.lload 4, 2) := by decide +kernel
theorem d_M_first_111 : decode M_M_first.2.1 111 = .ok (.lneg, 1) := by decide +kernel
theorem d_M_first_112 : decode M_M_first.2.1 112 = .ok (.lreturn, 1) := by decide +kernel
theorem d_M_merge_0 : decode M_M_merge.2.1 0 = .ok (.aload_n 0, 1) := by decide +kernel
theorem d_M_merge_1 : decode M_M_merge.2.1 1 = .ok (.getfield 37, 3) := by decide +kernel
theorem d_M_merge_4 : decode M_M_merge.2.1 4 = .ok (.iload_n 1, 1) := by decide +kernel
theorem d_M_merge_5 : decode M_M_merge.2.1 5 = .ok (.iaload, 1) := by decide +kernel
theorem d_M_merge_6 : decode M_M_merge.2.1 6 = .ok (.aload_n 0, 1) := by decide +kernel
theorem d_M_merge_7 : decode M_M_merge.2.1 7 = .ok (.getfield 37, 3) := by decide +kernel
theorem d_M_merge_10 : decode M_M_merge.2.1 10 = .ok (.iload_n 2, 1) := by decide +kernel
theorem d_M_merge_11 : decode M_M_merge.2.1 11 = .ok (.iaload, 1) := by decide +kernel
theorem d_M_merge_12 : decode M_M_merge.2.1 12 = .ok (.if_icmp .ge (12), 3) := by decide +kernel
theorem d_M_merge_15 : decode M_M_merge.2.1 15 = .ok (.aload_n 0, 1) := by decide +kernel
theorem d_M_merge_16 : decode M_M_merge.2.1 16 = .ok (.getfield 37, 3) := by decide +kernel
theorem d_M_merge_19 : decode M_M_merge.2.1 19 = .ok (.iload_n 1, 1) := by decide +kernel
theorem d_M_merge_20 : decode M_M_merge.2.1 20 = .ok (.iaload, 1) := by decide +kernel
theorem d_M_merge_21 : decode M_M_merge.2.1 21 = .ok (.goto (9), 3) := by decide +kernel
theorem d_M_merge_24 : decode M_M_merge.2.1 24 = .ok (.aload_n 0, 1) := by decide +kernel
theorem d_M_merge_25 : decode M_M_merge.2.1 25 = .ok (.getfield 37, 3) := by decide +kernel
theorem d_M_merge_28 : decode M_M_merge.2.1 28 = .ok (.iload_n 2, 1) := by decide +kernel
theorem d_M_merge_29 : decode M_M_merge.2.1 29 = .ok (.iaload, 1) := by decide +kernel
theorem d_M_merge_30 : decode M_M_merge.2.1 30 = .ok (.istore_n 3, 1) := by decide +kernel
theorem d_M_merge_31 : decode M_M_merge.2.1 31 = .ok (.aload_n 0, 1) := by decide +kernel
theorem d_M_merge_32 : decode M_M_merge.2.1 32 = .ok (.getfield 37, 3) := by decide +kernel
theorem d_M_merge_35 : decode M_M_merge.2.1 35 = .ok (.iload_n 1, 1) := by decide +kernel
theorem d_M_merge_36 : decode M_M_merge.2.1 36 = .ok (.iaload, 1) := by decide +kernel
theorem d_M_merge_37 : decode M_M_merge.2.1 37 = .ok (.aload_n 0, 1) := by decide +kernel
theorem d_M_merge_38 : decode M_M_merge.2.1 38 = .ok (.getfield 37, 3) := by decide +kernel
theorem d_M_merge_41 : decode M_M_merge.2.1 41 = .ok (.iload_n 2, 1) := by decide +kernel
theorem d_M_merge_42 : decode M_M_merge.2.1 42 = .ok (.iaload, 1) := by decide +kernel
theorem d_M_merge_43 : decode M_M_merge.2.1 43 = .ok (.if_icmp .ge (12), 3) := by decide +kernel
theorem d_M_merge_46 : decode M_M_merge.2.1 46 = .ok (.aload_n 0, 1) := by decide +kernel
theorem d_M_merge_47 : decode M_M_merge.2.1 47 = .ok (.getfield 37, 3) := by decide +kernel
theorem d_M_merge_50 : decode M_M_merge.2.1 50 = .ok (.iload_n 2, 1) := by decide +kernel
theorem d_M_merge_51 : decode M_M_merge.2.1 51 = .ok (.iaload, 1) := by decide +kernel
theorem d_M_merge_52 : decode M_M_merge.2.1 52 = .ok (.goto (9), 3) := by decide +kernel
theorem d_M_merge_55 : decode M_M_merge.2.1 55 = .ok (.aload_n 0, 1) := by decide +kernel
theorem d_M_merge_56 : decode M_M_merge.2.1 56 = .ok (.getfield 37, 3) := by decide +kernel
theorem d_M_merge_59 : decode M_M_merge.2.1 59 = .ok (.iload_n 1, 1) := by decide +kernel
theorem d_M_merge_60 : decode M_M_merge.2.1 60 = .ok (.iaload, 1) := by decide +kernel
theorem d_M_merge_61 : decode M_M_merge.2.1 61 = .ok (.istore 4, 2) := by decide +kernel
theorem d_M_merge_63 : decode M_M_merge.2.1 63 = .ok (.iconst (1), 1) := by decide +kernel
theorem d_M_merge_64 : decode M_M_merge.2.1 64 = .ok (.istore 5, 2) := by decide +kernel
theorem d_M_merge_66 : decode M_M_merge.2.1 66 = .ok (.iload 5, 2) := by decide +kernel
theorem d_M_merge_68 : decode M_M_merge.2.1 68 = .ok (.bipush (33), 2) := by decide +kernel
theorem d_M_merge_70 : decode M_M_merge.2.1 70 = .ok (.if_icmp .ge (39), 3) := by decide +kernel
theorem d_M_merge_73 : decode M_M_merge.2.1 73 = .ok (.aload_n 0, 1) := by decide +kernel
theorem d_M_merge_74 : decode M_M_merge.2.1 74 = .ok (.getfield 37, 3) := by decide +kernel
theorem d_M_merge_77 : decode M_M_merge.2.1 77 = .ok (.iload 5, 2) := by decide +kernel
theorem d_M_merge_79 : decode M_M_merge.2.1 79 = .ok (.aload_n 0, 1) := by decide +kernel
theorem d_M_merge_80 : decode M_M_merge.2.1 80 = .ok (.getfield 37, 3) := by decide +kernel
theorem d_M_merge_83 : decode M_M_merge.2.1 83 = .ok (.iload 5, 2) := by decide +kernel
theorem d_M_merge_85 : decode M_M_merge.2.1 85 = .ok (.iaload, 1) := by decide +kernel
theorem d_M_merge_86 : decode M_M_merge.2.1 86 = .ok (.iload 4, 2) := by decide +kernel
theorem d_M_merge_88 : decode M_M_merge.2.1 88 = .ok (.if_icmp .ne (7), 3) := by decide +kernel
theorem d_M_merge_91 : decode M_M_merge.2.1 91 = .ok (.iload_n 3, 1) := by decide +kernel
theorem d_M_merge_92 : decode M_M_merge.2.1 92 = .ok (.goto (10), 3) := by decide +kernel
theorem d_M_merge_95 : decode M_M_merge.2.1 95 = .ok (.aload_n 0, 1) := by decide +kernel
theorem d_M_merge_96 : decode M_M_merge.2.1 96 = .ok (.getfield 37, 3) := by decide +kernel
theorem d_M_merge_99 : decode M_M_merge.2.1 99 = .ok (.iload 5, 2) := by decide +kernel
theorem d_M_merge_101 : decode M_M_merge.2.1 101 = .ok (.iaload, 1) := by decide +kernel
theorem d_M_merge_102 : decode M_M_merge.2.1 102 = .ok (.iastore, 1) := by decide +kernel
theorem d_M_merge_103 : decode M_M_merge.2.1 103 = .ok (.iinc 5 (1), 3) := by decide +kernel
theorem d_M_merge_106 : decode M_M_merge.2.1 106 = .ok (.goto (-40), 3) := by decide +kernel
theorem d_M_merge_109 : decode M_M_merge.2.1 109 = .ok (.return_, 1) := by decide +kernel
theorem d_M_occurs_0 : decode M_M_occurs.2.1 0 = .ok (.iconst (0), 1) := by decide +kernel
theorem d_M_occurs_1 : decode M_M_occurs.2.1 1 = .ok (.istore_n 2, 1) := by decide +kernel
theorem d_M_occurs_2 : decode M_M_occurs.2.1 2 = .ok (.iload_n 2, 1) := by decide +kernel
theorem d_M_occurs_3 : decode M_M_occurs.2.1 3 = .ok (.iconst (4), 1) := by decide +kernel
theorem d_M_occurs_4 : decode M_M_occurs.2.1 4 = .ok (.aload_n 0, 1) := by decide +kernel
theorem d_M_occurs_5 : decode M_M_occurs.2.1 5 = .ok (.getfield 66, 3) := by decide +kernel
theorem d_M_occurs_8 : decode M_M_occurs.2.1 8 = .ok (.imul, 1) := by decide +kernel
theorem d_M_occurs_9 : decode M_M_occurs.2.1 9 = .ok (.if_icmp .ge (21), 3) := by decide +kernel
theorem d_M_occurs_12 : decode M_M_occurs.2.1 12 = .ok (.aload_n 0, 1) := by decide +kernel
theorem d_M_occurs_13 : decode M_M_occurs.2.1 13 = .ok (.getfield 7, 3) := by decide +kernel
theorem d_M_occurs_16 : decode M_M_occurs.2.1 16 = .ok (.iload_n 2, 1) := by decide +kernel
theorem d_M_occurs_17 : decode M_M_occurs.2.1 17 = .ok (.iaload, 1) := by decide +kernel
theorem d_M_occurs_18 : decode M_M_occurs.2.1 18 = .ok (.iload_n 1, 1) := by decide +kernel
theorem d_M_occurs_19 : decode M_M_occurs.2.1 19 = .ok (.if_icmp .ne (5), 3) := by decide +kernel
theorem d_M_occurs_22 : decode M_M_occurs.2.1 22 = .ok (.iconst (1), 1) := by decide +kernel
theorem d_M_occurs_23 : decode M_M_occurs.2.1 23 = .ok (.ireturn, 1) := by decide +kernel
theorem d_M_occurs_24 : decode M_M_occurs.2.1 24 = .ok (.iinc 2 (1), 3) := by decide +kernel
theorem d_M_occurs_27 : decode M_M_occurs.2.1 27 = .ok (.goto (-25), 3) := by decide +kernel
theorem d_M_occurs_30 : decode M_M_occurs.2.1 30 = .ok (.iconst (0), 1) := by decide +kernel
theorem d_M_occurs_31 : decode M_M_occurs.2.1 31 = .ok (.ireturn, 1) := by decide +kernel
theorem d_M_number_0 : decode M_M_number.2.1 0 = .ok (.iconst (0), 1) := by decide +kernel
theorem d_M_number_1 : decode M_M_number.2.1 1 = .ok (.istore_n 1, 1) := by decide +kernel
theorem d_M_number_2 : decode M_M_number.2.1 2 = .ok (.iload_n 1, 1) := by decide +kernel
theorem d_M_number_3 : decode M_M_number.2.1 3 = .ok (.bipush (33), 2) := by decide +kernel
theorem d_M_number_5 : decode M_M_number.2.1 5 = .ok (.if_icmp .ge (19), 3) := by decide +kernel
theorem d_M_number_8 : decode M_M_number.2.1 8 = .ok (.aload_n 0, 1) := by decide +kernel
theorem d_M_number_9 : decode M_M_number.2.1 9 = .ok (.getfield 37, 3) := by decide +kernel
theorem d_M_number_12 : decode M_M_number.2.1 12 = .ok (.iload_n 1, 1) := by decide +kernel
theorem d_M_number_13 : decode M_M_number.2.1 13 = .ok (.bipush (100), 2) := by decide +kernel
theorem d_M_number_15 : decode M_M_number.2.1 15 = .ok (.iload_n 1, 1) := by decide +kernel
theorem d_M_number_16 : decode M_M_number.2.1 16 = .ok (.iadd, 1) := by decide +kernel
theorem d_M_number_17 : decode M_M_number.2.1 17 = .ok (.iastore, 1) := by decide +kernel
theorem d_M_number_18 : decode M_M_number.2.1 18 = .ok (.iinc 1 (1), 3) := by decide +kernel
theorem d_M_number_21 : decode M_M_number.2.1 21 = .ok (.goto (-19), 3) := by decide +kernel
theorem d_M_number_24 : decode M_M_number.2.1 24 = .ok (.iconst (0), 1) := by decide +kernel
theorem d_M_number_25 : decode M_M_number.2.1 25 = .ok (.istore_n 1, 1) := by decide +kernel
theorem d_M_number_26 : decode M_M_number.2.1 26 = .ok (.iload_n 1, 1) := by decide +kernel
theorem d_M_number_27 : decode M_M_number.2.1 27 = .ok (.aload_n 0, 1) := by decide +kernel
theorem d_M_number_28 : decode M_M_number.2.1 28 = .ok (.getfield 66, 3) := by decide +kernel
theorem d_M_number_31 : decode M_M_number.2.1 31 = .ok (.if_icmp .ge (33), 3) := by decide +kernel
theorem d_M_number_34 : decode M_M_number.2.1 34 = .ok (.aload_n 0, 1) := by decide +kernel
theorem d_M_number_35 : decode M_M_number.2.1 35 = .ok (.aload_n 0, 1) := by decide +kernel
theorem d_M_number_36 : decode M_M_number.2.1 36 = .ok (.getfield 7, 3) := by decide +kernel
theorem d_M_number_39 : decode M_M_number.2.1 39 = .ok (.iconst (4), 1) := by decide +kernel
theorem d_M_number_40 : decode M_M_number.2.1 40 = .ok (.iload_n 1, 1) := by decide +kernel
theorem d_M_number_41 : decode M_M_number.2.1 41 = .ok (.imul, 1) := by decide +kernel
theorem d_M_number_42 : decode M_M_number.2.1 42 = .ok (.iconst (1), 1) := by decide +kernel
theorem d_M_number_43 : decode M_M_number.2.1 43 = .ok (.iadd, 1) := by decide +kernel
theorem d_M_number_44 : decode M_M_number.2.1 44 = .ok (.iaload, 1) := by decide +kernel
theorem d_M_number_45 : decode M_M_number.2.1 45 = .ok (.aload_n 0, 1) := by decide +kernel
theorem d_M_number_46 : decode M_M_number.2.1 46 = .ok (.getfield 7, 3) := by decide +kernel
theorem d_M_number_49 : decode M_M_number.2.1 49 = .ok (.iconst (4), 1) := by decide +kernel
theorem d_M_number_50 : decode M_M_number.2.1 50 = .ok (.iload_n 1, 1) := by decide +kernel
theorem d_M_number_51 : decode M_M_number.2.1 51 = .ok (.imul, 1) := by decide +kernel
theorem d_M_number_52 : decode M_M_number.2.1 52 = .ok (.iconst (3), 1) := by decide +kernel
theorem d_M_number_53 : decode M_M_number.2.1 53 = .ok (.iadd, 1) := by decide +kernel
theorem d_M_number_54 : decode M_M_number.2.1 54 = .ok (.iaload, 1) := by decide +kernel
theorem d_M_number_55 : decode M_M_number.2.1 55 = .ok (.invokevirtual 129, 3) := by decide +kernel
theorem d_M_number_58 : decode M_M_number.2.1 58 = .ok (.iinc 1 (1), 3) := by decide +kernel
theorem d_M_number_61 : decode M_M_number.2.1 61 = .ok (.goto (-35), 3) := by decide +kernel
theorem d_M_number_64 : decode M_M_number.2.1 64 = .ok (.aload_n 0, 1) := by decide +kernel
theorem d_M_number_65 : decode M_M_number.2.1 65 = .ok (.iconst (0), 1) := by decide +kernel
theorem d_M_number_66 : decode M_M_number.2.1 66 = .ok (.putfield 133, 3) := by decide +kernel
theorem d_M_number_69 : decode M_M_number.2.1 69 = .ok (.iconst (1), 1) := by decide +kernel
theorem d_M_number_70 : decode M_M_number.2.1 70 = .ok (.istore_n 1, 1) := by decide +kernel
theorem d_M_number_71 : decode M_M_number.2.1 71 = .ok (.iload_n 1, 1) := by decide +kernel
theorem d_M_number_72 : decode M_M_number.2.1 72 = .ok (.bipush (33), 2) := by decide +kernel
theorem d_M_number_74 : decode M_M_number.2.1 74 = .ok (.if_icmp .ge (86), 3) := by decide +kernel
theorem d_M_number_77 : decode M_M_number.2.1 77 = .ok (.aload_n 0, 1) := by decide +kernel
theorem d_M_number_78 : decode M_M_number.2.1 78 = .ok (.getfield 37, 3) := by decide +kernel
theorem d_M_number_81 : decode M_M_number.2.1 81 = .ok (.iload_n 1, 1) := by decide +kernel
theorem d_M_number_82 : decode M_M_number.2.1 82 = .ok (.iaload, 1) := by decide +kernel
theorem d_M_number_83 : decode M_M_number.2.1 83 = .ok (.bipush (100), 2) := by decide +kernel
theorem d_M_number_85 : decode M_M_number.2.1 85 = .ok (.iload_n 1, 1) := by decide +kernel
theorem d_M_number_86 : decode M_M_number.2.1 86 = .ok (.iadd, 1) := by decide +kernel
theorem d_M_number_87 : decode M_M_number.2.1 87 = .ok (.if_icmp .ne (67), 3) := by decide +kernel
theorem d_M_number_90 : decode M_M_number.2.1 90 = .ok (.aload_n 0, 1) := by decide +kernel
theorem d_M_number_91 : decode M_M_number.2.1 91 = .ok (.iload_n 1, 1) := by decide +kernel
theorem d_M_number_92 : decode M_M_number.2.1 92 = .ok (.invokevirtual 136, 3) := by decide +kernel
theorem d_M_number_95 : decode M_M_number.2.1 95 = .ok (.ifCond .eq (59), 3) := by decide +kernel
theorem d_M_number_98 : decode M_M_number.2.1 98 = .ok (.iload_n 1, 1) := by decide +kernel
theorem d_M_number_99 : decode M_M_number.2.1 99 = .ok (.istore_n 2, 1) := by decide +kernel
theorem d_M_number_100 : decode M_M_number.2.1 100 = .ok (.iload_n 2, 1) := by decide +kernel
theorem d_M_number_101 : decode M_M_number.2.1 101 = .ok (.bipush (33), 2) := by decide +kernel
theorem d_M_number_103 : decode M_M_number.2.1 103 = .ok (.if_icmp .ge (41), 3) := by decide +kernel
theorem d_M_number_106 : decode M_M_number.2.1 106 = .ok (.aload_n 0, 1) := by decide +kernel
theorem d_M_number_107 : decode M_M_number.2.1 107 = .ok (.getfield 37, 3) := by decide +kernel
theorem d_M_number_110 : decode M_M_number.2.1 110 = .ok (.iload_n 2, 1) := by decide +kernel
theorem d_M_number_111 : decode M_M_number.2.1 111 = .ok (.aload_n 0, 1) := by decide +kernel
theorem d_M_number_112 : decode M_M_number.2.1 112 = .ok (.getfield 37, 3) := by decide +kernel
theorem d_M_number_115 : decode M_M_number.2.1 115 = .ok (.iload_n 2, 1) := by decide +kernel
theorem d_M_number_116 : decode M_M_number.2.1 116 = .ok (.iaload, 1) := by decide +kernel
theorem d_M_number_117 : decode M_M_number.2.1 117 = .ok (.bipush (100), 2) := by decide +kernel
theorem d_M_number_119 : decode M_M_number.2.1 119 = .ok (.iload_n 1, 1) := by decide +kernel
theorem d_M_number_120 : decode M_M_number.2.1 120 = .ok (.iadd, 1) := by decide +kernel
theorem d_M_number_121 : decode M_M_number.2.1 121 = .ok (.if_icmp .ne (10), 3) := by decide +kernel
theorem d_M_number_124 : decode M_M_number.2.1 124 = .ok (.aload_n 0, 1) := by decide +kernel
theorem d_M_number_125 : decode M_M_number.2.1 125 = .ok (.getfield 133, 3) := by decide +kernel
theorem d_M_number_128 : decode M_M_number.2.1 128 = .ok (.goto (9), 3) := by decide +kernel
theorem d_M_number_131 : decode M_M_number.2.1 131 = .ok (.aload_n 0, 1) := by decide +kernel
theorem d_M_number_132 : decode M_M_number.2.1 132 = .ok (.getfield 37, 3) := by decide +kernel
theorem d_M_number_135 : decode M_M_number.2.1 135 = .ok (.iload_n 2, 1) := by decide +kernel
theorem d_M_number_136 : decode M_M_number.2.1 136 = .ok (.iaload, 1) := by decide +kernel
theorem d_M_number_137 : decode M_M_number.2.1 137 = .ok (.iastore, 1) := by decide +kernel
theorem d_M_number_138 : decode M_M_number.2.1 138 = .ok (.iinc 2 (1), 3) := by decide +kernel
theorem d_M_number_141 : decode M_M_number.2.1 141 = .ok (.goto (-41), 3) := by decide +kernel
theorem d_M_number_144 : decode M_M_number.2.1 144 = .ok (.aload_n 0, 1) := by decide +kernel
theorem d_M_number_145 : decode M_M_number.2.1 145 = .ok (.dup, 1) := by decide +kernel
theorem d_M_number_146 : decode M_M_number.2.1 146 = .ok (.getfield 133, 3) := by decide +kernel
theorem d_M_number_149 : decode M_M_number.2.1 149 = .ok (.iconst (1), 1) := by decide +kernel
theorem d_M_number_150 : decode M_M_number.2.1 150 = .ok (.iadd, 1) := by decide +kernel
theorem d_M_number_151 : decode M_M_number.2.1 151 = .ok (.putfield 133, 3) := by decide +kernel
theorem d_M_number_154 : decode M_M_number.2.1 154 = .ok (.iinc 1 (1), 3) := by decide +kernel
theorem d_M_number_157 : decode M_M_number.2.1 157 = .ok (.goto (-86), 3) := by decide +kernel
theorem d_M_number_160 : decode M_M_number.2.1 160 = .ok (.aload_n 0, 1) := by decide +kernel
theorem d_M_number_161 : decode M_M_number.2.1 161 = .ok (.aload_n 0, 1) := by decide +kernel
theorem d_M_number_162 : decode M_M_number.2.1 162 = .ok (.getfield 133, 3) := by decide +kernel
theorem d_M_number_165 : decode M_M_number.2.1 165 = .ok (.aload_n 0, 1) := by decide +kernel
theorem d_M_number_166 : decode M_M_number.2.1 166 = .ok (.getfield 17, 3) := by decide +kernel
theorem d_M_number_169 : decode M_M_number.2.1 169 = .ok (.iadd, 1) := by decide +kernel
theorem d_M_number_170 : decode M_M_number.2.1 170 = .ok (.putfield 133, 3) := by decide +kernel
theorem d_M_number_173 : decode M_M_number.2.1 173 = .ok (.return_, 1) := by decide +kernel
theorem d_M_entries_0 : decode M_M_entries.2.1 0 = .ok (.iconst (0), 1) := by decide +kernel
theorem d_M_entries_1 : decode M_M_entries.2.1 1 = .ok (.istore_n 2, 1) := by decide +kernel
theorem d_M_entries_2 : decode M_M_entries.2.1 2 = .ok (.iload_n 2, 1) := by decide +kernel
theorem d_M_entries_3 : decode M_M_entries.2.1 3 = .ok (.bipush (64), 2) := by decide +kernel
theorem d_M_entries_5 : decode M_M_entries.2.1 5 = .ok (.if_icmp .ge (23), 3) := by decide +kernel
theorem d_M_entries_8 : decode M_M_entries.2.1 8 = .ok (.aload_n 0, 1) := by decide +kernel
theorem d_M_entries_9 : decode M_M_entries.2.1 9 = .ok (.getfield 40, 3) := by decide +kernel
theorem d_M_entries_12 : decode M_M_entries.2.1 12 = .ok (.iload_n 2, 1) := by decide +kernel
theorem d_M_entries_13 : decode M_M_entries.2.1 13 = .ok (.iconst (0), 1) := by decide +kernel
theorem d_M_entries_14 : decode M_M_entries.2.1 14 = .ok (.iastore, 1) := by decide +kernel
theorem d_M_entries_15 : decode M_M_entries.2.1 15 = .ok (.aload_n 0, 1) := by decide +kernel
theorem d_M_entries_16 : decode M_M_entries.2.1 16 = .ok (.getfield 43, 3) := by decide +kernel
theorem d_M_entries_19 : decode M_M_entries.2.1 19 = .ok (.iload_n 2, 1) := by decide +kernel
theorem d_M_entries_20 : decode M_M_entries.2.1 20 = .ok (.iconst (0), 1) := by decide +kernel
theorem d_M_entries_21 : decode M_M_entries.2.1 21 = .ok (.iastore, 1) := by decide +kernel
theorem d_M_entries_22 : decode M_M_entries.2.1 22 = .ok (.iinc 2 (1), 3) := by decide +kernel
theorem d_M_entries_25 : decode M_M_entries.2.1 25 = .ok (.goto (-23), 3) := by decide +kernel
theorem d_M_entries_28 : decode M_M_entries.2.1 28 = .ok (.iconst (0), 1) := by decide +kernel
theorem d_M_entries_29 : decode M_M_entries.2.1 29 = .ok (.istore_n 2, 1) := by decide +kernel
theorem d_M_entries_30 : decode M_M_entries.2.1 30 = .ok (.iload_n 2, 1) := by decide +kernel
theorem d_M_entries_31 : decode M_M_entries.2.1 31 = .ok (.iload_n 1, 1) := by decide +kernel
theorem d_M_entries_32 : decode M_M_entries.2.1 32 = .ok (.if_icmp .ge (168), 3) := by decide +kernel
theorem d_M_entries_35 : decode M_M_entries.2.1 35 = .ok (.aload_n 0, 1) := by decide +kernel
theorem d_M_entries_36 : decode M_M_entries.2.1 36 = .ok (.getfield 37, 3) := by decide +kernel
theorem d_M_entries_39 : decode M_M_entries.2.1 39 = .ok (.aload_n 0, 1) := by decide +kernel
theorem d_M_entries_40 : decode M_M_entries.2.1 40 = .ok (.getfield 7, 3) := by decide +kernel
theorem d_M_entries_43 : decode M_M_entries.2.1 43 = .ok (.iconst (4), 1) := by decide +kernel
theorem d_M_entries_44 : decode M_M_entries.2.1 44 = .ok (.iload_n 2, 1) := by decide +kernel
theorem d_M_entries_45 : decode M_M_entries.2.1 45 = .ok (.imul, 1) := by decide +kernel
theorem d_M_entries_46 : decode M_M_entries.2.1 46 = .ok (.iconst (1), 1) := by decide +kernel
theorem d_M_entries_47 : decode M_M_entries.2.1 47 = .ok (.iadd, 1) := by decide +kernel
theorem d_M_entries_48 : decode M_M_entries.2.1 48 = .ok (.iaload, 1) := by decide +kernel
theorem d_M_entries_49 : decode M_M_entries.2.1 49 = .ok (.iaload, 1) := by decide +kernel
theorem d_M_entries_50 : decode M_M_entries.2.1 50 = .ok (.istore_n 3, 1) := by decide +kernel
theorem d_M_entries_51 : decode M_M_entries.2.1 51 = .ok (.aload_n 0, 1) := by decide +kernel
theorem d_M_entries_52 : decode M_M_entries.2.1 52 = .ok (.getfield 37, 3) := by decide +kernel
theorem d_M_entries_55 : decode M_M_entries.2.1 55 = .ok (.aload_n 0, 1) := by decide +kernel
theorem d_M_entries_56 : decode M_M_entries.2.1 56 = .ok (.getfield 7, 3) := by decide +kernel
theorem d_M_entries_59 : decode M_M_entries.2.1 59 = .ok (.aload_n 0, 1) := by decide +kernel
theorem d_M_entries_60 : decode M_M_entries.2.1 60 = .ok (.getfield 13, 3) := by decide +kernel
theorem d_M_entries_63 : decode M_M_entries.2.1 63 = .ok (.iload_n 2, 1) := by decide +kernel
theorem d_M_entries_64 : decode M_M_entries.2.1 64 = .ok (.baload, 1) := by decide +kernel
theorem d_M_entries_65 : decode M_M_entries.2.1 65 = .ok (.ifCond .eq (9), 3) := by decide +kernel
theorem d_M_entries_68 : decode M_M_entries.2.1 68 = .ok (.iconst (4), 1) := by decide +kernel
theorem d_M_entries_69 : decode M_M_entries.2.1 69 = .ok (.iload_n 2, 1) := by decide +kernel
theorem d_M_entries_70 : decode M_M_entries.2.1 70 = .ok (.imul, 1) := by decide +kernel
theorem d_M_entries_71 : decode M_M_entries.2.1 71 = .ok (.goto (8), 3) := by decide +kernel
theorem d_M_entries_74 : decode M_M_entries.2.1 74 = .ok (.iconst (4), 1) := by decide +kernel
theorem d_M_entries_75 : decode M_M_entries.2.1 75 = .ok (.iload_n 2, 1) := by decide +kernel
theorem d_M_entries_76 : decode M_M_entries.2.1 76 = .ok (.imul, 1) := by decide +kernel
theorem d_M_entries_77 : decode M_M_entries.2.1 77 = .ok (.iconst (2), 1) := by decide +kernel
theorem d_M_entries_78 : decode M_M_entries.2.1 78 = .ok (.iadd, 1) := by decide +kernel
theorem d_M_entries_79 : decode M_M_entries.2.1 79 = .ok (.iaload, 1) := by decide +kernel
theorem d_M_entries_80 : decode M_M_entries.2.1 80 = .ok (.iaload, 1) := by decide +kernel
theorem d_M_entries_81 : decode M_M_entries.2.1 81 = .ok (.istore 4, 2) := by decide +kernel
theorem d_M_entries_83 : decode M_M_entries.2.1 83 = .ok (.aload_n 0, 1) := by decide +kernel
theorem d_M_entries_84 : decode M_M_entries.2.1 84 = .ok (.getfield 37, 3) := by decide +kernel
theorem d_M_entries_87 : decode M_M_entries.2.1 87 = .ok (.aload_n 0, 1) := by decide +kernel
theorem d_M_entries_88 : decode M_M_entries.2.1 88 = .ok (.getfield 7, 3) := by decide +kernel
theorem d_M_entries_91 : decode M_M_entries.2.1 91 = .ok (.aload_n 0, 1) := by decide +kernel
theorem d_M_entries_92 : decode M_M_entries.2.1 92 = .ok (.getfield 13, 3) := by decide +kernel
theorem d_M_entries_95 : decode M_M_entries.2.1 95 = .ok (.iload_n 2, 1) := by decide +kernel
theorem d_M_entries_96 : decode M_M_entries.2.1 96 = .ok (.baload, 1) := by decide +kernel
theorem d_M_entries_97 : decode M_M_entries.2.1 97 = .ok (.ifCond .eq (11), 3) := by decide +kernel
theorem d_M_entries_100 : decode M_M_entries.2.1 100 = .ok (.iconst (4), 1) := by decide +kernel
theorem d_M_entries_101 : decode M_M_entries.2.1 101 = .ok (.iload_n 2, 1) := by decide +kernel
theorem d_M_entries_102 : decode M_M_entries.2.1 102 = .ok (.imul, 1) := by decide +kernel
theorem d_M_entries_103 : decode M_M_entries.2.1 103 = .ok (.iconst (2), 1) := by decide +kernel
theorem d_M_entries_104 : decode M_M_entries.2.1 104 = .ok (.iadd, 1) := by decide +kernel
theorem d_M_entries_105 : decode M_M_entries.2.1 105 = .ok (.goto (6), 3) := by decide +kernel
theorem d_M_entries_108 : decode M_M_entries.2.1 108 = .ok (.iconst (4), 1) := by decide +kernel
theorem d_M_entries_109 : decode M_M_entries.2.1 109 = .ok (.iload_n 2, 1) := by decide +kernel
theorem d_M_entries_110 : decode M_M_entries.2.1 110 = .ok (.imul, 1) := by decide +kernel
theorem d_M_entries_111 : decode M_M_entries.2.1 111 = .ok (.iaload, 1) := by decide +kernel
theorem d_M_entries_112 : decode M_M_entries.2.1 112 = .ok (.iaload, 1) := by decide +kernel
theorem d_M_entries_113 : decode M_M_entries.2.1 113 = .ok (.istore 5, 2) := by decide +kernel
theorem d_M_entries_115 : decode M_M_entries.2.1 115 = .ok (.iload_n 3, 1) := by decide +kernel
theorem d_M_entries_116 : decode M_M_entries.2.1 116 = .ok (.iload_n 1, 1) := by decide +kernel
theorem d_M_entries_117 : decode M_M_entries.2.1 117 = .ok (.if_icmp .ge (33), 3) := by decide +kernel
theorem d_M_entries_120 : decode M_M_entries.2.1 120 = .ok (.aload_n 0, 1) := by decide +kernel
theorem d_M_entries_121 : decode M_M_entries.2.1 121 = .ok (.getfield 40, 3) := by decide +kernel
theorem d_M_entries_124 : decode M_M_entries.2.1 124 = .ok (.bipush (8), 2) := by decide +kernel
theorem d_M_entries_126 : decode M_M_entries.2.1 126 = .ok (.iload_n 2, 1) := by decide +kernel
theorem d_M_entries_127 : decode M_M_entries.2.1 127 = .ok (.imul, 1) := by decide +kernel
theorem d_M_entries_128 : decode M_M_entries.2.1 128 = .ok (.iload_n 3, 1) := by decide +kernel
theorem d_M_entries_129 : decode M_M_entries.2.1 129 = .ok (.iadd, 1) := by decide +kernel
theorem d_M_entries_130 : decode M_M_entries.2.1 130 = .ok (.dup2, 1) := by decide +kernel
theorem d_M_entries_131 : decode M_M_entries.2.1 131 = .ok (.iaload, 1) := by decide +kernel
theorem d_M_entries_132 : decode M_M_entries.2.1 132 = .ok (.iconst (1), 1) := by decide +kernel
theorem d_M_entries_133 : decode M_M_entries.2.1 133 = .ok (.iadd, 1) := by decide +kernel
theorem d_M_entries_134 : decode M_M_entries.2.1 134 = .ok (.iastore, 1) := by decide +kernel
theorem d_M_entries_135 : decode M_M_entries.2.1 135 = .ok (.aload_n 0, 1) := by decide +kernel
theorem d_M_entries_136 : decode M_M_entries.2.1 136 = .ok (.getfield 43, 3) := by decide +kernel
theorem d_M_entries_139 : decode M_M_entries.2.1 139 = .ok (.bipush (8), 2) := by decide +kernel
theorem d_M_entries_141 : decode M_M_entries.2.1 141 = .ok (.iload_n 2, 1) := by decide +kernel
theorem d_M_entries_142 : decode M_M_entries.2.1 142 = .ok (.imul, 1) := by decide +kernel
theorem d_M_entries_143 : decode M_M_entries.2.1 143 = .ok (.iload_n 3, 1) := by decide +kernel
theorem d_M_entries_144 : decode M_M_entries.2.1 144 = .ok (.iadd, 1) := by decide +kernel
theorem d_M_entries_145 : decode M_M_entries.2.1 145 = .ok (.dup2, 1) := by decide +kernel
theorem d_M_entries_146 : decode M_M_entries.2.1 146 = .ok (.iaload, 1) := by decide +kernel
theorem d_M_entries_147 : decode M_M_entries.2.1 147 = .ok (.iconst (1), 1) := by decide +kernel
theorem d_M_entries_148 : decode M_M_entries.2.1 148 = .ok (.isub, 1) := by decide +kernel
theorem d_M_entries_149 : decode M_M_entries.2.1 149 = .ok (.iastore, 1) := by decide +kernel
theorem d_M_entries_150 : decode M_M_entries.2.1 150 = .ok (.iload 4, 2) := by decide +kernel
theorem d_M_entries_152 : decode M_M_entries.2.1 152 = .ok (.iload_n 1, 1) := by decide +kernel
theorem d_M_entries_153 : decode M_M_entries.2.1 153 = .ok (.if_icmp .ge (19), 3) := by decide +kernel
theorem d_M_entries_156 : decode M_M_entries.2.1 156 = .ok (.aload_n 0, 1) := by decide +kernel
theorem d_M_entries_157 : decode M_M_entries.2.1 157 = .ok (.getfield 43, 3) := by decide +kernel
theorem d_M_entries_160 : decode M_M_entries.2.1 160 = .ok (.bipush (8), 2) := by decide +kernel
theorem d_M_entries_162 : decode M_M_entries.2.1 162 = .ok (.iload_n 2, 1) := by decide +kernel
theorem d_M_entries_163 : decode M_M_entries.2.1 163 = .ok (.imul, 1) := by decide +kernel
theorem d_M_entries_164 : decode M_M_entries.2.1 164 = .ok (.iload 4, 2) := by decide +kernel
theorem d_M_entries_166 : decode M_M_entries.2.1 166 = .ok (.iadd, 1) := by decide +kernel
theorem d_M_entries_167 : decode M_M_entries.2.1 167 = .ok (.dup2, 1) := by decide +kernel
theorem d_M_entries_168 : decode M_M_entries.2.1 168 = .ok (.iaload, 1) := by decide +kernel
theorem d_M_entries_169 : decode M_M_entries.2.1 169 = .ok (.iconst (1), 1) := by decide +kernel
theorem d_M_entries_170 : decode M_M_entries.2.1 170 = .ok (.iadd, 1) := by decide +kernel
theorem d_M_entries_171 : decode M_M_entries.2.1 171 = .ok (.iastore, 1) := by decide +kernel
theorem d_M_entries_172 : decode M_M_entries.2.1 172 = .ok (.iload 5, 2) := by decide +kernel
theorem d_M_entries_174 : decode M_M_entries.2.1 174 = .ok (.iload_n 1, 1) := by decide +kernel
theorem d_M_entries_175 : decode M_M_entries.2.1 175 = .ok (.if_icmp .ge (19), 3) := by decide +kernel
theorem d_M_entries_178 : decode M_M_entries.2.1 178 = .ok (.aload_n 0, 1) := by decide +kernel
theorem d_M_entries_179 : decode M_M_entries.2.1 179 = .ok (.getfield 40, 3) := by decide +kernel
theorem d_M_entries_182 : decode M_M_entries.2.1 182 = .ok (.bipush (8), 2) := by decide +kernel
theorem d_M_entries_184 : decode M_M_entries.2.1 184 = .ok (.iload_n 2, 1) := by decide +kernel
theorem d_M_entries_185 : decode M_M_entries.2.1 185 = .ok (.imul, 1) := by decide +kernel
theorem d_M_entries_186 : decode M_M_entries.2.1 186 = .ok (.iload 5, 2) := by decide +kernel
theorem d_M_entries_188 : decode M_M_entries.2.1 188 = .ok (.iadd, 1) := by decide +kernel
theorem d_M_entries_189 : decode M_M_entries.2.1 189 = .ok (.dup2, 1) := by decide +kernel
theorem d_M_entries_190 : decode M_M_entries.2.1 190 = .ok (.iaload, 1) := by decide +kernel
theorem d_M_entries_191 : decode M_M_entries.2.1 191 = .ok (.iconst (1), 1) := by decide +kernel
theorem d_M_entries_192 : decode M_M_entries.2.1 192 = .ok (.isub, 1) := by decide +kernel
theorem d_M_entries_193 : decode M_M_entries.2.1 193 = .ok (.iastore, 1) := by decide +kernel
theorem d_M_entries_194 : decode M_M_entries.2.1 194 = .ok (.iinc 2 (1), 3) := by decide +kernel
theorem d_M_entries_197 : decode M_M_entries.2.1 197 = .ok (.goto (-167), 3) := by decide +kernel
theorem d_M_entries_200 : decode M_M_entries.2.1 200 = .ok (.return_, 1) := by decide +kernel
theorem d_M_expand_0 : decode M_M_expand.2.1 0 = .ok (.iconst (0), 1) := by decide +kernel
theorem d_M_expand_1 : decode M_M_expand.2.1 1 = .ok (.istore 4, 2) := by decide +kernel
theorem d_M_expand_3 : decode M_M_expand.2.1 3 = .ok (.iload_n 3, 1) := by decide +kernel
theorem d_M_expand_4 : decode M_M_expand.2.1 4 = .ok (.iconst (1), 1) := by decide +kernel
theorem d_M_expand_5 : decode M_M_expand.2.1 5 = .ok (.iadd, 1) := by decide +kernel
theorem d_M_expand_6 : decode M_M_expand.2.1 6 = .ok (.istore 5, 2) := by decide +kernel
theorem d_M_expand_8 : decode M_M_expand.2.1 8 = .ok (.iload 5, 2) := by decide +kernel
theorem d_M_expand_10 : decode M_M_expand.2.1 10 = .ok (.bipush (8), 2) := by decide +kernel
theorem d_M_expand_12 : decode M_M_expand.2.1 12 = .ok (.if_icmp .ge (30), 3) := by decide +kernel
theorem d_M_expand_15 : decode M_M_expand.2.1 15 = .ok (.iload_n 1, 1) := by decide +kernel
theorem d_M_expand_16 : decode M_M_expand.2.1 16 = .ok (.iload 5, 2) := by decide +kernel
theorem d_M_expand_18 : decode M_M_expand.2.1 18 = .ok (.ishr, 1) := by decide +kernel
theorem d_M_expand_19 : decode M_M_expand.2.1 19 = .ok (.iconst (1), 1) := by decide +kernel
theorem d_M_expand_20 : decode M_M_expand.2.1 20 = .ok (.iand, 1) := by decide +kernel
theorem d_M_expand_21 : decode M_M_expand.2.1 21 = .ok (.iconst (1), 1) := by decide +kernel
theorem d_M_expand_22 : decode M_M_expand.2.1 22 = .ok (.if_icmp .ne (10), 3) := by decide +kernel
theorem d_M_expand_25 : decode M_M_expand.2.1 25 = .ok (.iload 4, 2) := by decide +kernel
theorem d_M_expand_27 : decode M_M_expand.2.1 27 = .ok (.iconst (1), 1) := by decide +kernel
theorem d_M_expand_28 : decode M_M_expand.2.1 28 = .ok (.iadd, 1) := by decide +kernel
theorem d_M_expand_29 : decode M_M_expand.2.1 29 = .ok (.goto (5), 3) := by decide +kernel
theorem d_M_expand_32 : decode M_M_expand.2.1 32 = .ok (.iload 4, 2) := by decide +kernel
theorem d_M_expand_34 : decode M_M_expand.2.1 34 = .ok (.istore 4, 2) := by decide +kernel
theorem d_M_expand_36 : decode M_M_expand.2.1 36 = .ok (.iinc 5 (1), 3) := by decide +kernel
theorem d_M_expand_39 : decode M_M_expand.2.1 39 = .ok (.goto (-31), 3) := by decide +kernel
theorem d_M_expand_42 : decode M_M_expand.2.1 42 = .ok (.iload 4, 2) := by decide +kernel
theorem d_M_expand_44 : decode M_M_expand.2.1 44 = .ok (.iconst (2), 1) := by decide +kernel
theorem d_M_expand_45 : decode M_M_expand.2.1 45 = .ok (.irem, 1) := by decide +kernel
theorem d_M_expand_46 : decode M_M_expand.2.1 46 = .ok (.ifCond .ne (7), 3) := by decide +kernel
theorem d_M_expand_49 : decode M_M_expand.2.1 49 = .ok (.lconst 1, 1) := by decide +kernel
theorem d_M_expand_50 : decode M_M_expand.2.1 50 = .ok (.goto (6), 3) := by decide +kernel
theorem d_M_expand_53 : decode M_M_expand.2.1 53 = .ok (.ldc2_w 139, 3) := by decide +kernel
theorem d_M_expand_56 : decode M_M_expand.2.1 56 = .ok (.lstore 5, 2) := by decide +kernel
theorem d_M_expand_58 : decode M_M_expand.2.1 58 = .ok (.bipush (10), 2) := by decide +kernel
theorem d_M_expand_60 : decode M_M_expand.2.1 60 = .ok (.iload_n 1, 1) := by decide +kernel
theorem d_M_expand_61 : decode M_M_expand.2.1 61 = .ok (.iconst (1), 1) := by decide +kernel
theorem d_M_expand_62 : decode M_M_expand.2.1 62 = .ok (.iload_n 3, 1) := by decide +kernel
theorem d_M_expand_63 : decode M_M_expand.2.1 63 = .ok (.ishl, 1) := by decide +kernel
theorem d_M_expand_64 : decode M_M_expand.2.1 64 = .ok (.ior, 1) := by decide +kernel
theorem d_M_expand_65 : decode M_M_expand.2.1 65 = .ok (.imul, 1) := by decide +kernel
theorem d_M_expand_66 : decode M_M_expand.2.1 66 = .ok (.istore 7, 2) := by decide +kernel
theorem d_M_expand_68 : decode M_M_expand.2.1 68 = .ok (.iconst (0), 1) := by decide +kernel
theorem d_M_expand_69 : decode M_M_expand.2.1 69 = .ok (.istore 8, 2) := by decide +kernel
theorem d_M_expand_71 : decode M_M_expand.2.1 71 = .ok (.iload 8, 2) := by decide +kernel
theorem d_M_expand_73 : decode M_M_expand.2.1 73 = .ok (.bipush (9), 2) := by decide +kernel
theorem d_M_expand_75 : decode M_M_expand.2.1 75 = .ok (.if_icmp .ge (102), 3) := by decide +kernel
theorem d_M_expand_78 : decode M_M_expand.2.1 78 = .ok (.lload 5, 2) := by decide +kernel
theorem d_M_expand_80 : decode M_M_expand.2.1 80 = .ok (.aload_n 0, 1) := by decide +kernel
theorem d_M_expand_81 : decode M_M_expand.2.1 81 = .ok (.getfield 46, 3) := by decide +kernel
theorem d_M_expand_84 : decode M_M_expand.2.1 84 = .ok (.bipush (10), 2) := by decide +kernel
theorem d_M_expand_86 : decode M_M_expand.2.1 86 = .ok (.iload_n 1, 1) := by decide +kernel
theorem d_M_expand_87 : decode M_M_expand.2.1 87 = .ok (.imul, 1) := by decide +kernel
theorem d_M_expand_88 : decode M_M_expand.2.1 88 = .ok (.iload 8, 2) := by decide +kernel
theorem d_M_expand_90 : decode M_M_expand.2.1 90 = .ok (.iadd, 1) := by decide +kernel
theorem d_M_expand_91 : decode M_M_expand.2.1 91 = .ok (.laload, 1) := by decide +kernel
theorem d_M_expand_92 : decode M_M_expand.2.1 92 = .ok (.lmul, 1) := by decide +kernel
theorem d_M_expand_93 : decode M_M_expand.2.1 93 = .ok (.lstore 9, 2) := by decide +kernel
theorem d_M_expand_95 : decode M_M_expand.2.1 95 = .ok (.aload_n 0, 1) := by decide +kernel
theorem d_M_expand_96 : decode M_M_expand.2.1 96 = .ok (.getfield 46, 3) := by decide +kernel
theorem d_M_expand_99 : decode M_M_expand.2.1 99 = .ok (.iload 7, 2) := by decide +kernel
theorem d_M_expand_101 : decode M_M_expand.2.1 101 = .ok (.iload 8, 2) := by decide +kernel
theorem d_M_expand_103 : decode M_M_expand.2.1 103 = .ok (.iadd, 1) := by decide +kernel
theorem d_M_expand_104 : decode M_M_expand.2.1 104 = .ok (.aload_n 0, 1) := by decide +kernel
theorem d_M_expand_105 : decode M_M_expand.2.1 105 = .ok (.getfield 46, 3) := by decide +kernel
theorem d_M_expand_108 : decode M_M_expand.2.1 108 = .ok (.iload 7, 2) := by decide +kernel
theorem d_M_expand_110 : decode M_M_expand.2.1 110 = .ok (.iload 8, 2) := by decide +kernel
theorem d_M_expand_112 : decode M_M_expand.2.1 112 = .ok (.iadd, 1) := by decide +kernel
theorem d_M_expand_113 : decode M_M_expand.2.1 113 = .ok (.laload, 1) := by decide +kernel
theorem d_M_expand_114 : decode M_M_expand.2.1 114 = .ok (.lload 9, 2) := by decide +kernel
theorem d_M_expand_116 : decode M_M_expand.2.1 116 = .ok (.aload_n 0, 1) := by decide +kernel
theorem d_M_expand_117 : decode M_M_expand.2.1 117 = .ok (.getfield 40, 3) := by decide +kernel
theorem d_M_expand_120 : decode M_M_expand.2.1 120 = .ok (.bipush (8), 2) := by decide +kernel
theorem d_M_expand_122 : decode M_M_expand.2.1 122 = .ok (.iload_n 2, 1) := by decide +kernel
theorem d_M_expand_123 : decode M_M_expand.2.1 123 = .ok (.imul, 1) := by decide +kernel
theorem d_M_expand_124 : decode M_M_expand.2.1 124 = .ok (.iload_n 3, 1) := by decide +kernel
theorem d_M_expand_125 : decode M_M_expand.2.1 125 = .ok (.iadd, 1) := by decide +kernel
theorem d_M_expand_126 : decode M_M_expand.2.1 126 = .ok (.iaload, 1) := by decide +kernel
theorem d_M_expand_127 : decode M_M_expand.2.1 127 = .ok (.i2l, 1) := by decide +kernel
theorem d_M_expand_128 : decode M_M_expand.2.1 128 = .ok (.lmul, 1) := by decide +kernel
theorem d_M_expand_129 : decode M_M_expand.2.1 129 = .ok (.ladd, 1) := by decide +kernel
theorem d_M_expand_130 : decode M_M_expand.2.1 130 = .ok (.lastore, 1) := by decide +kernel
theorem d_M_expand_131 : decode M_M_expand.2.1 131 = .ok (.aload_n 0, 1) := by decide +kernel
theorem d_M_expand_132 : decode M_M_expand.2.1 132 = .ok (.getfield 46, 3) := by decide +kernel
theorem d_M_expand_135 : decode M_M_expand.2.1 135 = .ok (.iload 7, 2) := by decide +kernel
theorem d_M_expand_137 : decode M_M_expand.2.1 137 = .ok (.iload 8, 2) := by decide +kernel
theorem d_M_expand_139 : decode M_M_expand.2.1 139 = .ok (.iadd, 1) := by decide +kernel
theorem d_M_expand_140 : decode M_M_expand.2.1 140 = .ok (.iconst (1), 1) := by decide +kernel
theorem d_M_expand_141 : decode M_M_expand.2.1 141 = .ok (.iadd, 1) := by decide +kernel
theorem d_M_expand_142 : decode M_M_expand.2.1 142 = .ok (.aload_n 0, 1) := by decide +kernel
theorem d_M_expand_143 : decode M_M_expand.2.1 143 = .ok (.getfield 46, 3) := by decide +kernel
theorem d_M_expand_146 : decode M_M_expand.2.1 146 = .ok (.iload 7, 2) := by decide +kernel
theorem d_M_expand_148 : decode M_M_expand.2.1 148 = .ok (.iload 8, 2) := by decide +kernel
theorem d_M_expand_150 : decode M_M_expand.2.1 150 = .ok (.iadd, 1) := by decide +kernel
theorem d_M_expand_151 : decode M_M_expand.2.1 151 = .ok (.iconst (1), 1) := by decide +kernel
theorem d_M_expand_152 : decode M_M_expand.2.1 152 = .ok (.iadd, 1) := by decide +kernel
theorem d_M_expand_153 : decode M_M_expand.2.1 153 = .ok (.laload, 1) := by decide +kernel
theorem d_M_expand_154 : decode M_M_expand.2.1 154 = .ok (.lload 9, 2) := by decide +kernel
theorem d_M_expand_156 : decode M_M_expand.2.1 156 = .ok (.aload_n 0, 1) := by decide +kernel
theorem d_M_expand_157 : decode M_M_expand.2.1 157 = .ok (.getfield 43, 3) := by decide +kernel
theorem d_M_expand_160 : decode M_M_expand.2.1 160 = .ok (.bipush (8), 2) := by decide +kernel
theorem d_M_expand_162 : decode M_M_expand.2.1 162 = .ok (.iload_n 2, 1) := by decide +kernel
theorem d_M_expand_163 : decode M_M_expand.2.1 163 = .ok (.imul, 1) := by decide +kernel
theorem d_M_expand_164 : decode M_M_expand.2.1 164 = .ok (.iload_n 3, 1) := by decide +kernel
theorem d_M_expand_165 : decode M_M_expand.2.1 165 = .ok (.iadd, 1) := by decide +kernel
theorem d_M_expand_166 : decode M_M_expand.2.1 166 = .ok (.iaload, 1) := by decide +kernel
theorem d_M_expand_167 : decode M_M_expand.2.1 167 = .ok (.i2l, 1) := by decide +kernel
theorem d_M_expand_168 : decode M_M_expand.2.1 168 = .ok (.lmul, 1) := by decide +kernel
theorem d_M_expand_169 : decode M_M_expand.2.1 169 = .ok (.ladd, 1) := by decide +kernel
theorem d_M_expand_170 : decode M_M_expand.2.1 170 = .ok (.lastore, 1) := by decide +kernel
theorem d_M_expand_171 : decode M_M_expand.2.1 171 = .ok (.iinc 8 (1), 3) := by decide +kernel
theorem d_M_expand_174 : decode M_M_expand.2.1 174 = .ok (.goto (-103), 3) := by decide +kernel
theorem d_M_expand_177 : decode M_M_expand.2.1 177 = .ok (.return_, 1) := by decide +kernel
theorem d_M_ones_0 : decode M_M_ones.2.1 0 = .ok (.iconst (0), 1) := by decide +kernel
theorem d_M_ones_1 : decode M_M_ones.2.1 1 = .ok (.istore_n 1, 1) := by decide +kernel
theorem d_M_ones_2 : decode M_M_ones.2.1 2 = .ok (.iconst (0), 1) := by decide +kernel
theorem d_M_ones_3 : decode M_M_ones.2.1 3 = .ok (.istore_n 2, 1) := by decide +kernel
theorem d_M_ones_4 : decode M_M_ones.2.1 4 = .ok (.iload_n 2, 1) := by decide +kernel
theorem d_M_ones_5 : decode M_M_ones.2.1 5 = .ok (.bipush (8), 2) := by decide +kernel
theorem d_M_ones_7 : decode M_M_ones.2.1 7 = .ok (.if_icmp .ge (17), 3) := by decide +kernel
theorem d_M_ones_10 : decode M_M_ones.2.1 10 = .ok (.iload_n 1, 1) := by decide +kernel
theorem d_M_ones_11 : decode M_M_ones.2.1 11 = .ok (.iload_n 0, 1) := by decide +kernel
theorem d_M_ones_12 : decode M_M_ones.2.1 12 = .ok (.iload_n 2, 1) := by decide +kernel
theorem d_M_ones_13 : decode M_M_ones.2.1 13 = .ok (.ishr, 1) := by decide +kernel
theorem d_M_ones_14 : decode M_M_ones.2.1 14 = .ok (.iconst (1), 1) := by decide +kernel
theorem d_M_ones_15 : decode M_M_ones.2.1 15 = .ok (.iand, 1) := by decide +kernel
theorem d_M_ones_16 : decode M_M_ones.2.1 16 = .ok (.iadd, 1) := by decide +kernel
theorem d_M_ones_17 : decode M_M_ones.2.1 17 = .ok (.istore_n 1, 1) := by decide +kernel
theorem d_M_ones_18 : decode M_M_ones.2.1 18 = .ok (.iinc 2 (1), 3) := by decide +kernel
theorem d_M_ones_21 : decode M_M_ones.2.1 21 = .ok (.goto (-17), 3) := by decide +kernel
theorem d_M_ones_24 : decode M_M_ones.2.1 24 = .ok (.iload_n 1, 1) := by decide +kernel
theorem d_M_ones_25 : decode M_M_ones.2.1 25 = .ok (.ireturn, 1) := by decide +kernel
theorem d_M_second_0 : decode M_M_second.2.1 0 = .ok (.aload_n 0, 1) := by decide +kernel
theorem d_M_second_1 : decode M_M_second.2.1 1 = .ok (.invokevirtual 141, 3) := by decide +kernel
theorem d_M_second_4 : decode M_M_second.2.1 4 = .ok (.aload_n 0, 1) := by decide +kernel
theorem d_M_second_5 : decode M_M_second.2.1 5 = .ok (.getfield 133, 3) := by decide +kernel
theorem d_M_second_8 : decode M_M_second.2.1 8 = .ok (.iconst (1), 1) := by decide +kernel
theorem d_M_second_9 : decode M_M_second.2.1 9 = .ok (.isub, 1) := by decide +kernel
theorem d_M_second_10 : decode M_M_second.2.1 10 = .ok (.istore_n 2, 1) := by decide +kernel
theorem d_M_second_11 : decode M_M_second.2.1 11 = .ok (.iload_n 2, 1) := by decide +kernel
theorem d_M_second_12 : decode M_M_second.2.1 12 = .ok (.aload_n 0, 1) := by decide +kernel
theorem d_M_second_13 : decode M_M_second.2.1 13 = .ok (.getfield 66, 3) := by decide +kernel
theorem d_M_second_16 : decode M_M_second.2.1 16 = .ok (.if_icmp .gt (13), 3) := by decide +kernel
theorem d_M_second_19 : decode M_M_second.2.1 19 = .ok (.iload_n 1, 1) := by decide +kernel
theorem d_M_second_20 : decode M_M_second.2.1 20 = .ok (.ifCond .lt (9), 3) := by decide +kernel
theorem d_M_second_23 : decode M_M_second.2.1 23 = .ok (.iload_n 1, 1) := by decide +kernel
theorem d_M_second_24 : decode M_M_second.2.1 24 = .ok (.bipush (9), 2) := by decide +kernel
theorem d_M_second_26 : decode M_M_second.2.1 26 = .ok (.if_icmp .le (5), 3) := by decide +kernel
theorem d_M_second_29 : decode M_M_second.2.1 29 = .ok (.lconst 0, 1) := by decide +kernel
theorem d_M_second_30 : decode M_M_second.2.1 30 = .ok (.lreturn, 1) := by decide +kernel
theorem d_M_second_31 : decode M_M_second.2.1 31 = .ok (.aload_n 0, 1) := by decide +kernel
theorem d_M_second_32 : decode M_M_second.2.1 32 = .ok (.iload_n 2, 1) := by decide +kernel
theorem d_M_second_33 : decode M_M_second.2.1 33 = .ok (.invokevirtual 144, 3) := by decide +kernel
theorem d_M_second_36 : decode M_M_second.2.1 36 = .ok (.iconst (0), 1) := by decide +kernel
theorem d_M_second_37 : decode M_M_second.2.1 37 = .ok (.istore_n 3, 1) := by decide +kernel
theorem d_M_second_38 : decode M_M_second.2.1 38 = .ok (.iload_n 3, 1) := by decide +kernel
theorem d_M_second_39 : decode M_M_second.2.1 39 = .ok (.sipush (2560), 3) := by decide +kernel
theorem d_M_second_42 : decode M_M_second.2.1 42 = .ok (.if_icmp .ge (16), 3) := by decide +kernel
theorem d_M_second_45 : decode M_M_second.2.1 45 = .ok (.aload_n 0, 1) := by decide +kernel
theorem d_M_second_46 : decode M_M_second.2.1 46 = .ok (.getfield 46, 3) := by decide +kernel
theorem d_M_second_49 : decode M_M_second.2.1 49 = .ok (.iload_n 3, 1) := by decide +kernel
theorem d_M_second_50 : decode M_M_second.2.1 50 = .ok (.lconst 0, 1) := by decide +kernel
theorem d_M_second_51 : decode M_M_second.2.1 51 = .ok (.lastore, 1) := by decide +kernel
theorem d_M_second_52 : decode M_M_second.2.1 52 = .ok (.iinc 3 (1), 3) := by decide +kernel
theorem d_M_second_55 : decode M_M_second.2.1 55 = .ok (.goto (-17), 3) := by decide +kernel
theorem d_M_second_58 : decode M_M_second.2.1 58 = .ok (.aload_n 0, 1) := by decide +kernel
theorem d_M_second_59 : decode M_M_second.2.1 59 = .ok (.getfield 46, 3) := by decide +kernel
theorem d_M_second_62 : decode M_M_second.2.1 62 = .ok (.iconst (0), 1) := by decide +kernel
theorem d_M_second_63 : decode M_M_second.2.1 63 = .ok (.lconst 1, 1) := by decide +kernel
theorem d_M_second_64 : decode M_M_second.2.1 64 = .ok (.lastore, 1) := by decide +kernel
theorem d_M_second_65 : decode M_M_second.2.1 65 = .ok (.iconst (0), 1) := by decide +kernel
theorem d_M_second_66 : decode M_M_second.2.1 66 = .ok (.istore_n 3, 1) := by decide +kernel
theorem d_M_second_67 : decode M_M_second.2.1 67 = .ok (.iload_n 3, 1) := by decide +kernel
theorem d_M_second_68 : decode M_M_second.2.1 68 = .ok (.iconst (1), 1) := by decide +kernel
theorem d_M_second_69 : decode M_M_second.2.1 69 = .ok (.iload_n 2, 1) := by decide +kernel
theorem d_M_second_70 : decode M_M_second.2.1 70 = .ok (.ishl, 1) := by decide +kernel
theorem d_M_second_71 : decode M_M_second.2.1 71 = .ok (.iconst (1), 1) := by decide +kernel
theorem d_M_second_72 : decode M_M_second.2.1 72 = .ok (.isub, 1) := by decide +kernel
theorem d_M_second_73 : decode M_M_second.2.1 73 = .ok (.if_icmp .ge (48), 3) := by decide +kernel
theorem d_M_second_76 : decode M_M_second.2.1 76 = .ok (.iload_n 3, 1) := by decide +kernel
theorem d_M_second_77 : decode M_M_second.2.1 77 = .ok (.invokestatic 147, 3) := by decide +kernel
theorem d_M_second_80 : decode M_M_second.2.1 80 = .ok (.istore 4, 2) := by decide +kernel
theorem d_M_second_82 : decode M_M_second.2.1 82 = .ok (.iconst (0), 1) := by decide +kernel
theorem d_M_second_83 : decode M_M_second.2.1 83 = .ok (.istore 5, 2) := by decide +kernel
theorem d_M_second_85 : decode M_M_second.2.1 85 = .ok (.iload 5, 2) := by decide +kernel
theorem d_M_second_87 : decode M_M_second.2.1 87 = .ok (.iload_n 2, 1) := by decide +kernel
theorem d_M_second_88 : decode M_M_second.2.1 88 = .ok (.if_icmp .ge (27), 3) := by decide +kernel
theorem d_M_second_91 : decode M_M_second.2.1 91 = .ok (.iload_n 3, 1) := by decide +kernel
theorem d_M_second_92 : decode M_M_second.2.1 92 = .ok (.iload 5, 2) := by decide +kernel
theorem d_M_second_94 : decode M_M_second.2.1 94 = .ok (.ishr, 1) := by decide +kernel
theorem d_M_second_95 : decode M_M_second.2.1 95 = .ok (.iconst (1), 1) := by decide +kernel
theorem d_M_second_96 : decode M_M_second.2.1 96 = .ok (.iand, 1) := by decide +kernel
theorem d_M_second_97 : decode M_M_second.2.1 97 = .ok (.ifCond .ne (12), 3) := by decide +kernel
theorem d_M_second_100 : decode M_M_second.2.1 100 = .ok (.aload_n 0, 1) := by decide +kernel
theorem d_M_second_101 : decode M_M_second.2.1 101 = .ok (.iload_n 3, 1) := by decide +kernel
theorem d_M_second_102 : decode M_M_second.2.1 102 = .ok (.iload 4, 2) := by decide +kernel
theorem d_M_second_104 : decode M_M_second.2.1 104 = .ok (.iload 5, 2) := by decide +kernel
theorem d_M_second_106 : decode M_M_second.2.1 106 = .ok (.invokevirtual 150, 3) := by decide +kernel
theorem d_M_second_109 : decode M_M_second.2.1 109 = .ok (.iinc 5 (1), 3) := by decide +kernel
theorem d_M_second_112 : decode M_M_second.2.1 112 = .ok (.goto (-27), 3) := by decide +kernel
theorem d_M_second_115 : decode M_M_second.2.1 115 = .ok (.iinc 3 (1), 3) := by decide +kernel
theorem d_M_second_118 : decode M_M_second.2.1 118 = .ok (.goto (-51), 3) := by decide +kernel
theorem d_M_second_121 : decode M_M_second.2.1 121 = .ok (.bipush (10), 2) := by decide +kernel
theorem d_M_second_123 : decode M_M_second.2.1 123 = .ok (.iconst (1), 1) := by decide +kernel
theorem d_M_second_124 : decode M_M_second.2.1 124 = .ok (.iload_n 2, 1) := by decide +kernel
theorem d_M_second_125 : decode M_M_second.2.1 125 = .ok (.ishl, 1) := by decide +kernel
theorem d_M_second_126 : decode M_M_second.2.1 126 = .ok (.iconst (1), 1) := by decide +kernel
theorem d_M_second_127 : decode M_M_second.2.1 127 = .ok (.isub, 1) := by decide +kernel
theorem d_M_second_128 : decode M_M_second.2.1 128 = .ok (.imul, 1) := by decide +kernel
theorem d_M_second_129 : decode M_M_second.2.1 129 = .ok (.istore_n 3, 1) := by decide +kernel
theorem d_M_second_130 : decode M_M_second.2.1 130 = .ok (.iconst (0), 1) := by decide +kernel
theorem d_M_second_131 : decode M_M_second.2.1 131 = .ok (.istore 4, 2) := by decide +kernel
theorem d_M_second_133 : decode M_M_second.2.1 133 = .ok (.iconst (-1), 1) := by decide +kernel
theorem d_M_second_134 : decode M_M_second.2.1 134 = .ok (.istore 5, 2) := by decide +kernel
theorem d_M_second_136 : decode M_M_second.2.1 136 = .ok (.bipush (9), 2) := by decide +kernel
theorem d_M_second_138 : decode M_M_second.2.1 138 = .ok (.istore 6, 2) := by decide +kernel
theorem d_M_second_140 : decode M_M_second.2.1 140 = .ok (.iload 6, 2) := by decide +kernel
theorem d_M_second_142 : decode M_M_second.2.1 142 = .ok (.ifCond .lt (60), 3) := by decide +kernel
theorem d_M_second_145 : decode M_M_second.2.1 145 = .ok (.aload_n 0, 1) := by decide +kernel
theorem d_M_second_146 : decode M_M_second.2.1 146 = .ok (.getfield 46, 3) := by decide +kernel
theorem d_M_second_149 : decode M_M_second.2.1 149 = .ok (.iload_n 3, 1) := by decide +kernel
theorem d_M_second_150 : decode M_M_second.2.1 150 = .ok (.iload 6, 2) := by decide +kernel
theorem d_M_second_152 : decode M_M_second.2.1 152 = .ok (.iadd, 1) := by decide +kernel
theorem d_M_second_153 : decode M_M_second.2.1 153 = .ok (.laload, 1) := by decide +kernel
theorem d_M_second_154 : decode M_M_second.2.1 154 = .ok (.lconst 0, 1) := by decide +kernel
theorem d_M_second_155 : decode M_M_second.2.1 155 = .ok (.lcmp, 1) := by decide +kernel
theorem d_M_second_156 : decode M_M_second.2.1 156 = .ok (.ifCond .eq (8), 3) := by decide +kernel
theorem d_M_second_159 : decode M_M_second.2.1 159 = .ok (.iload 6, 2) := by decide +kernel
theorem d_M_second_161 : decode M_M_second.2.1 161 = .ok (.goto (5), 3) := by decide +kernel
theorem d_M_second_164 : decode M_M_second.2.1 164 = .ok (.iload 4, 2) := by decide +kernel
theorem d_M_second_166 : decode M_M_second.2.1 166 = .ok (.istore 4, 2) := by decide +kernel
theorem d_M_second_168 : decode M_M_second.2.1 168 = .ok (.iload 5, 2) := by decide +kernel
theorem d_M_second_170 : decode M_M_second.2.1 170 = .ok (.ifCond .ge (22), 3) := by decide +kernel
theorem d_M_second_173 : decode M_M_second.2.1 173 = .ok (.aload_n 0, 1) := by decide +kernel
theorem d_M_second_174 : decode M_M_second.2.1 174 = .ok (.getfield 46, 3) := by decide +kernel
theorem d_M_second_177 : decode M_M_second.2.1 177 = .ok (.iload_n 3, 1) := by decide +kernel
theorem d_M_second_178 : decode M_M_second.2.1 178 = .ok (.iload 6, 2) := by decide +kernel
theorem d_M_second_180 : decode M_M_second.2.1 180 = .ok (.iadd, 1) := by decide +kernel
theorem d_M_second_181 : decode M_M_second.2.1 181 = .ok (.laload, 1) := by decide +kernel
theorem d_M_second_182 : decode M_M_second.2.1 182 = .ok (.lconst 0, 1) := by decide +kernel
theorem d_M_second_183 : decode M_M_second.2.1 183 = .ok (.lcmp, 1) := by decide +kernel
theorem d_M_second_184 : decode M_M_second.2.1 184 = .ok (.ifCond .eq (8), 3) := by decide +kernel
theorem d_M_second_187 : decode M_M_second.2.1 187 = .ok (.iload 6, 2) := by decide +kernel
theorem d_M_second_189 : decode M_M_second.2.1 189 = .ok (.goto (5), 3) := by decide +kernel
theorem d_M_second_192 : decode M_M_second.2.1 192 = .ok (.iload 5, 2) := by decide +kernel
theorem d_M_second_194 : decode M_M_second.2.1 194 = .ok (.istore 5, 2) := by decide +kernel
theorem d_M_second_196 : decode M_M_second.2.1 196 = .ok (.iinc 6 (-1), 3) := by decide +kernel
theorem d_M_second_199 : decode M_M_second.2.1 199 = .ok (.goto (-59), 3) := by decide +kernel
theorem d_M_second_202 : decode M_M_second.2.1 202 = .ok (.iload 5, 2) := by decide +kernel
theorem d_M_second_204 : decode M_M_second.2.1 204 = .ok (.ifCond .lt (12), 3) := by decide +kernel
theorem d_M_second_207 : decode M_M_second.2.1 207 = .ok (.iload 4, 2) := by decide +kernel
theorem d_M_second_209 : decode M_M_second.2.1 209 = .ok (.iload_n 1, 1) := by decide +kernel
theorem d_M_second_210 : decode M_M_second.2.1 210 = .ok (.iadd, 1) := by decide +kernel
theorem d_M_second_211 : decode M_M_second.2.1 211 = .ok (.bipush (9), 2) := by decide +kernel
theorem d_M_second_213 : decode M_M_second.2.1 213 = .ok (.if_icmp .le (5), 3) := by decide +kernel
theorem d_M_second_216 : decode M_M_second.2.1 216 = .ok (.lconst 0, 1) := by decide +kernel
theorem d_M_second_217 : decode M_M_second.2.1 217 = .ok (.lreturn, 1) := by decide +kernel
theorem d_M_second_218 : decode M_M_second.2.1 218 = .ok (.aload_n 0, 1) := by decide +kernel
theorem d_M_second_219 : decode M_M_second.2.1 219 = .ok (.getfield 46, 3) := by decide +kernel
theorem d_M_second_222 : decode M_M_second.2.1 222 = .ok (.iload_n 3, 1) := by decide +kernel
theorem d_M_second_223 : decode M_M_second.2.1 223 = .ok (.iload 5, 2) := by decide +kernel
theorem d_M_second_225 : decode M_M_second.2.1 225 = .ok (.iadd, 1) := by decide +kernel
theorem d_M_second_226 : decode M_M_second.2.1 226 = .ok (.laload, 1) := by decide +kernel
theorem d_M_second_227 : decode M_M_second.2.1 227 = .ok (.lconst 0, 1) := by decide +kernel
theorem d_M_second_228 : decode M_M_second.2.1 228 = .ok (.lcmp, 1) := by decide +kernel
theorem d_M_second_229 : decode M_M_second.2.1 229 = .ok (.ifCond .ge (18), 3) := by decide +kernel
theorem d_M_second_232 : decode M_M_second.2.1 232 = .ok (.aload_n 0, 1) := by decide +kernel
theorem d_M_second_233 : decode M_M_second.2.1 233 = .ok (.getfield 46, 3) := by decide +kernel
theorem d_M_second_236 : decode M_M_second.2.1 236 = .ok (.iload_n 3, 1) := by decide +kernel
theorem d_M_second_237 : decode M_M_second.2.1 237 = .ok (.iload 4, 2) := by decide +kernel
theorem d_M_second_239 : decode M_M_second.2.1 239 = .ok (.iadd, 1) := by decide +kernel
theorem d_M_second_240 : decode M_M_second.2.1 240 = .ok (.iload_n 1, 1) := by decide +kernel
theorem d_M_second_241 : decode M_M_second.2.1 241 = .ok (.iadd, 1) := by decide +kernel
theorem d_M_second_242 : decode M_M_second.2.1 242 = .ok (.laload, 1) := by decide +kernel
theorem d_M_second_243 : decode M_M_second.2.1 243 = .ok (.lneg, 1) := by decide +kernel
theorem d_M_second_244 : decode M_M_second.2.1 244 = .ok (.goto (14), 3) := by decide +kernel
theorem d_M_second_247 : decode M_M_second.2.1 247 = .ok (.aload_n 0, 1) := by decide +kernel
theorem d_M_second_248 : decode M_M_second.2.1 248 = .ok (.getfield 46, 3) := by decide +kernel
theorem d_M_second_251 : decode M_M_second.2.1 251 = .ok (.iload_n 3, 1) := by decide +kernel
theorem d_M_second_252 : decode M_M_second.2.1 252 = .ok (.iload 4, 2) := by decide +kernel
theorem d_M_second_254 : decode M_M_second.2.1 254 = .ok (.iadd, 1) := by decide +kernel
theorem d_M_second_255 : decode M_M_second.2.1 255 = .ok (.iload_n 1, 1) := by decide +kernel
theorem d_M_second_256 : decode M_M_second.2.1 256 = .ok (.iadd, 1) := by decide +kernel
theorem d_M_second_257 : decode M_M_second.2.1 257 = .ok (.laload, 1) := by decide +kernel
theorem d_M_second_258 : decode M_M_second.2.1 258 = .ok (.lreturn, 1) := by decide +kernel
theorem d_M_free_0 : decode M_M_free.2.1 0 = .ok (.iload_n 1, 1) := by decide +kernel
theorem d_M_free_1 : decode M_M_free.2.1 1 = .ok (.istore_n 2, 1) := by decide +kernel
theorem d_M_free_2 : decode M_M_free.2.1 2 = .ok (.iconst (1), 1) := by decide +kernel
theorem d_M_free_3 : decode M_M_free.2.1 3 = .ok (.istore_n 3, 1) := by decide +kernel
theorem d_M_free_4 : decode M_M_free.2.1 4 = .ok (.iload_n 3, 1) := by decide +kernel
theorem d_M_free_5 : decode M_M_free.2.1 5 = .ok (.bipush (33), 2) := by decide +kernel
theorem d_M_free_7 : decode M_M_free.2.1 7 = .ok (.if_icmp .ge (40), 3) := by decide +kernel
theorem d_M_free_10 : decode M_M_free.2.1 10 = .ok (.aload_n 0, 1) := by decide +kernel
theorem d_M_free_11 : decode M_M_free.2.1 11 = .ok (.iload_n 3, 1) := by decide +kernel
theorem d_M_free_12 : decode M_M_free.2.1 12 = .ok (.invokevirtual 136, 3) := by decide +kernel
theorem d_M_free_15 : decode M_M_free.2.1 15 = .ok (.istore 4, 2) := by decide +kernel
theorem d_M_free_17 : decode M_M_free.2.1 17 = .ok (.iload 4, 2) := by decide +kernel
theorem d_M_free_19 : decode M_M_free.2.1 19 = .ok (.ifCond .ne (9), 3) := by decide +kernel
theorem d_M_free_22 : decode M_M_free.2.1 22 = .ok (.iload_n 2, 1) := by decide +kernel
theorem d_M_free_23 : decode M_M_free.2.1 23 = .ok (.ifCond .ne (5), 3) := by decide +kernel
theorem d_M_free_26 : decode M_M_free.2.1 26 = .ok (.iload_n 3, 1) := by decide +kernel
theorem d_M_free_27 : decode M_M_free.2.1 27 = .ok (.ireturn, 1) := by decide +kernel
theorem d_M_free_28 : decode M_M_free.2.1 28 = .ok (.iload 4, 2) := by decide +kernel
theorem d_M_free_30 : decode M_M_free.2.1 30 = .ok (.ifCond .eq (7), 3) := by decide +kernel
theorem d_M_free_33 : decode M_M_free.2.1 33 = .ok (.iload_n 2, 1) := by decide +kernel
theorem d_M_free_34 : decode M_M_free.2.1 34 = .ok (.goto (6), 3) := by decide +kernel
theorem d_M_free_37 : decode M_M_free.2.1 37 = .ok (.iload_n 2, 1) := by decide +kernel
theorem d_M_free_38 : decode M_M_free.2.1 38 = .ok (.iconst (1), 1) := by decide +kernel
theorem d_M_free_39 : decode M_M_free.2.1 39 = .ok (.isub, 1) := by decide +kernel
theorem d_M_free_40 : decode M_M_free.2.1 40 = .ok (.istore_n 2, 1) := by decide +kernel
theorem d_M_free_41 : decode M_M_free.2.1 41 = .ok (.iinc 3 (1), 3) := by decide +kernel
theorem d_M_free_44 : decode M_M_free.2.1 44 = .ok (.goto (-40), 3) := by decide +kernel
theorem d_M_free_47 : decode M_M_free.2.1 47 = .ok (.iconst (0), 1) := by decide +kernel
theorem d_M_free_48 : decode M_M_free.2.1 48 = .ok (.ireturn, 1) := by decide +kernel
theorem d_M_endOf_0 : decode M_M_endOf.2.1 0 = .ok (.iconst (0), 1) := by decide +kernel
theorem d_M_endOf_1 : decode M_M_endOf.2.1 1 = .ok (.istore_n 3, 1) := by decide +kernel
theorem d_M_endOf_2 : decode M_M_endOf.2.1 2 = .ok (.iload_n 3, 1) := by decide +kernel
theorem d_M_endOf_3 : decode M_M_endOf.2.1 3 = .ok (.iconst (4), 1) := by decide +kernel
theorem d_M_endOf_4 : decode M_M_endOf.2.1 4 = .ok (.aload_n 0, 1) := by decide +kernel
theorem d_M_endOf_5 : decode M_M_endOf.2.1 5 = .ok (.getfield 66, 3) := by decide +kernel
theorem d_M_endOf_8 : decode M_M_endOf.2.1 8 = .ok (.imul, 1) := by decide +kernel
theorem d_M_endOf_9 : decode M_M_endOf.2.1 9 = .ok (.if_icmp .ge (30), 3) := by decide +kernel
theorem d_M_endOf_12 : decode M_M_endOf.2.1 12 = .ok (.aload_n 0, 1) := by decide +kernel
theorem d_M_endOf_13 : decode M_M_endOf.2.1 13 = .ok (.getfield 7, 3) := by decide +kernel
theorem d_M_endOf_16 : decode M_M_endOf.2.1 16 = .ok (.iload_n 3, 1) := by decide +kernel
theorem d_M_endOf_17 : decode M_M_endOf.2.1 17 = .ok (.iaload, 1) := by decide +kernel
theorem d_M_endOf_18 : decode M_M_endOf.2.1 18 = .ok (.iload_n 1, 1) := by decide +kernel
theorem d_M_endOf_19 : decode M_M_endOf.2.1 19 = .ok (.if_icmp .ne (14), 3) := by decide +kernel
theorem d_M_endOf_22 : decode M_M_endOf.2.1 22 = .ok (.aload_n 0, 1) := by decide +kernel
theorem d_M_endOf_23 : decode M_M_endOf.2.1 23 = .ok (.iload_n 3, 1) := by decide +kernel
theorem d_M_endOf_24 : decode M_M_endOf.2.1 24 = .ok (.invokevirtual 76, 3) := by decide +kernel
theorem d_M_endOf_27 : decode M_M_endOf.2.1 27 = .ok (.iload_n 2, 1) := by decide +kernel
theorem d_M_endOf_28 : decode M_M_endOf.2.1 28 = .ok (.if_icmp .ne (5), 3) := by decide +kernel
theorem d_M_endOf_31 : decode M_M_endOf.2.1 31 = .ok (.iload_n 3, 1) := by decide +kernel
theorem d_M_endOf_32 : decode M_M_endOf.2.1 32 = .ok (.ireturn, 1) := by decide +kernel
theorem d_M_endOf_33 : decode M_M_endOf.2.1 33 = .ok (.iinc 3 (1), 3) := by decide +kernel
theorem d_M_endOf_36 : decode M_M_endOf.2.1 36 = .ok (.goto (-34), 3) := by decide +kernel
theorem d_M_endOf_39 : decode M_M_endOf.2.1 39 = .ok (.iconst (-1), 1) := by decide +kernel
theorem d_M_endOf_40 : decode M_M_endOf.2.1 40 = .ok (.ireturn, 1) := by decide +kernel
theorem d_M_instead_0 : decode M_M_instead.2.1 0 = .ok (.aload_n 0, 1) := by decide +kernel
theorem d_M_instead_1 : decode M_M_instead.2.1 1 = .ok (.iload_n 2, 1) := by decide +kernel
theorem d_M_instead_2 : decode M_M_instead.2.1 2 = .ok (.iconst (1), 1) := by decide +kernel
theorem d_M_instead_3 : decode M_M_instead.2.1 3 = .ok (.invokevirtual 154, 3) := by decide +kernel
theorem d_M_instead_6 : decode M_M_instead.2.1 6 = .ok (.istore_n 3, 1) := by decide +kernel
theorem d_M_instead_7 : decode M_M_instead.2.1 7 = .ok (.iload_n 3, 1) := by decide +kernel
theorem d_M_instead_8 : decode M_M_instead.2.1 8 = .ok (.ifCond .lt (10), 3) := by decide +kernel
theorem d_M_instead_11 : decode M_M_instead.2.1 11 = .ok (.aload_n 0, 1) := by decide +kernel
theorem d_M_instead_12 : decode M_M_instead.2.1 12 = .ok (.getfield 7, 3) := by decide +kernel
theorem d_M_instead_15 : decode M_M_instead.2.1 15 = .ok (.iload_n 3, 1) := by decide +kernel
theorem d_M_instead_16 : decode M_M_instead.2.1 16 = .ok (.iload_n 1, 1) := by decide +kernel
theorem d_M_instead_17 : decode M_M_instead.2.1 17 = .ok (.iastore, 1) := by decide +kernel
theorem d_M_instead_18 : decode M_M_instead.2.1 18 = .ok (.return_, 1) := by decide +kernel
theorem d_M_join_0 : decode M_M_join.2.1 0 = .ok (.iload_n 1, 1) := by decide +kernel
theorem d_M_join_1 : decode M_M_join.2.1 1 = .ok (.iload_n 2, 1) := by decide +kernel
theorem d_M_join_2 : decode M_M_join.2.1 2 = .ok (.if_icmp .ne (16), 3) := by decide +kernel
theorem d_M_join_5 : decode M_M_join.2.1 5 = .ok (.aload_n 0, 1) := by decide +kernel
theorem d_M_join_6 : decode M_M_join.2.1 6 = .ok (.dup, 1) := by decide +kernel
theorem d_M_join_7 : decode M_M_join.2.1 7 = .ok (.getfield 17, 3) := by decide +kernel
theorem d_M_join_10 : decode M_M_join.2.1 10 = .ok (.iconst (1), 1) := by decide +kernel
theorem d_M_join_11 : decode M_M_join.2.1 11 = .ok (.iadd, 1) := by decide +kernel
theorem d_M_join_12 : decode M_M_join.2.1 12 = .ok (.putfield 17, 3) := by decide +kernel
theorem d_M_join_15 : decode M_M_join.2.1 15 = .ok (.goto (9), 3) := by decide +kernel
theorem d_M_join_18 : decode M_M_join.2.1 18 = .ok (.aload_n 0, 1) := by decide +kernel
theorem d_M_join_19 : decode M_M_join.2.1 19 = .ok (.iload_n 1, 1) := by decide +kernel
theorem d_M_join_20 : decode M_M_join.2.1 20 = .ok (.iload_n 2, 1) := by decide +kernel
theorem d_M_join_21 : decode M_M_join.2.1 21 = .ok (.invokevirtual 158, 3) := by decide +kernel
theorem d_M_join_24 : decode M_M_join.2.1 24 = .ok (.return_, 1) := by decide +kernel
theorem d_M_takeOut_0 : decode M_M_takeOut.2.1 0 = .ok (.iconst (4), 1) := by decide +kernel
theorem d_M_takeOut_1 : decode M_M_takeOut.2.1 1 = .ok (.iload_n 1, 1) := by decide +kernel
theorem d_M_takeOut_2 : decode M_M_takeOut.2.1 2 = .ok (.imul, 1) := by decide +kernel
theorem d_M_takeOut_3 : decode M_M_takeOut.2.1 3 = .ok (.istore_n 2, 1) := by decide +kernel
theorem d_M_takeOut_4 : decode M_M_takeOut.2.1 4 = .ok (.iload_n 2, 1) := by decide +kernel
theorem d_M_takeOut_5 : decode M_M_takeOut.2.1 5 = .ok (.bipush (28), 2) := by decide +kernel
theorem d_M_takeOut_7 : decode M_M_takeOut.2.1 7 = .ok (.if_icmp .ge (23), 3) := by decide +kernel
theorem d_M_takeOut_10 : decode M_M_takeOut.2.1 10 = .ok (.aload_n 0, 1) := by decide +kernel
theorem d_M_takeOut_11 : decode M_M_takeOut.2.1 11 = .ok (.getfield 7, 3) := by decide +kernel
theorem d_M_takeOut_14 : decode M_M_takeOut.2.1 14 = .ok (.iload_n 2, 1) := by decide +kernel
theorem d_M_takeOut_15 : decode M_M_takeOut.2.1 15 = .ok (.aload_n 0, 1) := by decide +kernel
theorem d_M_takeOut_16 : decode M_M_takeOut.2.1 16 = .ok (.getfield 7, 3) := by decide +kernel
theorem d_M_takeOut_19 : decode M_M_takeOut.2.1 19 = .ok (.iload_n 2, 1) := by decide +kernel
theorem d_M_takeOut_20 : decode M_M_takeOut.2.1 20 = .ok (.iconst (4), 1) := by decide +kernel
theorem d_M_takeOut_21 : decode M_M_takeOut.2.1 21 = .ok (.iadd, 1) := by decide +kernel
theorem d_M_takeOut_22 : decode M_M_takeOut.2.1 22 = .ok (.iaload, 1) := by decide +kernel
theorem d_M_takeOut_23 : decode M_M_takeOut.2.1 23 = .ok (.iastore, 1) := by decide +kernel
theorem d_M_takeOut_24 : decode M_M_takeOut.2.1 24 = .ok (.iinc 2 (1), 3) := by decide +kernel
theorem d_M_takeOut_27 : decode M_M_takeOut.2.1 27 = .ok (.goto (-23), 3) := by decide +kernel
theorem d_M_takeOut_30 : decode M_M_takeOut.2.1 30 = .ok (.iload_n 1, 1) := by decide +kernel
theorem d_M_takeOut_31 : decode M_M_takeOut.2.1 31 = .ok (.istore_n 2, 1) := by decide +kernel
theorem d_M_takeOut_32 : decode M_M_takeOut.2.1 32 = .ok (.iload_n 2, 1) := by decide +kernel
theorem d_M_takeOut_33 : decode M_M_takeOut.2.1 33 = .ok (.bipush (7), 2) := by decide +kernel
theorem d_M_takeOut_35 : decode M_M_takeOut.2.1 35 = .ok (.if_icmp .ge (23), 3) := by decide +kernel
theorem d_M_takeOut_38 : decode M_M_takeOut.2.1 38 = .ok (.aload_n 0, 1) := by decide +kernel
theorem d_M_takeOut_39 : decode M_M_takeOut.2.1 39 = .ok (.getfield 13, 3) := by decide +kernel
theorem d_M_takeOut_42 : decode M_M_takeOut.2.1 42 = .ok (.iload_n 2, 1) := by decide +kernel
theorem d_M_takeOut_43 : decode M_M_takeOut.2.1 43 = .ok (.aload_n 0, 1) := by decide +kernel
theorem d_M_takeOut_44 : decode M_M_takeOut.2.1 44 = .ok (.getfield 13, 3) := by decide +kernel
theorem d_M_takeOut_47 : decode M_M_takeOut.2.1 47 = .ok (.iload_n 2, 1) := by decide +kernel
theorem d_M_takeOut_48 : decode M_M_takeOut.2.1 48 = .ok (.iconst (1), 1) := by decide +kernel
theorem d_M_takeOut_49 : decode M_M_takeOut.2.1 49 = .ok (.iadd, 1) := by decide +kernel
theorem d_M_takeOut_50 : decode M_M_takeOut.2.1 50 = .ok (.baload, 1) := by decide +kernel
theorem d_M_takeOut_51 : decode M_M_takeOut.2.1 51 = .ok (.bastore, 1) := by decide +kernel
theorem d_M_takeOut_52 : decode M_M_takeOut.2.1 52 = .ok (.iinc 2 (1), 3) := by decide +kernel
theorem d_M_takeOut_55 : decode M_M_takeOut.2.1 55 = .ok (.goto (-23), 3) := by decide +kernel
theorem d_M_takeOut_58 : decode M_M_takeOut.2.1 58 = .ok (.aload_n 0, 1) := by decide +kernel
theorem d_M_takeOut_59 : decode M_M_takeOut.2.1 59 = .ok (.dup, 1) := by decide +kernel
theorem d_M_takeOut_60 : decode M_M_takeOut.2.1 60 = .ok (.getfield 66, 3) := by decide +kernel
theorem d_M_takeOut_63 : decode M_M_takeOut.2.1 63 = .ok (.iconst (1), 1) := by decide +kernel
theorem d_M_takeOut_64 : decode M_M_takeOut.2.1 64 = .ok (.isub, 1) := by decide +kernel
theorem d_M_takeOut_65 : decode M_M_takeOut.2.1 65 = .ok (.putfield 66, 3) := by decide +kernel
theorem d_M_takeOut_68 : decode M_M_takeOut.2.1 68 = .ok (.return_, 1) := by decide +kernel
theorem d_M_kink_0 : decode M_M_kink.2.1 0 = .ok (.aload_n 0, 1) := by decide +kernel
theorem d_M_kink_1 : decode M_M_kink.2.1 1 = .ok (.getfield 66, 3) := by decide +kernel
theorem d_M_kink_4 : decode M_M_kink.2.1 4 = .ok (.istore 5, 2) := by decide +kernel
theorem d_M_kink_6 : decode M_M_kink.2.1 6 = .ok (.iload_n 1, 1) := by decide +kernel
theorem d_M_kink_7 : decode M_M_kink.2.1 7 = .ok (.ifCond .ne (18), 3) := by decide +kernel
theorem d_M_kink_10 : decode M_M_kink.2.1 10 = .ok (.aload_n 0, 1) := by decide +kernel
theorem d_M_kink_11 : decode M_M_kink.2.1 11 = .ok (.iload 5, 2) := by decide +kernel
theorem d_M_kink_13 : decode M_M_kink.2.1 13 = .ok (.iload_n 2, 1) := by decide +kernel
theorem d_M_kink_14 : decode M_M_kink.2.1 14 = .ok (.iload 4, 2) := by decide +kernel
theorem d_M_kink_16 : decode M_M_kink.2.1 16 = .ok (.iload_n 3, 1) := by decide +kernel
theorem d_M_kink_17 : decode M_M_kink.2.1 17 = .ok (.iload_n 3, 1) := by decide +kernel
theorem d_M_kink_18 : decode M_M_kink.2.1 18 = .ok (.iconst (1), 1) := by decide +kernel
theorem d_M_kink_19 : decode M_M_kink.2.1 19 = .ok (.invokevirtual 59, 3) := by decide +kernel
theorem d_M_kink_22 : decode M_M_kink.2.1 22 = .ok (.goto (55), 3) := by decide +kernel
theorem d_M_kink_25 : decode M_M_kink.2.1 25 = .ok (.iload_n 1, 1) := by decide +kernel
theorem d_M_kink_26 : decode M_M_kink.2.1 26 = .ok (.iconst (1), 1) := by decide +kernel
theorem d_M_kink_27 : decode M_M_kink.2.1 27 = .ok (.if_icmp .ne (18), 3) := by decide +kernel
theorem d_M_kink_30 : decode M_M_kink.2.1 30 = .ok (.aload_n 0, 1) := by decide +kernel
theorem d_M_kink_31 : decode M_M_kink.2.1 31 = .ok (.iload 5, 2) := by decide +kernel
theorem d_M_kink_33 : decode M_M_kink.2.1 33 = .ok (.iload_n 2, 1) := by decide +kernel
theorem d_M_kink_34 : decode M_M_kink.2.1 34 = .ok (.iload_n 3, 1) := by decide +kernel
theorem d_M_kink_35 : decode M_M_kink.2.1 35 = .ok (.iload_n 3, 1) := by decide +kernel
theorem d_M_kink_36 : decode M_M_kink.2.1 36 = .ok (.iload 4, 2) := by decide +kernel
theorem d_M_kink_38 : decode M_M_kink.2.1 38 = .ok (.iconst (0), 1) := by decide +kernel
theorem d_M_kink_39 : decode M_M_kink.2.1 39 = .ok (.invokevirtual 59, 3) := by decide +kernel
theorem d_M_kink_42 : decode M_M_kink.2.1 42 = .ok (.goto (35), 3) := by decide +kernel
theorem d_M_kink_45 : decode M_M_kink.2.1 45 = .ok (.iload_n 1, 1) := by decide +kernel
theorem d_M_kink_46 : decode M_M_kink.2.1 46 = .ok (.iconst (2), 1) := by decide +kernel
theorem d_M_kink_47 : decode M_M_kink.2.1 47 = .ok (.if_icmp .ne (18), 3) := by decide +kernel
theorem d_M_kink_50 : decode M_M_kink.2.1 50 = .ok (.aload_n 0, 1) := by decide +kernel
theorem d_M_kink_51 : decode M_M_kink.2.1 51 = .ok (.iload 5, 2) := by decide +kernel
theorem d_M_kink_53 : decode M_M_kink.2.1 53 = .ok (.iload_n 3, 1) := by decide +kernel
theorem d_M_kink_54 : decode M_M_kink.2.1 54 = .ok (.iload_n 3, 1) := by decide +kernel
theorem d_M_kink_55 : decode M_M_kink.2.1 55 = .ok (.iload 4, 2) := by decide +kernel
theorem d_M_kink_57 : decode M_M_kink.2.1 57 = .ok (.iload_n 2, 1) := by decide +kernel
theorem d_M_kink_58 : decode M_M_kink.2.1 58 = .ok (.iconst (1), 1) := by decide +kernel
theorem d_M_kink_59 : decode M_M_kink.2.1 59 = .ok (.invokevirtual 59, 3) := by decide +kernel
theorem d_M_kink_62 : decode M_M_kink.2.1 62 = .ok (.goto (15), 3) := by decide +kernel
theorem d_M_kink_65 : decode M_M_kink.2.1 65 = .ok (.aload_n 0, 1) := by decide +kernel
theorem d_M_kink_66 : decode M_M_kink.2.1 66 = .ok (.iload 5, 2) := by decide +kernel
theorem d_M_kink_68 : decode M_M_kink.2.1 68 = .ok (.iload_n 3, 1) := by decide +kernel
theorem d_M_kink_69 : decode M_M_kink.2.1 69 = .ok (.iload_n 2, 1) := by decide +kernel
theorem d_M_kink_70 : decode M_M_kink.2.1 70 = .ok (.iload 4, 2) := by decide +kernel
theorem d_M_kink_72 : decode M_M_kink.2.1 72 = .ok (.iload_n 3, 1) := by decide +kernel
theorem d_M_kink_73 : decode M_M_kink.2.1 73 = .ok (.iconst (0), 1) := by decide +kernel
theorem d_M_kink_74 : decode M_M_kink.2.1 74 = .ok (.invokevirtual 59, 3) := by decide +kernel
theorem d_M_kink_77 : decode M_M_kink.2.1 77 = .ok (.aload_n 0, 1) := by decide +kernel
theorem d_M_kink_78 : decode M_M_kink.2.1 78 = .ok (.dup, 1) := by decide +kernel
theorem d_M_kink_79 : decode M_M_kink.2.1 79 = .ok (.getfield 66, 3) := by decide +kernel
theorem d_M_kink_82 : decode M_M_kink.2.1 82 = .ok (.iconst (1), 1) := by decide +kernel
theorem d_M_kink_83 : decode M_M_kink.2.1 83 = .ok (.iadd, 1) := by decide +kernel
theorem d_M_kink_84 : decode M_M_kink.2.1 84 = .ok (.putfield 66, 3) := by decide +kernel
theorem d_M_kink_87 : decode M_M_kink.2.1 87 = .ok (.return_, 1) := by decide +kernel
theorem d_M_twist_0 : decode M_M_twist.2.1 0 = .ok (.aload_n 0, 1) := by decide +kernel
theorem d_M_twist_1 : decode M_M_twist.2.1 1 = .ok (.getfield 66, 3) := by decide +kernel
theorem d_M_twist_4 : decode M_M_twist.2.1 4 = .ok (.bipush (8), 2) := by decide +kernel
theorem d_M_twist_6 : decode M_M_twist.2.1 6 = .ok (.if_icmp .eq (41), 3) := by decide +kernel
theorem d_M_twist_9 : decode M_M_twist.2.1 9 = .ok (.iload_n 2, 1) := by decide +kernel
theorem d_M_twist_10 : decode M_M_twist.2.1 10 = .ok (.ifCond .lt (37), 3) := by decide +kernel
theorem d_M_twist_13 : decode M_M_twist.2.1 13 = .ok (.iload_n 2, 1) := by decide +kernel
theorem d_M_twist_14 : decode M_M_twist.2.1 14 = .ok (.iconst (3), 1) := by decide +kernel
theorem d_M_twist_15 : decode M_M_twist.2.1 15 = .ok (.if_icmp .gt (32), 3) := by decide +kernel
theorem d_M_twist_18 : decode M_M_twist.2.1 18 = .ok (.iload_n 1, 1) := by decide +kernel
theorem d_M_twist_19 : decode M_M_twist.2.1 19 = .ok (.ifCond .ne (13), 3) := by decide +kernel
theorem d_M_twist_22 : decode M_M_twist.2.1 22 = .ok (.aload_n 0, 1) := by decide +kernel
theorem d_M_twist_23 : decode M_M_twist.2.1 23 = .ok (.getfield 17, 3) := by decide +kernel
theorem d_M_twist_26 : decode M_M_twist.2.1 26 = .ok (.ifCond .ne (23), 3) := by decide +kernel
theorem d_M_twist_29 : decode M_M_twist.2.1 29 = .ok (.goto (18), 3) := by decide +kernel
theorem d_M_twist_32 : decode M_M_twist.2.1 32 = .ok (.iload_n 1, 1) := by decide +kernel
theorem d_M_twist_33 : decode M_M_twist.2.1 33 = .ok (.invokestatic 55, 3) := by decide +kernel
theorem d_M_twist_36 : decode M_M_twist.2.1 36 = .ok (.ifCond .eq (11), 3) := by decide +kernel
theorem d_M_twist_39 : decode M_M_twist.2.1 39 = .ok (.aload_n 0, 1) := by decide +kernel
theorem d_M_twist_40 : decode M_M_twist.2.1 40 = .ok (.iload_n 1, 1) := by decide +kernel
theorem d_M_twist_41 : decode M_M_twist.2.1 41 = .ok (.invokevirtual 136, 3) := by decide +kernel
theorem d_M_twist_44 : decode M_M_twist.2.1 44 = .ok (.ifCond .ne (5), 3) := by decide +kernel
theorem d_M_twist_47 : decode M_M_twist.2.1 47 = .ok (.iconst (0), 1) := by decide +kernel
theorem d_M_twist_48 : decode M_M_twist.2.1 48 = .ok (.ireturn, 1) := by decide +kernel
theorem d_M_twist_49 : decode M_M_twist.2.1 49 = .ok (.aload_n 0, 1) := by decide +kernel
theorem d_M_twist_50 : decode M_M_twist.2.1 50 = .ok (.iconst (0), 1) := by decide +kernel
theorem d_M_twist_51 : decode M_M_twist.2.1 51 = .ok (.invokevirtual 161, 3) := by decide +kernel
theorem d_M_twist_54 : decode M_M_twist.2.1 54 = .ok (.istore_n 3, 1) := by decide +kernel
theorem d_M_twist_55 : decode M_M_twist.2.1 55 = .ok (.aload_n 0, 1) := by decide +kernel
theorem d_M_twist_56 : decode M_M_twist.2.1 56 = .ok (.iconst (1), 1) := by decide +kernel
theorem d_M_twist_57 : decode M_M_twist.2.1 57 = .ok (.invokevirtual 161, 3) := by decide +kernel
theorem d_M_twist_60 : decode M_M_twist.2.1 60 = .ok (.istore 4, 2) := by decide +kernel
theorem d_M_twist_62 : decode M_M_twist.2.1 62 = .ok (.iload_n 1, 1) := by decide +kernel
theorem d_M_twist_63 : decode M_M_twist.2.1 63 = .ok (.ifCond .ne (25), 3) := by decide +kernel
theorem d_M_twist_66 : decode M_M_twist.2.1 66 = .ok (.aload_n 0, 1) := by decide +kernel
theorem d_M_twist_67 : decode M_M_twist.2.1 67 = .ok (.dup, 1) := by decide +kernel
theorem d_M_twist_68 : decode M_M_twist.2.1 68 = .ok (.getfield 17, 3) := by decide +kernel
theorem d_M_twist_71 : decode M_M_twist.2.1 71 = .ok (.iconst (1), 1) := by decide +kernel
theorem d_M_twist_72 : decode M_M_twist.2.1 72 = .ok (.isub, 1) := by decide +kernel
theorem d_M_twist_73 : decode M_M_twist.2.1 73 = .ok (.putfield 17, 3) := by decide +kernel
theorem d_M_twist_76 : decode M_M_twist.2.1 76 = .ok (.aload_n 0, 1) := by decide +kernel
theorem d_M_twist_77 : decode M_M_twist.2.1 77 = .ok (.iload_n 2, 1) := by decide +kernel
theorem d_M_twist_78 : decode M_M_twist.2.1 78 = .ok (.iload_n 3, 1) := by decide +kernel
theorem d_M_twist_79 : decode M_M_twist.2.1 79 = .ok (.iload 4, 2) := by decide +kernel
theorem d_M_twist_81 : decode M_M_twist.2.1 81 = .ok (.iload_n 3, 1) := by decide +kernel
theorem d_M_twist_82 : decode M_M_twist.2.1 82 = .ok (.invokevirtual 164, 3) := by decide +kernel
theorem d_M_twist_85 : decode M_M_twist.2.1 85 = .ok (.goto (19), 3) := by decide +kernel
theorem d_M_twist_88 : decode M_M_twist.2.1 88 = .ok (.aload_n 0, 1) := by decide +kernel
theorem d_M_twist_89 : decode M_M_twist.2.1 89 = .ok (.iload 4, 2) := by decide +kernel
theorem d_M_twist_91 : decode M_M_twist.2.1 91 = .ok (.iload_n 1, 1) := by decide +kernel
theorem d_M_twist_92 : decode M_M_twist.2.1 92 = .ok (.invokevirtual 158, 3) := by decide +kernel
theorem d_M_twist_95 : decode M_M_twist.2.1 95 = .ok (.aload_n 0, 1) := by decide +kernel
theorem d_M_twist_96 : decode M_M_twist.2.1 96 = .ok (.iload_n 2, 1) := by decide +kernel
theorem d_M_twist_97 : decode M_M_twist.2.1 97 = .ok (.iload_n 1, 1) := by decide +kernel
theorem d_M_twist_98 : decode M_M_twist.2.1 98 = .ok (.iload_n 3, 1) := by decide +kernel
theorem d_M_twist_99 : decode M_M_twist.2.1 99 = .ok (.iload 4, 2) := by decide +kernel
theorem d_M_twist_101 : decode M_M_twist.2.1 101 = .ok (.invokevirtual 164, 3) := by decide +kernel
theorem d_M_twist_104 : decode M_M_twist.2.1 104 = .ok (.iconst (1), 1) := by decide +kernel
theorem d_M_twist_105 : decode M_M_twist.2.1 105 = .ok (.ireturn, 1) := by decide +kernel
theorem d_M_isCrossing_0 : decode M_M_isCrossing.2.1 0 = .ok (.iload_n 1, 1) := by decide +kernel
theorem d_M_isCrossing_1 : decode M_M_isCrossing.2.1 1 = .ok (.ifCond .lt (15), 3) := by decide +kernel
theorem d_M_isCrossing_4 : decode M_M_isCrossing.2.1 4 = .ok (.iload_n 1, 1) := by decide +kernel
theorem d_M_isCrossing_5 : decode M_M_isCrossing.2.1 5 = .ok (.aload_n 0, 1) := by decide +kernel
theorem d_M_isCrossing_6 : decode M_M_isCrossing.2.1 6 = .ok (.getfield 66, 3) := by decide +kernel
theorem d_M_isCrossing_9 : decode M_M_isCrossing.2.1 9 = .ok (.if_icmp .ge (7), 3) := by decide +kernel
theorem d_M_isCrossing_12 : decode M_M_isCrossing.2.1 12 = .ok (.iconst (1), 1) := by decide +kernel
theorem d_M_isCrossing_13 : decode M_M_isCrossing.2.1 13 = .ok (.goto (4), 3) := by decide +kernel
theorem d_M_isCrossing_16 : decode M_M_isCrossing.2.1 16 = .ok (.iconst (0), 1) := by decide +kernel
theorem d_M_isCrossing_17 : decode M_M_isCrossing.2.1 17 = .ok (.ireturn, 1) := by decide +kernel
theorem d_M_untwist_0 : decode M_M_untwist.2.1 0 = .ok (.aload_n 0, 1) := by decide +kernel
theorem d_M_untwist_1 : decode M_M_untwist.2.1 1 = .ok (.iload_n 1, 1) := by decide +kernel
theorem d_M_untwist_2 : decode M_M_untwist.2.1 2 = .ok (.invokevirtual 168, 3) := by decide +kernel
theorem d_M_untwist_5 : decode M_M_untwist.2.1 5 = .ok (.ifCond .ne (5), 3) := by decide +kernel
theorem d_M_untwist_8 : decode M_M_untwist.2.1 8 = .ok (.iconst (0), 1) := by decide +kernel
theorem d_M_untwist_9 : decode M_M_untwist.2.1 9 = .ok (.ireturn, 1) := by decide +kernel
theorem d_M_untwist_10 : decode M_M_untwist.2.1 10 = .ok (.iconst (0), 1) := by decide +kernel
theorem d_M_untwist_11 : decode M_M_untwist.2.1 11 = .ok (.istore_n 2, 1) := by decide +kernel
theorem d_M_untwist_12 : decode M_M_untwist.2.1 12 = .ok (.iload_n 2, 1) := by decide +kernel
theorem d_M_untwist_13 : decode M_M_untwist.2.1 13 = .ok (.iconst (4), 1) := by decide +kernel
theorem d_M_untwist_14 : decode M_M_untwist.2.1 14 = .ok (.if_icmp .ge (124), 3) := by decide +kernel
theorem d_M_untwist_17 : decode M_M_untwist.2.1 17 = .ok (.aload_n 0, 1) := by decide +kernel
theorem d_M_untwist_18 : decode M_M_untwist.2.1 18 = .ok (.getfield 7, 3) := by decide +kernel
theorem d_M_untwist_21 : decode M_M_untwist.2.1 21 = .ok (.iconst (4), 1) := by decide +kernel
theorem d_M_untwist_22 : decode M_M_untwist.2.1 22 = .ok (.iload_n 1, 1) := by decide +kernel
theorem d_M_untwist_23 : decode M_M_untwist.2.1 23 = .ok (.imul, 1) := by decide +kernel
theorem d_M_untwist_24 : decode M_M_untwist.2.1 24 = .ok (.iload_n 2, 1) := by decide +kernel
theorem d_M_untwist_25 : decode M_M_untwist.2.1 25 = .ok (.iadd, 1) := by decide +kernel
theorem d_M_untwist_26 : decode M_M_untwist.2.1 26 = .ok (.iaload, 1) := by decide +kernel
theorem d_M_untwist_27 : decode M_M_untwist.2.1 27 = .ok (.aload_n 0, 1) := by decide +kernel
theorem d_M_untwist_28 : decode M_M_untwist.2.1 28 = .ok (.getfield 7, 3) := by decide +kernel
theorem d_M_untwist_31 : decode M_M_untwist.2.1 31 = .ok (.iconst (4), 1) := by decide +kernel
theorem d_M_untwist_32 : decode M_M_untwist.2.1 32 = .ok (.iload_n 1, 1) := by decide +kernel
theorem d_M_untwist_33 : decode M_M_untwist.2.1 33 = .ok (.imul, 1) := by decide +kernel
theorem d_M_untwist_34 : decode M_M_untwist.2.1 34 = .ok (.iload_n 2, 1) := by decide +kernel
theorem d_M_untwist_35 : decode M_M_untwist.2.1 35 = .ok (.iconst (1), 1) := by decide +kernel
theorem d_M_untwist_36 : decode M_M_untwist.2.1 36 = .ok (.iadd, 1) := by decide +kernel
theorem d_M_untwist_37 : decode M_M_untwist.2.1 37 = .ok (.iconst (4), 1) := by decide +kernel
theorem d_M_untwist_38 : decode M_M_untwist.2.1 38 = .ok (.irem, 1) := by decide +kernel
theorem d_M_untwist_39 : decode M_M_untwist.2.1 39 = .ok (.iadd, 1) := by decide +kernel
theorem d_M_untwist_40 : decode M_M_untwist.2.1 40 = .ok (.iaload, 1) := by decide +kernel
theorem d_M_untwist_41 : decode M_M_untwist.2.1 41 = .ok (.if_icmp .ne (91), 3) := by decide +kernel
theorem d_M_untwist_44 : decode M_M_untwist.2.1 44 = .ok (.iconst (4), 1) := by decide +kernel
theorem d_M_untwist_45 : decode M_M_untwist.2.1 45 = .ok (.iload_n 1, 1) := by decide +kernel
theorem d_M_untwist_46 : decode M_M_untwist.2.1 46 = .ok (.imul, 1) := by decide +kernel
theorem d_M_untwist_47 : decode M_M_untwist.2.1 47 = .ok (.iload_n 2, 1) := by decide +kernel
theorem d_M_untwist_48 : decode M_M_untwist.2.1 48 = .ok (.iconst (2), 1) := by decide +kernel
theorem d_M_untwist_49 : decode M_M_untwist.2.1 49 = .ok (.iadd, 1) := by decide +kernel
theorem d_M_untwist_50 : decode M_M_untwist.2.1 50 = .ok (.iconst (4), 1) := by decide +kernel
theorem d_M_untwist_51 : decode M_M_untwist.2.1 51 = .ok (.irem, 1) := by decide +kernel
theorem d_M_untwist_52 : decode M_M_untwist.2.1 52 = .ok (.iadd, 1) := by decide +kernel
theorem d_M_untwist_53 : decode M_M_untwist.2.1 53 = .ok (.istore_n 3, 1) := by decide +kernel
theorem d_M_untwist_54 : decode M_M_untwist.2.1 54 = .ok (.iconst (4), 1) := by decide +kernel
theorem d_M_untwist_55 : decode M_M_untwist.2.1 55 = .ok (.iload_n 1, 1) := by decide +kernel
theorem d_M_untwist_56 : decode M_M_untwist.2.1 56 = .ok (.imul, 1) := by decide +kernel
theorem d_M_untwist_57 : decode M_M_untwist.2.1 57 = .ok (.iload_n 2, 1) := by decide +kernel
theorem d_M_untwist_58 : decode M_M_untwist.2.1 58 = .ok (.iconst (3), 1) := by decide +kernel
theorem d_M_untwist_59 : decode M_M_untwist.2.1 59 = .ok (.iadd, 1) := by decide +kernel
theorem d_M_untwist_60 : decode M_M_untwist.2.1 60 = .ok (.iconst (4), 1) := by decide +kernel
theorem d_M_untwist_61 : decode M_M_untwist.2.1 61 = .ok (.irem, 1) := by decide +kernel
theorem d_M_untwist_62 : decode M_M_untwist.2.1 62 = .ok (.iadd, 1) := by decide +kernel
theorem d_M_untwist_63 : decode M_M_untwist.2.1 63 = .ok (.istore 4, 2) := by decide +kernel
theorem d_M_untwist_65 : decode M_M_untwist.2.1 65 = .ok (.aload_n 0, 1) := by decide +kernel
theorem d_M_untwist_66 : decode M_M_untwist.2.1 66 = .ok (.iload_n 3, 1) := by decide +kernel
theorem d_M_untwist_67 : decode M_M_untwist.2.1 67 = .ok (.invokevirtual 76, 3) := by decide +kernel
theorem d_M_untwist_70 : decode M_M_untwist.2.1 70 = .ok (.ifCond .eq (12), 3) := by decide +kernel
theorem d_M_untwist_73 : decode M_M_untwist.2.1 73 = .ok (.aload_n 0, 1) := by decide +kernel
theorem d_M_untwist_74 : decode M_M_untwist.2.1 74 = .ok (.getfield 7, 3) := by decide +kernel
theorem d_M_untwist_77 : decode M_M_untwist.2.1 77 = .ok (.iload_n 3, 1) := by decide +kernel
theorem d_M_untwist_78 : decode M_M_untwist.2.1 78 = .ok (.iaload, 1) := by decide +kernel
theorem d_M_untwist_79 : decode M_M_untwist.2.1 79 = .ok (.goto (10), 3) := by decide +kernel
theorem d_M_untwist_82 : decode M_M_untwist.2.1 82 = .ok (.aload_n 0, 1) := by decide +kernel
theorem d_M_untwist_83 : decode M_M_untwist.2.1 83 = .ok (.getfield 7, 3) := by decide +kernel
theorem d_M_untwist_86 : decode M_M_untwist.2.1 86 = .ok (.iload 4, 2) := by decide +kernel
theorem d_M_untwist_88 : decode M_M_untwist.2.1 88 = .ok (.iaload, 1) := by decide +kernel
theorem d_M_untwist_89 : decode M_M_untwist.2.1 89 = .ok (.istore 5, 2) := by decide +kernel
theorem d_M_untwist_91 : decode M_M_untwist.2.1 91 = .ok (.aload_n 0, 1) := by decide +kernel
theorem d_M_untwist_92 : decode M_M_untwist.2.1 92 = .ok (.iload_n 3, 1) := by decide +kernel
theorem d_M_untwist_93 : decode M_M_untwist.2.1 93 = .ok (.invokevirtual 76, 3) := by decide +kernel
theorem d_M_untwist_96 : decode M_M_untwist.2.1 96 = .ok (.ifCond .eq (13), 3) := by decide +kernel
theorem d_M_untwist_99 : decode M_M_untwist.2.1 99 = .ok (.aload_n 0, 1) := by decide +kernel
theorem d_M_untwist_100 : decode M_M_untwist.2.1 100 = .ok (.getfield 7, 3) := by decide +kernel
theorem d_M_untwist_103 : decode M_M_untwist.2.1 103 = .ok (.iload 4, 2) := by decide +kernel
theorem d_M_untwist_105 : decode M_M_untwist.2.1 105 = .ok (.iaload, 1) := by decide +kernel
theorem d_M_untwist_106 : decode M_M_untwist.2.1 106 = .ok (.goto (9), 3) := by decide +kernel
theorem d_M_untwist_109 : decode M_M_untwist.2.1 109 = .ok (.aload_n 0, 1) := by decide +kernel
theorem d_M_untwist_110 : decode M_M_untwist.2.1 110 = .ok (.getfield 7, 3) := by decide +kernel
theorem d_M_untwist_113 : decode M_M_untwist.2.1 113 = .ok (.iload_n 3, 1) := by decide +kernel
theorem d_M_untwist_114 : decode M_M_untwist.2.1 114 = .ok (.iaload, 1) := by decide +kernel
theorem d_M_untwist_115 : decode M_M_untwist.2.1 115 = .ok (.istore 6, 2) := by decide +kernel
theorem d_M_untwist_117 : decode M_M_untwist.2.1 117 = .ok (.aload_n 0, 1) := by decide +kernel
theorem d_M_untwist_118 : decode M_M_untwist.2.1 118 = .ok (.iload_n 1, 1) := by decide +kernel
theorem d_M_untwist_119 : decode M_M_untwist.2.1 119 = .ok (.invokevirtual 171, 3) := by decide +kernel
theorem d_M_untwist_122 : decode M_M_untwist.2.1 122 = .ok (.aload_n 0, 1) := by decide +kernel
theorem d_M_untwist_123 : decode M_M_untwist.2.1 123 = .ok (.iload 5, 2) := by decide +kernel
theorem d_M_untwist_125 : decode M_M_untwist.2.1 125 = .ok (.iload 6, 2) := by decide +kernel
theorem d_M_untwist_127 : decode M_M_untwist.2.1 127 = .ok (.invokevirtual 174, 3) := by decide +kernel
theorem d_M_untwist_130 : decode M_M_untwist.2.1 130 = .ok (.iconst (1), 1) := by decide +kernel
theorem d_M_untwist_131 : decode M_M_untwist.2.1 131 = .ok (.ireturn, 1) := by decide +kernel
theorem d_M_untwist_132 : decode M_M_untwist.2.1 132 = .ok (.iinc 2 (1), 3) := by decide +kernel
theorem d_M_untwist_135 : decode M_M_untwist.2.1 135 = .ok (.goto (-123), 3) := by decide +kernel
theorem d_M_untwist_138 : decode M_M_untwist.2.1 138 = .ok (.iconst (0), 1) := by decide +kernel
theorem d_M_untwist_139 : decode M_M_untwist.2.1 139 = .ok (.ireturn, 1) := by decide +kernel
