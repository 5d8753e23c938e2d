theorem d_A_slideEdge_0 : decode M_A_slideEdge.2.1 0 = .ok (.aload_n 0, 1) := by decide +kernel
theorem d_A_slideEdge_1 : decode M_A_slideEdge.2.1 1 = .ok (.getfield 19, 3) := by decide +kernel
theorem d_A_slideEdge_4 : decode M_A_slideEdge.2.1 4 = .ok (.iload_n 1, 1) := by decide +kernel
theorem d_A_slideEdge_5 : decode M_A_slideEdge.2.1 5 = .ok (.invokevirtual 129, 3) := by decide +kernel
theorem d_A_slideEdge_8 : decode M_A_slideEdge.2.1 8 = .ok (.istore_n 2, 1) := by decide +kernel
theorem d_A_slideEdge_9 : decode M_A_slideEdge.2.1 9 = .ok (.aload_n 0, 1) := by decide +kernel
theorem d_A_slideEdge_10 : decode M_A_slideEdge.2.1 10 = .ok (.getfield 19, 3) := by decide +kernel
theorem d_A_slideEdge_13 : decode M_A_slideEdge.2.1 13 = .ok (.iload_n 1, 1) := by decide +kernel
theorem d_A_slideEdge_14 : decode M_A_slideEdge.2.1 14 = .ok (.invokevirtual 196, 3) := by decide +kernel
theorem d_A_slideEdge_17 : decode M_A_slideEdge.2.1 17 = .ok (.istore_n 3, 1) := by decide +kernel
theorem d_A_slideEdge_18 : decode M_A_slideEdge.2.1 18 = .ok (.aload_n 0, 1) := by decide +kernel
theorem d_A_slideEdge_19 : decode M_A_slideEdge.2.1 19 = .ok (.getfield 19, 3) := by decide +kernel
theorem d_A_slideEdge_22 : decode M_A_slideEdge.2.1 22 = .ok (.iload_n 1, 1) := by decide +kernel
theorem d_A_slideEdge_23 : decode M_A_slideEdge.2.1 23 = .ok (.invokevirtual 199, 3) := by decide +kernel
theorem d_A_slideEdge_26 : decode M_A_slideEdge.2.1 26 = .ok (.istore 4, 2) := by decide +kernel
theorem d_A_slideEdge_28 : decode M_A_slideEdge.2.1 28 = .ok (.aload_n 0, 1) := by decide +kernel
theorem d_A_slideEdge_29 : decode M_A_slideEdge.2.1 29 = .ok (.getfield 19, 3) := by decide +kernel
theorem d_A_slideEdge_32 : decode M_A_slideEdge.2.1 32 = .ok (.iload_n 1, 1) := by decide +kernel
theorem d_A_slideEdge_33 : decode M_A_slideEdge.2.1 33 = .ok (.invokevirtual 221, 3) := by decide +kernel
theorem d_A_slideEdge_36 : decode M_A_slideEdge.2.1 36 = .ok (.istore 5, 2) := by decide +kernel
theorem d_A_slideEdge_38 : decode M_A_slideEdge.2.1 38 = .ok (.aload_n 0, 1) := by decide +kernel
theorem d_A_slideEdge_39 : decode M_A_slideEdge.2.1 39 = .ok (.getfield 19, 3) := by decide +kernel
theorem d_A_slideEdge_42 : decode M_A_slideEdge.2.1 42 = .ok (.iload_n 1, 1) := by decide +kernel
theorem d_A_slideEdge_43 : decode M_A_slideEdge.2.1 43 = .ok (.invokevirtual 224, 3) := by decide +kernel
theorem d_A_slideEdge_46 : decode M_A_slideEdge.2.1 46 = .ok (.istore 6, 2) := by decide +kernel
theorem d_A_slideEdge_48 : decode M_A_slideEdge.2.1 48 = .ok (.aload_n 0, 1) := by decide +kernel
theorem d_A_slideEdge_49 : decode M_A_slideEdge.2.1 49 = .ok (.getfield 16, 3) := by decide +kernel
theorem d_A_slideEdge_52 : decode M_A_slideEdge.2.1 52 = .ok (.iload 5, 2) := by decide +kernel
theorem d_A_slideEdge_54 : decode M_A_slideEdge.2.1 54 = .ok (.invokestatic 227, 3) := by decide +kernel
theorem d_A_slideEdge_57 : decode M_A_slideEdge.2.1 57 = .ok (.iload_n 2, 1) := by decide +kernel
theorem d_A_slideEdge_58 : decode M_A_slideEdge.2.1 58 = .ok (.invokevirtual 230, 3) := by decide +kernel
theorem d_A_slideEdge_61 : decode M_A_slideEdge.2.1 61 = .ok (.aload_n 0, 1) := by decide +kernel
theorem d_A_slideEdge_62 : decode M_A_slideEdge.2.1 62 = .ok (.getfield 16, 3) := by decide +kernel
theorem d_A_slideEdge_65 : decode M_A_slideEdge.2.1 65 = .ok (.iload 5, 2) := by decide +kernel
theorem d_A_slideEdge_67 : decode M_A_slideEdge.2.1 67 = .ok (.iload 4, 2) := by decide +kernel
theorem d_A_slideEdge_69 : decode M_A_slideEdge.2.1 69 = .ok (.invokevirtual 230, 3) := by decide +kernel
theorem d_A_slideEdge_72 : decode M_A_slideEdge.2.1 72 = .ok (.aload_n 0, 1) := by decide +kernel
theorem d_A_slideEdge_73 : decode M_A_slideEdge.2.1 73 = .ok (.getfield 16, 3) := by decide +kernel
theorem d_A_slideEdge_76 : decode M_A_slideEdge.2.1 76 = .ok (.iload 6, 2) := by decide +kernel
theorem d_A_slideEdge_78 : decode M_A_slideEdge.2.1 78 = .ok (.iload_n 3, 1) := by decide +kernel
theorem d_A_slideEdge_79 : decode M_A_slideEdge.2.1 79 = .ok (.invokevirtual 230, 3) := by decide +kernel
theorem d_A_slideEdge_82 : decode M_A_slideEdge.2.1 82 = .ok (.aload_n 0, 1) := by decide +kernel
theorem d_A_slideEdge_83 : decode M_A_slideEdge.2.1 83 = .ok (.getfield 16, 3) := by decide +kernel
theorem d_A_slideEdge_86 : decode M_A_slideEdge.2.1 86 = .ok (.iload 6, 2) := by decide +kernel
theorem d_A_slideEdge_88 : decode M_A_slideEdge.2.1 88 = .ok (.invokestatic 227, 3) := by decide +kernel
theorem d_A_slideEdge_91 : decode M_A_slideEdge.2.1 91 = .ok (.iload_n 2, 1) := by decide +kernel
theorem d_A_slideEdge_92 : decode M_A_slideEdge.2.1 92 = .ok (.invokevirtual 230, 3) := by decide +kernel
theorem d_A_slideEdge_95 : decode M_A_slideEdge.2.1 95 = .ok (.return_, 1) := by decide +kernel
theorem d_A_join_0 : decode M_A_join.2.1 0 = .ok (.iload_n 1, 1) := by decide +kernel
theorem d_A_join_1 : decode M_A_join.2.1 1 = .ok (.iload_n 2, 1) := by decide +kernel
theorem d_A_join_2 : decode M_A_join.2.1 2 = .ok (.if_icmp .ne (16), 3) := by decide +kernel
theorem d_A_join_5 : decode M_A_join.2.1 5 = .ok (.aload_n 0, 1) := by decide +kernel
theorem d_A_join_6 : decode M_A_join.2.1 6 = .ok (.dup, 1) := by decide +kernel
theorem d_A_join_7 : decode M_A_join.2.1 7 = .ok (.getfield 54, 3) := by decide +kernel
theorem d_A_join_10 : decode M_A_join.2.1 10 = .ok (.iconst (1), 1) := by decide +kernel
theorem d_A_join_11 : decode M_A_join.2.1 11 = .ok (.iadd, 1) := by decide +kernel
theorem d_A_join_12 : decode M_A_join.2.1 12 = .ok (.putfield 54, 3) := by decide +kernel
theorem d_A_join_15 : decode M_A_join.2.1 15 = .ok (.goto (12), 3) := by decide +kernel
theorem d_A_join_18 : decode M_A_join.2.1 18 = .ok (.aload_n 0, 1) := by decide +kernel
theorem d_A_join_19 : decode M_A_join.2.1 19 = .ok (.getfield 16, 3) := by decide +kernel
theorem d_A_join_22 : decode M_A_join.2.1 22 = .ok (.iload_n 1, 1) := by decide +kernel
theorem d_A_join_23 : decode M_A_join.2.1 23 = .ok (.iload_n 2, 1) := by decide +kernel
theorem d_A_join_24 : decode M_A_join.2.1 24 = .ok (.invokevirtual 153, 3) := by decide +kernel
theorem d_A_join_27 : decode M_A_join.2.1 27 = .ok (.return_, 1) := by decide +kernel
theorem d_A_freeEdge_0 : decode M_A_freeEdge.2.1 0 = .ok (.iload_n 1, 1) := by decide +kernel
theorem d_A_freeEdge_1 : decode M_A_freeEdge.2.1 1 = .ok (.istore_n 2, 1) := by decide +kernel
theorem d_A_freeEdge_2 : decode M_A_freeEdge.2.1 2 = .ok (.iconst (1), 1) := by decide +kernel
theorem d_A_freeEdge_3 : decode M_A_freeEdge.2.1 3 = .ok (.istore_n 3, 1) := by decide +kernel
theorem d_A_freeEdge_4 : decode M_A_freeEdge.2.1 4 = .ok (.iload_n 3, 1) := by decide +kernel
theorem d_A_freeEdge_5 : decode M_A_freeEdge.2.1 5 = .ok (.bipush (32), 2) := by decide +kernel
theorem d_A_freeEdge_7 : decode M_A_freeEdge.2.1 7 = .ok (.if_icmp .gt (29), 3) := by decide +kernel
theorem d_A_freeEdge_10 : decode M_A_freeEdge.2.1 10 = .ok (.aload_n 0, 1) := by decide +kernel
theorem d_A_freeEdge_11 : decode M_A_freeEdge.2.1 11 = .ok (.getfield 16, 3) := by decide +kernel
theorem d_A_freeEdge_14 : decode M_A_freeEdge.2.1 14 = .ok (.iload_n 3, 1) := by decide +kernel
theorem d_A_freeEdge_15 : decode M_A_freeEdge.2.1 15 = .ok (.invokevirtual 150, 3) := by decide +kernel
theorem d_A_freeEdge_18 : decode M_A_freeEdge.2.1 18 = .ok (.ifCond .ne (12), 3) := by decide +kernel
theorem d_A_freeEdge_21 : decode M_A_freeEdge.2.1 21 = .ok (.iload_n 2, 1) := by decide +kernel
theorem d_A_freeEdge_22 : decode M_A_freeEdge.2.1 22 = .ok (.ifCond .ne (5), 3) := by decide +kernel
theorem d_A_freeEdge_25 : decode M_A_freeEdge.2.1 25 = .ok (.iload_n 3, 1) := by decide +kernel
theorem d_A_freeEdge_26 : decode M_A_freeEdge.2.1 26 = .ok (.ireturn, 1) := by decide +kernel
theorem d_A_freeEdge_27 : decode M_A_freeEdge.2.1 27 = .ok (.iinc 2 (-1), 3) := by decide +kernel
theorem d_A_freeEdge_30 : decode M_A_freeEdge.2.1 30 = .ok (.iinc 3 (1), 3) := by decide +kernel
theorem d_A_freeEdge_33 : decode M_A_freeEdge.2.1 33 = .ok (.goto (-29), 3) := by decide +kernel
theorem d_A_freeEdge_36 : decode M_A_freeEdge.2.1 36 = .ok (.iconst (0), 1) := by decide +kernel
theorem d_A_freeEdge_37 : decode M_A_freeEdge.2.1 37 = .ok (.ireturn, 1) := by decide +kernel
theorem d_A_crossingOf_0 : decode M_A_crossingOf.2.1 0 = .ok (.iload_n 0, 1) := by decide +kernel
theorem d_A_crossingOf_1 : decode M_A_crossingOf.2.1 1 = .ok (.iconst (2), 1) := by decide +kernel
theorem d_A_crossingOf_2 : decode M_A_crossingOf.2.1 2 = .ok (.ishr, 1) := by decide +kernel
theorem d_A_crossingOf_3 : decode M_A_crossingOf.2.1 3 = .ok (.ireturn, 1) := by decide +kernel
theorem d_A_isUpper_0 : decode M_A_isUpper.2.1 0 = .ok (.iload_n 0, 1) := by decide +kernel
theorem d_A_isUpper_1 : decode M_A_isUpper.2.1 1 = .ok (.iconst (1), 1) := by decide +kernel
theorem d_A_isUpper_2 : decode M_A_isUpper.2.1 2 = .ok (.iand, 1) := by decide +kernel
theorem d_A_isUpper_3 : decode M_A_isUpper.2.1 3 = .ok (.iconst (1), 1) := by decide +kernel
theorem d_A_isUpper_4 : decode M_A_isUpper.2.1 4 = .ok (.if_icmp .ne (7), 3) := by decide +kernel
theorem d_A_isUpper_7 : decode M_A_isUpper.2.1 7 = .ok (.iconst (1), 1) := by decide +kernel
theorem d_A_isUpper_8 : decode M_A_isUpper.2.1 8 = .ok (.goto (4), 3) := by decide +kernel
theorem d_A_isUpper_11 : decode M_A_isUpper.2.1 11 = .ok (.iconst (0), 1) := by decide +kernel
theorem d_A_isUpper_12 : decode M_A_isUpper.2.1 12 = .ok (.ireturn, 1) := by decide +kernel
theorem d_A_opposite_0 : decode M_A_opposite.2.1 0 = .ok (.iload_n 0, 1) := by decide +kernel
theorem d_A_opposite_1 : decode M_A_opposite.2.1 1 = .ok (.iconst (2), 1) := by decide +kernel
theorem d_A_opposite_2 : decode M_A_opposite.2.1 2 = .ok (.ixor, 1) := by decide +kernel
theorem d_A_opposite_3 : decode M_A_opposite.2.1 3 = .ok (.ireturn, 1) := by decide +kernel
theorem d_A_turned_0 : decode M_A_turned.2.1 0 = .ok (.iload_n 0, 1) := by decide +kernel
theorem d_A_turned_1 : decode M_A_turned.2.1 1 = .ok (.bipush (-4), 2) := by decide +kernel
theorem d_A_turned_3 : decode M_A_turned.2.1 3 = .ok (.iand, 1) := by decide +kernel
theorem d_A_turned_4 : decode M_A_turned.2.1 4 = .ok (.iload_n 0, 1) := by decide +kernel
theorem d_A_turned_5 : decode M_A_turned.2.1 5 = .ok (.iload_n 1, 1) := by decide +kernel
theorem d_A_turned_6 : decode M_A_turned.2.1 6 = .ok (.iadd, 1) := by decide +kernel
theorem d_A_turned_7 : decode M_A_turned.2.1 7 = .ok (.iconst (3), 1) := by decide +kernel
theorem d_A_turned_8 : decode M_A_turned.2.1 8 = .ok (.iand, 1) := by decide +kernel
theorem d_A_turned_9 : decode M_A_turned.2.1 9 = .ok (.ior, 1) := by decide +kernel
theorem d_A_turned_10 : decode M_A_turned.2.1 10 = .ok (.ireturn, 1) := by decide +kernel
