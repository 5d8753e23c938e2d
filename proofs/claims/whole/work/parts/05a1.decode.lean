theorem d_C_init_0 : decode M_C_init.2.1 0 = .ok (.aload_n 0, 1) := by decide +kernel
theorem d_C_init_1 : decode M_C_init.2.1 1 = .ok (.invokespecial 3, 3) := by decide +kernel
theorem d_C_init_4 : decode M_C_init.2.1 4 = .ok (.aload_n 0, 1) := by decide +kernel
theorem d_C_init_5 : decode M_C_init.2.1 5 = .ok (.bipush (32), 2) := by decide +kernel
theorem d_C_init_7 : decode M_C_init.2.1 7 = .ok (.newarray .int, 2) := by decide +kernel
theorem d_C_init_9 : decode M_C_init.2.1 9 = .ok (.putfield 9, 3) := by decide +kernel
theorem d_C_init_12 : decode M_C_init.2.1 12 = .ok (.aload_n 0, 1) := by decide +kernel
theorem d_C_init_13 : decode M_C_init.2.1 13 = .ok (.bipush (8), 2) := by decide +kernel
theorem d_C_init_15 : decode M_C_init.2.1 15 = .ok (.newarray .int, 2) := by decide +kernel
theorem d_C_init_17 : decode M_C_init.2.1 17 = .ok (.putfield 15, 3) := by decide +kernel
theorem d_C_init_20 : decode M_C_init.2.1 20 = .ok (.aload_n 0, 1) := by decide +kernel
theorem d_C_init_21 : decode M_C_init.2.1 21 = .ok (.iconst (0), 1) := by decide +kernel
theorem d_C_init_22 : decode M_C_init.2.1 22 = .ok (.putfield 18, 3) := by decide +kernel
theorem d_C_init_25 : decode M_C_init.2.1 25 = .ok (.return_, 1) := by decide +kernel
theorem d_C_size_0 : decode M_C_size.2.1 0 = .ok (.aload_n 0, 1) := by decide +kernel
theorem d_C_size_1 : decode M_C_size.2.1 1 = .ok (.getfield 18, 3) := by decide +kernel
theorem d_C_size_4 : decode M_C_size.2.1 4 = .ok (.ireturn, 1) := by decide +kernel
theorem d_C_ends_0 : decode M_C_ends.2.1 0 = .ok (.iconst (4), 1) := by decide +kernel
theorem d_C_ends_1 : decode M_C_ends.2.1 1 = .ok (.aload_n 0, 1) := by decide +kernel
theorem d_C_ends_2 : decode M_C_ends.2.1 2 = .ok (.getfield 18, 3) := by decide +kernel
theorem d_C_ends_5 : decode M_C_ends.2.1 5 = .ok (.imul, 1) := by decide +kernel
theorem d_C_ends_6 : decode M_C_ends.2.1 6 = .ok (.ireturn, 1) := by decide +kernel
theorem d_C_isFull_0 : decode M_C_isFull.2.1 0 = .ok (.aload_n 0, 1) := by decide +kernel
theorem d_C_isFull_1 : decode M_C_isFull.2.1 1 = .ok (.getfield 18, 3) := by decide +kernel
theorem d_C_isFull_4 : decode M_C_isFull.2.1 4 = .ok (.bipush (8), 2) := by decide +kernel
theorem d_C_isFull_6 : decode M_C_isFull.2.1 6 = .ok (.if_icmp .lt (7), 3) := by decide +kernel
theorem d_C_isFull_9 : decode M_C_isFull.2.1 9 = .ok (.iconst (1), 1) := by decide +kernel
theorem d_C_isFull_10 : decode M_C_isFull.2.1 10 = .ok (.goto (4), 3) := by decide +kernel
theorem d_C_isFull_13 : decode M_C_isFull.2.1 13 = .ok (.iconst (0), 1) := by decide +kernel
theorem d_C_isFull_14 : decode M_C_isFull.2.1 14 = .ok (.ireturn, 1) := by decide +kernel
theorem d_C_has_0 : decode M_C_has.2.1 0 = .ok (.iload_n 1, 1) := by decide +kernel
theorem d_C_has_1 : decode M_C_has.2.1 1 = .ok (.ifCond .lt (15), 3) := by decide +kernel
theorem d_C_has_4 : decode M_C_has.2.1 4 = .ok (.iload_n 1, 1) := by decide +kernel
theorem d_C_has_5 : decode M_C_has.2.1 5 = .ok (.aload_n 0, 1) := by decide +kernel
theorem d_C_has_6 : decode M_C_has.2.1 6 = .ok (.getfield 18, 3) := by decide +kernel
theorem d_C_has_9 : decode M_C_has.2.1 9 = .ok (.if_icmp .ge (7), 3) := by decide +kernel
theorem d_C_has_12 : decode M_C_has.2.1 12 = .ok (.iconst (1), 1) := by decide +kernel
theorem d_C_has_13 : decode M_C_has.2.1 13 = .ok (.goto (4), 3) := by decide +kernel
theorem d_C_has_16 : decode M_C_has.2.1 16 = .ok (.iconst (0), 1) := by decide +kernel
theorem d_C_has_17 : decode M_C_has.2.1 17 = .ok (.ireturn, 1) := by decide +kernel
theorem d_C_edgeAt_0 : decode M_C_edgeAt.2.1 0 = .ok (.aload_n 0, 1) := by decide +kernel
theorem d_C_edgeAt_1 : decode M_C_edgeAt.2.1 1 = .ok (.getfield 9, 3) := by decide +kernel
theorem d_C_edgeAt_4 : decode M_C_edgeAt.2.1 4 = .ok (.iload_n 1, 1) := by decide +kernel
theorem d_C_edgeAt_5 : decode M_C_edgeAt.2.1 5 = .ok (.iaload, 1) := by decide +kernel
theorem d_C_edgeAt_6 : decode M_C_edgeAt.2.1 6 = .ok (.ireturn, 1) := by decide +kernel
theorem d_C_setEdge_0 : decode M_C_setEdge.2.1 0 = .ok (.aload_n 0, 1) := by decide +kernel
theorem d_C_setEdge_1 : decode M_C_setEdge.2.1 1 = .ok (.getfield 9, 3) := by decide +kernel
theorem d_C_setEdge_4 : decode M_C_setEdge.2.1 4 = .ok (.iload_n 1, 1) := by decide +kernel
theorem d_C_setEdge_5 : decode M_C_setEdge.2.1 5 = .ok (.iload_n 2, 1) := by decide +kernel
theorem d_C_setEdge_6 : decode M_C_setEdge.2.1 6 = .ok (.iastore, 1) := by decide +kernel
theorem d_C_setEdge_7 : decode M_C_setEdge.2.1 7 = .ok (.return_, 1) := by decide +kernel
theorem d_C_isPositive_0 : decode M_C_isPositive.2.1 0 = .ok (.aload_n 0, 1) := by decide +kernel
theorem d_C_isPositive_1 : decode M_C_isPositive.2.1 1 = .ok (.getfield 15, 3) := by decide +kernel
theorem d_C_isPositive_4 : decode M_C_isPositive.2.1 4 = .ok (.iload_n 1, 1) := by decide +kernel
theorem d_C_isPositive_5 : decode M_C_isPositive.2.1 5 = .ok (.iaload, 1) := by decide +kernel
theorem d_C_isPositive_6 : decode M_C_isPositive.2.1 6 = .ok (.ifCond .le (7), 3) := by decide +kernel
theorem d_C_isPositive_9 : decode M_C_isPositive.2.1 9 = .ok (.iconst (1), 1) := by decide +kernel
theorem d_C_isPositive_10 : decode M_C_isPositive.2.1 10 = .ok (.goto (4), 3) := by decide +kernel
theorem d_C_isPositive_13 : decode M_C_isPositive.2.1 13 = .ok (.iconst (0), 1) := by decide +kernel
theorem d_C_isPositive_14 : decode M_C_isPositive.2.1 14 = .ok (.ireturn, 1) := by decide +kernel
theorem d_C_append_0 : decode M_C_append.2.1 0 = .ok (.aload_n 0, 1) := by decide +kernel
theorem d_C_append_1 : decode M_C_append.2.1 1 = .ok (.invokevirtual 22, 3) := by decide +kernel
theorem d_C_append_4 : decode M_C_append.2.1 4 = .ok (.ifCond .eq (4), 3) := by decide +kernel
theorem d_C_append_7 : decode M_C_append.2.1 7 = .ok (.return_, 1) := by decide +kernel
theorem d_C_append_8 : decode M_C_append.2.1 8 = .ok (.iconst (4), 1) := by decide +kernel
theorem d_C_append_9 : decode M_C_append.2.1 9 = .ok (.aload_n 0, 1) := by decide +kernel
theorem d_C_append_10 : decode M_C_append.2.1 10 = .ok (.getfield 18, 3) := by decide +kernel
theorem d_C_append_13 : decode M_C_append.2.1 13 = .ok (.imul, 1) := by decide +kernel
theorem d_C_append_14 : decode M_C_append.2.1 14 = .ok (.istore 6, 2) := by decide +kernel
theorem d_C_append_16 : decode M_C_append.2.1 16 = .ok (.aload_n 0, 1) := by decide +kernel
theorem d_C_append_17 : decode M_C_append.2.1 17 = .ok (.getfield 9, 3) := by decide +kernel
theorem d_C_append_20 : decode M_C_append.2.1 20 = .ok (.iload 6, 2) := by decide +kernel
theorem d_C_append_22 : decode M_C_append.2.1 22 = .ok (.iload_n 1, 1) := by decide +kernel
theorem d_C_append_23 : decode M_C_append.2.1 23 = .ok (.iastore, 1) := by decide +kernel
theorem d_C_append_24 : decode M_C_append.2.1 24 = .ok (.aload_n 0, 1) := by decide +kernel
theorem d_C_append_25 : decode M_C_append.2.1 25 = .ok (.getfield 9, 3) := by decide +kernel
theorem d_C_append_28 : decode M_C_append.2.1 28 = .ok (.iload 6, 2) := by decide +kernel
theorem d_C_append_30 : decode M_C_append.2.1 30 = .ok (.iconst (1), 1) := by decide +kernel
theorem d_C_append_31 : decode M_C_append.2.1 31 = .ok (.iadd, 1) := by decide +kernel
theorem d_C_append_32 : decode M_C_append.2.1 32 = .ok (.iload_n 2, 1) := by decide +kernel
theorem d_C_append_33 : decode M_C_append.2.1 33 = .ok (.iastore, 1) := by decide +kernel
theorem d_C_append_34 : decode M_C_append.2.1 34 = .ok (.aload_n 0, 1) := by decide +kernel
theorem d_C_append_35 : decode M_C_append.2.1 35 = .ok (.getfield 9, 3) := by decide +kernel
theorem d_C_append_38 : decode M_C_append.2.1 38 = .ok (.iload 6, 2) := by decide +kernel
theorem d_C_append_40 : decode M_C_append.2.1 40 = .ok (.iconst (2), 1) := by decide +kernel
theorem d_C_append_41 : decode M_C_append.2.1 41 = .ok (.iadd, 1) := by decide +kernel
theorem d_C_append_42 : decode M_C_append.2.1 42 = .ok (.iload_n 3, 1) := by decide +kernel
theorem d_C_append_43 : decode M_C_append.2.1 43 = .ok (.iastore, 1) := by decide +kernel
theorem d_C_append_44 : decode M_C_append.2.1 44 = .ok (.aload_n 0, 1) := by decide +kernel
theorem d_C_append_45 : decode M_C_append.2.1 45 = .ok (.getfield 9, 3) := by decide +kernel
theorem d_C_append_48 : decode M_C_append.2.1 48 = .ok (.iload 6, 2) := by decide +kernel
theorem d_C_append_50 : decode M_C_append.2.1 50 = .ok (.iconst (3), 1) := by decide +kernel
theorem d_C_append_51 : decode M_C_append.2.1 51 = .ok (.iadd, 1) := by decide +kernel
theorem d_C_append_52 : decode M_C_append.2.1 52 = .ok (.iload 4, 2) := by decide +kernel
theorem d_C_append_54 : decode M_C_append.2.1 54 = .ok (.iastore, 1) := by decide +kernel
theorem d_C_append_55 : decode M_C_append.2.1 55 = .ok (.aload_n 0, 1) := by decide +kernel
theorem d_C_append_56 : decode M_C_append.2.1 56 = .ok (.getfield 15, 3) := by decide +kernel
theorem d_C_append_59 : decode M_C_append.2.1 59 = .ok (.aload_n 0, 1) := by decide +kernel
theorem d_C_append_60 : decode M_C_append.2.1 60 = .ok (.getfield 18, 3) := by decide +kernel
theorem d_C_append_63 : decode M_C_append.2.1 63 = .ok (.iload 5, 2) := by decide +kernel
theorem d_C_append_65 : decode M_C_append.2.1 65 = .ok (.ifCond .eq (7), 3) := by decide +kernel
theorem d_C_append_68 : decode M_C_append.2.1 68 = .ok (.iconst (1), 1) := by decide +kernel
theorem d_C_append_69 : decode M_C_append.2.1 69 = .ok (.goto (4), 3) := by decide +kernel
theorem d_C_append_72 : decode M_C_append.2.1 72 = .ok (.iconst (-1), 1) := by decide +kernel
theorem d_C_append_73 : decode M_C_append.2.1 73 = .ok (.iastore, 1) := by decide +kernel
theorem d_C_append_74 : decode M_C_append.2.1 74 = .ok (.aload_n 0, 1) := by decide +kernel
theorem d_C_append_75 : decode M_C_append.2.1 75 = .ok (.dup, 1) := by decide +kernel
theorem d_C_append_76 : decode M_C_append.2.1 76 = .ok (.getfield 18, 3) := by decide +kernel
theorem d_C_append_79 : decode M_C_append.2.1 79 = .ok (.iconst (1), 1) := by decide +kernel
theorem d_C_append_80 : decode M_C_append.2.1 80 = .ok (.iadd, 1) := by decide +kernel
theorem d_C_append_81 : decode M_C_append.2.1 81 = .ok (.putfield 18, 3) := by decide +kernel
theorem d_C_append_84 : decode M_C_append.2.1 84 = .ok (.return_, 1) := by decide +kernel
theorem d_C_remove_0 : decode M_C_remove.2.1 0 = .ok (.aload_n 0, 1) := by decide +kernel
theorem d_C_remove_1 : decode M_C_remove.2.1 1 = .ok (.iload_n 1, 1) := by decide +kernel
theorem d_C_remove_2 : decode M_C_remove.2.1 2 = .ok (.invokevirtual 26, 3) := by decide +kernel
theorem d_C_remove_5 : decode M_C_remove.2.1 5 = .ok (.ifCond .ne (4), 3) := by decide +kernel
theorem d_C_remove_8 : decode M_C_remove.2.1 8 = .ok (.return_, 1) := by decide +kernel
theorem d_C_remove_9 : decode M_C_remove.2.1 9 = .ok (.aload_n 0, 1) := by decide +kernel
theorem d_C_remove_10 : decode M_C_remove.2.1 10 = .ok (.getfield 18, 3) := by decide +kernel
theorem d_C_remove_13 : decode M_C_remove.2.1 13 = .ok (.iload_n 1, 1) := by decide +kernel
theorem d_C_remove_14 : decode M_C_remove.2.1 14 = .ok (.isub, 1) := by decide +kernel
theorem d_C_remove_15 : decode M_C_remove.2.1 15 = .ok (.iconst (1), 1) := by decide +kernel
theorem d_C_remove_16 : decode M_C_remove.2.1 16 = .ok (.isub, 1) := by decide +kernel
theorem d_C_remove_17 : decode M_C_remove.2.1 17 = .ok (.istore_n 2, 1) := by decide +kernel
theorem d_C_remove_18 : decode M_C_remove.2.1 18 = .ok (.aload_n 0, 1) := by decide +kernel
theorem d_C_remove_19 : decode M_C_remove.2.1 19 = .ok (.getfield 9, 3) := by decide +kernel
theorem d_C_remove_22 : decode M_C_remove.2.1 22 = .ok (.iconst (4), 1) := by decide +kernel
theorem d_C_remove_23 : decode M_C_remove.2.1 23 = .ok (.iload_n 1, 1) := by decide +kernel
theorem d_C_remove_24 : decode M_C_remove.2.1 24 = .ok (.imul, 1) := by decide +kernel
theorem d_C_remove_25 : decode M_C_remove.2.1 25 = .ok (.iconst (4), 1) := by decide +kernel
theorem d_C_remove_26 : decode M_C_remove.2.1 26 = .ok (.iadd, 1) := by decide +kernel
theorem d_C_remove_27 : decode M_C_remove.2.1 27 = .ok (.aload_n 0, 1) := by decide +kernel
theorem d_C_remove_28 : decode M_C_remove.2.1 28 = .ok (.getfield 9, 3) := by decide +kernel
theorem d_C_remove_31 : decode M_C_remove.2.1 31 = .ok (.iconst (4), 1) := by decide +kernel
theorem d_C_remove_32 : decode M_C_remove.2.1 32 = .ok (.iload_n 1, 1) := by decide +kernel
theorem d_C_remove_33 : decode M_C_remove.2.1 33 = .ok (.imul, 1) := by decide +kernel
theorem d_C_remove_34 : decode M_C_remove.2.1 34 = .ok (.iconst (4), 1) := by decide +kernel
theorem d_C_remove_35 : decode M_C_remove.2.1 35 = .ok (.iload_n 2, 1) := by decide +kernel
theorem d_C_remove_36 : decode M_C_remove.2.1 36 = .ok (.imul, 1) := by decide +kernel
theorem d_C_remove_37 : decode M_C_remove.2.1 37 = .ok (.invokestatic 30, 3) := by decide +kernel
theorem d_C_remove_40 : decode M_C_remove.2.1 40 = .ok (.aload_n 0, 1) := by decide +kernel
theorem d_C_remove_41 : decode M_C_remove.2.1 41 = .ok (.getfield 15, 3) := by decide +kernel
theorem d_C_remove_44 : decode M_C_remove.2.1 44 = .ok (.iload_n 1, 1) := by decide +kernel
theorem d_C_remove_45 : decode M_C_remove.2.1 45 = .ok (.iconst (1), 1) := by decide +kernel
theorem d_C_remove_46 : decode M_C_remove.2.1 46 = .ok (.iadd, 1) := by decide +kernel
theorem d_C_remove_47 : decode M_C_remove.2.1 47 = .ok (.aload_n 0, 1) := by decide +kernel
theorem d_C_remove_48 : decode M_C_remove.2.1 48 = .ok (.getfield 15, 3) := by decide +kernel
theorem d_C_remove_51 : decode M_C_remove.2.1 51 = .ok (.iload_n 1, 1) := by decide +kernel
theorem d_C_remove_52 : decode M_C_remove.2.1 52 = .ok (.iload_n 2, 1) := by decide +kernel
theorem d_C_remove_53 : decode M_C_remove.2.1 53 = .ok (.invokestatic 30, 3) := by decide +kernel
theorem d_C_remove_56 : decode M_C_remove.2.1 56 = .ok (.aload_n 0, 1) := by decide +kernel
theorem d_C_remove_57 : decode M_C_remove.2.1 57 = .ok (.dup, 1) := by decide +kernel
theorem d_C_remove_58 : decode M_C_remove.2.1 58 = .ok (.getfield 18, 3) := by decide +kernel
theorem d_C_remove_61 : decode M_C_remove.2.1 61 = .ok (.iconst (1), 1) := by decide +kernel
theorem d_C_remove_62 : decode M_C_remove.2.1 62 = .ok (.isub, 1) := by decide +kernel
theorem d_C_remove_63 : decode M_C_remove.2.1 63 = .ok (.putfield 18, 3) := by decide +kernel
theorem d_C_remove_66 : decode M_C_remove.2.1 66 = .ok (.return_, 1) := by decide +kernel
theorem d_C_clear_0 : decode M_C_clear.2.1 0 = .ok (.aload_n 0, 1) := by decide +kernel
theorem d_C_clear_1 : decode M_C_clear.2.1 1 = .ok (.iconst (0), 1) := by decide +kernel
theorem d_C_clear_2 : decode M_C_clear.2.1 2 = .ok (.putfield 18, 3) := by decide +kernel
theorem d_C_clear_5 : decode M_C_clear.2.1 5 = .ok (.return_, 1) := by decide +kernel
theorem d_C_copyFrom_0 : decode M_C_copyFrom.2.1 0 = .ok (.aload_n 1, 1) := by decide +kernel
theorem d_C_copyFrom_1 : decode M_C_copyFrom.2.1 1 = .ok (.getfield 9, 3) := by decide +kernel
theorem d_C_copyFrom_4 : decode M_C_copyFrom.2.1 4 = .ok (.iconst (0), 1) := by decide +kernel
theorem d_C_copyFrom_5 : decode M_C_copyFrom.2.1 5 = .ok (.aload_n 0, 1) := by decide +kernel
theorem d_C_copyFrom_6 : decode M_C_copyFrom.2.1 6 = .ok (.getfield 9, 3) := by decide +kernel
theorem d_C_copyFrom_9 : decode M_C_copyFrom.2.1 9 = .ok (.iconst (0), 1) := by decide +kernel
theorem d_C_copyFrom_10 : decode M_C_copyFrom.2.1 10 = .ok (.bipush (32), 2) := by decide +kernel
theorem d_C_copyFrom_12 : decode M_C_copyFrom.2.1 12 = .ok (.invokestatic 30, 3) := by decide +kernel
theorem d_C_copyFrom_15 : decode M_C_copyFrom.2.1 15 = .ok (.aload_n 1, 1) := by decide +kernel
theorem d_C_copyFrom_16 : decode M_C_copyFrom.2.1 16 = .ok (.getfield 15, 3) := by decide +kernel
theorem d_C_copyFrom_19 : decode M_C_copyFrom.2.1 19 = .ok (.iconst (0), 1) := by decide +kernel
theorem d_C_copyFrom_20 : decode M_C_copyFrom.2.1 20 = .ok (.aload_n 0, 1) := by decide +kernel
theorem d_C_copyFrom_21 : decode M_C_copyFrom.2.1 21 = .ok (.getfield 15, 3) := by decide +kernel
theorem d_C_copyFrom_24 : decode M_C_copyFrom.2.1 24 = .ok (.iconst (0), 1) := by decide +kernel
theorem d_C_copyFrom_25 : decode M_C_copyFrom.2.1 25 = .ok (.bipush (8), 2) := by decide +kernel
theorem d_C_copyFrom_27 : decode M_C_copyFrom.2.1 27 = .ok (.invokestatic 30, 3) := by decide +kernel
theorem d_C_copyFrom_30 : decode M_C_copyFrom.2.1 30 = .ok (.aload_n 0, 1) := by decide +kernel
theorem d_C_copyFrom_31 : decode M_C_copyFrom.2.1 31 = .ok (.aload_n 1, 1) := by decide +kernel
theorem d_C_copyFrom_32 : decode M_C_copyFrom.2.1 32 = .ok (.getfield 18, 3) := by decide +kernel
theorem d_C_copyFrom_35 : decode M_C_copyFrom.2.1 35 = .ok (.putfield 18, 3) := by decide +kernel
theorem d_C_copyFrom_38 : decode M_C_copyFrom.2.1 38 = .ok (.return_, 1) := by decide +kernel
theorem d_C_writhe_0 : decode M_C_writhe.2.1 0 = .ok (.iconst (0), 1) := by decide +kernel
theorem d_C_writhe_1 : decode M_C_writhe.2.1 1 = .ok (.istore_n 1, 1) := by decide +kernel
theorem d_C_writhe_2 : decode M_C_writhe.2.1 2 = .ok (.iconst (0), 1) := by decide +kernel
theorem d_C_writhe_3 : decode M_C_writhe.2.1 3 = .ok (.istore_n 2, 1) := by decide +kernel
theorem d_C_writhe_4 : decode M_C_writhe.2.1 4 = .ok (.iload_n 2, 1) := by decide +kernel
theorem d_C_writhe_5 : decode M_C_writhe.2.1 5 = .ok (.aload_n 0, 1) := by decide +kernel
theorem d_C_writhe_6 : decode M_C_writhe.2.1 6 = .ok (.getfield 18, 3) := by decide +kernel
theorem d_C_writhe_9 : decode M_C_writhe.2.1 9 = .ok (.if_icmp .ge (18), 3) := by decide +kernel
theorem d_C_writhe_12 : decode M_C_writhe.2.1 12 = .ok (.iload_n 1, 1) := by decide +kernel
theorem d_C_writhe_13 : decode M_C_writhe.2.1 13 = .ok (.aload_n 0, 1) := by decide +kernel
theorem d_C_writhe_14 : decode M_C_writhe.2.1 14 = .ok (.getfield 15, 3) := by decide +kernel
theorem d_C_writhe_17 : decode M_C_writhe.2.1 17 = .ok (.iload_n 2, 1) := by decide +kernel
theorem d_C_writhe_18 : decode M_C_writhe.2.1 18 = .ok (.iaload, 1) := by decide +kernel
theorem d_C_writhe_19 : decode M_C_writhe.2.1 19 = .ok (.iadd, 1) := by decide +kernel
theorem d_C_writhe_20 : decode M_C_writhe.2.1 20 = .ok (.istore_n 1, 1) := by decide +kernel
theorem d_C_writhe_21 : decode M_C_writhe.2.1 21 = .ok (.iinc 2 (1), 3) := by decide +kernel
theorem d_C_writhe_24 : decode M_C_writhe.2.1 24 = .ok (.goto (-20), 3) := by decide +kernel
theorem d_C_writhe_27 : decode M_C_writhe.2.1 27 = .ok (.iload_n 1, 1) := by decide +kernel
theorem d_C_writhe_28 : decode M_C_writhe.2.1 28 = .ok (.ireturn, 1) := by decide +kernel
theorem d_C_comesIn_0 : decode M_C_comesIn.2.1 0 = .ok (.iload_n 1, 1) := by decide +kernel
theorem d_C_comesIn_1 : decode M_C_comesIn.2.1 1 = .ok (.iconst (3), 1) := by decide +kernel
theorem d_C_comesIn_2 : decode M_C_comesIn.2.1 2 = .ok (.iand, 1) := by decide +kernel
theorem d_C_comesIn_3 : decode M_C_comesIn.2.1 3 = .ok (.istore_n 2, 1) := by decide +kernel
theorem d_C_comesIn_4 : decode M_C_comesIn.2.1 4 = .ok (.iload_n 2, 1) := by decide +kernel
theorem d_C_comesIn_5 : decode M_C_comesIn.2.1 5 = .ok (.invokestatic 36, 3) := by decide +kernel
theorem d_C_comesIn_8 : decode M_C_comesIn.2.1 8 = .ok (.ifCond .eq (30), 3) := by decide +kernel
theorem d_C_comesIn_11 : decode M_C_comesIn.2.1 11 = .ok (.iload_n 2, 1) := by decide +kernel
theorem d_C_comesIn_12 : decode M_C_comesIn.2.1 12 = .ok (.iconst (3), 1) := by decide +kernel
theorem d_C_comesIn_13 : decode M_C_comesIn.2.1 13 = .ok (.if_icmp .ne (7), 3) := by decide +kernel
theorem d_C_comesIn_16 : decode M_C_comesIn.2.1 16 = .ok (.iconst (1), 1) := by decide +kernel
theorem d_C_comesIn_17 : decode M_C_comesIn.2.1 17 = .ok (.goto (4), 3) := by decide +kernel
theorem d_C_comesIn_20 : decode M_C_comesIn.2.1 20 = .ok (.iconst (0), 1) := by decide +kernel
theorem d_C_comesIn_21 : decode M_C_comesIn.2.1 21 = .ok (.aload_n 0, 1) := by decide +kernel
theorem d_C_comesIn_22 : decode M_C_comesIn.2.1 22 = .ok (.iload_n 1, 1) := by decide +kernel
theorem d_C_comesIn_23 : decode M_C_comesIn.2.1 23 = .ok (.invokestatic 39, 3) := by decide +kernel
theorem d_C_comesIn_26 : decode M_C_comesIn.2.1 26 = .ok (.invokevirtual 43, 3) := by decide +kernel
theorem d_C_comesIn_29 : decode M_C_comesIn.2.1 29 = .ok (.if_icmp .ne (7), 3) := by decide +kernel
theorem d_C_comesIn_32 : decode M_C_comesIn.2.1 32 = .ok (.iconst (1), 1) := by decide +kernel
theorem d_C_comesIn_33 : decode M_C_comesIn.2.1 33 = .ok (.goto (4), 3) := by decide +kernel
theorem d_C_comesIn_36 : decode M_C_comesIn.2.1 36 = .ok (.iconst (0), 1) := by decide +kernel
theorem d_C_comesIn_37 : decode M_C_comesIn.2.1 37 = .ok (.ireturn, 1) := by decide +kernel
theorem d_C_comesIn_38 : decode M_C_comesIn.2.1 38 = .ok (.iload_n 2, 1) := by decide +kernel
theorem d_C_comesIn_39 : decode M_C_comesIn.2.1 39 = .ok (.ifCond .ne (7), 3) := by decide +kernel
theorem d_C_comesIn_42 : decode M_C_comesIn.2.1 42 = .ok (.iconst (1), 1) := by decide +kernel
theorem d_C_comesIn_43 : decode M_C_comesIn.2.1 43 = .ok (.goto (4), 3) := by decide +kernel
theorem d_C_comesIn_46 : decode M_C_comesIn.2.1 46 = .ok (.iconst (0), 1) := by decide +kernel
theorem d_C_comesIn_47 : decode M_C_comesIn.2.1 47 = .ok (.ireturn, 1) := by decide +kernel
theorem d_C_occurs_0 : decode M_C_occurs.2.1 0 = .ok (.iconst (0), 1) := by decide +kernel
theorem d_C_occurs_1 : decode M_C_occurs.2.1 1 = .ok (.istore_n 2, 1) := by decide +kernel
theorem d_C_occurs_2 : decode M_C_occurs.2.1 2 = .ok (.iload_n 2, 1) := by decide +kernel
theorem d_C_occurs_3 : decode M_C_occurs.2.1 3 = .ok (.aload_n 0, 1) := by decide +kernel
theorem d_C_occurs_4 : decode M_C_occurs.2.1 4 = .ok (.invokevirtual 46, 3) := by decide +kernel
theorem d_C_occurs_7 : decode M_C_occurs.2.1 7 = .ok (.if_icmp .ge (21), 3) := by decide +kernel
theorem d_C_occurs_10 : decode M_C_occurs.2.1 10 = .ok (.aload_n 0, 1) := by decide +kernel
theorem d_C_occurs_11 : decode M_C_occurs.2.1 11 = .ok (.getfield 9, 3) := by decide +kernel
theorem d_C_occurs_14 : decode M_C_occurs.2.1 14 = .ok (.iload_n 2, 1) := by decide +kernel
theorem d_C_occurs_15 : decode M_C_occurs.2.1 15 = .ok (.iaload, 1) := by decide +kernel
theorem d_C_occurs_16 : decode M_C_occurs.2.1 16 = .ok (.iload_n 1, 1) := by decide +kernel
theorem d_C_occurs_17 : decode M_C_occurs.2.1 17 = .ok (.if_icmp .ne (5), 3) := by decide +kernel
theorem d_C_occurs_20 : decode M_C_occurs.2.1 20 = .ok (.iconst (1), 1) := by decide +kernel
theorem d_C_occurs_21 : decode M_C_occurs.2.1 21 = .ok (.ireturn, 1) := by decide +kernel
theorem d_C_occurs_22 : decode M_C_occurs.2.1 22 = .ok (.iinc 2 (1), 3) := by decide +kernel
theorem d_C_occurs_25 : decode M_C_occurs.2.1 25 = .ok (.goto (-23), 3) := by decide +kernel
theorem d_C_occurs_28 : decode M_C_occurs.2.1 28 = .ok (.iconst (0), 1) := by decide +kernel
theorem d_C_occurs_29 : decode M_C_occurs.2.1 29 = .ok (.ireturn, 1) := by decide +kernel
theorem d_C_otherEnd_0 : decode M_C_otherEnd.2.1 0 = .ok (.iconst (0), 1) := by decide +kernel
theorem d_C_otherEnd_1 : decode M_C_otherEnd.2.1 1 = .ok (.istore_n 2, 1) := by decide +kernel
theorem d_C_otherEnd_2 : decode M_C_otherEnd.2.1 2 = .ok (.iload_n 2, 1) := by decide +kernel
theorem d_C_otherEnd_3 : decode M_C_otherEnd.2.1 3 = .ok (.aload_n 0, 1) := by decide +kernel
theorem d_C_otherEnd_4 : decode M_C_otherEnd.2.1 4 = .ok (.invokevirtual 46, 3) := by decide +kernel
theorem d_C_otherEnd_7 : decode M_C_otherEnd.2.1 7 = .ok (.if_icmp .ge (31), 3) := by decide +kernel
theorem d_C_otherEnd_10 : decode M_C_otherEnd.2.1 10 = .ok (.iload_n 2, 1) := by decide +kernel
theorem d_C_otherEnd_11 : decode M_C_otherEnd.2.1 11 = .ok (.iload_n 1, 1) := by decide +kernel
theorem d_C_otherEnd_12 : decode M_C_otherEnd.2.1 12 = .ok (.if_icmp .eq (20), 3) := by decide +kernel
theorem d_C_otherEnd_15 : decode M_C_otherEnd.2.1 15 = .ok (.aload_n 0, 1) := by decide +kernel
theorem d_C_otherEnd_16 : decode M_C_otherEnd.2.1 16 = .ok (.getfield 9, 3) := by decide +kernel
theorem d_C_otherEnd_19 : decode M_C_otherEnd.2.1 19 = .ok (.iload_n 2, 1) := by decide +kernel
theorem d_C_otherEnd_20 : decode M_C_otherEnd.2.1 20 = .ok (.iaload, 1) := by decide +kernel
theorem d_C_otherEnd_21 : decode M_C_otherEnd.2.1 21 = .ok (.aload_n 0, 1) := by decide +kernel
theorem d_C_otherEnd_22 : decode M_C_otherEnd.2.1 22 = .ok (.getfield 9, 3) := by decide +kernel
theorem d_C_otherEnd_25 : decode M_C_otherEnd.2.1 25 = .ok (.iload_n 1, 1) := by decide +kernel
theorem d_C_otherEnd_26 : decode M_C_otherEnd.2.1 26 = .ok (.iaload, 1) := by decide +kernel
theorem d_C_otherEnd_27 : decode M_C_otherEnd.2.1 27 = .ok (.if_icmp .ne (5), 3) := by decide +kernel
theorem d_C_otherEnd_30 : decode M_C_otherEnd.2.1 30 = .ok (.iload_n 2, 1) := by decide +kernel
theorem d_C_otherEnd_31 : decode M_C_otherEnd.2.1 31 = .ok (.ireturn, 1) := by decide +kernel
theorem d_C_otherEnd_32 : decode M_C_otherEnd.2.1 32 = .ok (.iinc 2 (1), 3) := by decide +kernel
theorem d_C_otherEnd_35 : decode M_C_otherEnd.2.1 35 = .ok (.goto (-33), 3) := by decide +kernel
theorem d_C_otherEnd_38 : decode M_C_otherEnd.2.1 38 = .ok (.iload_n 1, 1) := by decide +kernel
theorem d_C_otherEnd_39 : decode M_C_otherEnd.2.1 39 = .ok (.ireturn, 1) := by decide +kernel
theorem d_C_follow_0 : decode M_C_follow.2.1 0 = .ok (.aload_n 0, 1) := by decide +kernel
theorem d_C_follow_1 : decode M_C_follow.2.1 1 = .ok (.iload_n 1, 1) := by decide +kernel
theorem d_C_follow_2 : decode M_C_follow.2.1 2 = .ok (.invokevirtual 50, 3) := by decide +kernel
theorem d_C_follow_5 : decode M_C_follow.2.1 5 = .ok (.iconst (3), 1) := by decide +kernel
theorem d_C_follow_6 : decode M_C_follow.2.1 6 = .ok (.invokestatic 53, 3) := by decide +kernel
theorem d_C_follow_9 : decode M_C_follow.2.1 9 = .ok (.ireturn, 1) := by decide +kernel
theorem d_C_incoming_0 : decode M_C_incoming.2.1 0 = .ok (.aload_n 0, 1) := by decide +kernel
theorem d_C_incoming_1 : decode M_C_incoming.2.1 1 = .ok (.iload_n 1, 1) := by decide +kernel
theorem d_C_incoming_2 : decode M_C_incoming.2.1 2 = .ok (.invokevirtual 57, 3) := by decide +kernel
theorem d_C_incoming_5 : decode M_C_incoming.2.1 5 = .ok (.ifCond .eq (7), 3) := by decide +kernel
theorem d_C_incoming_8 : decode M_C_incoming.2.1 8 = .ok (.iload_n 1, 1) := by decide +kernel
theorem d_C_incoming_9 : decode M_C_incoming.2.1 9 = .ok (.goto (8), 3) := by decide +kernel
theorem d_C_incoming_12 : decode M_C_incoming.2.1 12 = .ok (.aload_n 0, 1) := by decide +kernel
theorem d_C_incoming_13 : decode M_C_incoming.2.1 13 = .ok (.iload_n 1, 1) := by decide +kernel
theorem d_C_incoming_14 : decode M_C_incoming.2.1 14 = .ok (.invokevirtual 50, 3) := by decide +kernel
theorem d_C_incoming_17 : decode M_C_incoming.2.1 17 = .ok (.ireturn, 1) := by decide +kernel
theorem d_C_outgoing_0 : decode M_C_outgoing.2.1 0 = .ok (.aload_n 0, 1) := by decide +kernel
theorem d_C_outgoing_1 : decode M_C_outgoing.2.1 1 = .ok (.iload_n 1, 1) := by decide +kernel
theorem d_C_outgoing_2 : decode M_C_outgoing.2.1 2 = .ok (.invokevirtual 57, 3) := by decide +kernel
theorem d_C_outgoing_5 : decode M_C_outgoing.2.1 5 = .ok (.ifCond .eq (11), 3) := by decide +kernel
theorem d_C_outgoing_8 : decode M_C_outgoing.2.1 8 = .ok (.aload_n 0, 1) := by decide +kernel
theorem d_C_outgoing_9 : decode M_C_outgoing.2.1 9 = .ok (.iload_n 1, 1) := by decide +kernel
theorem d_C_outgoing_10 : decode M_C_outgoing.2.1 10 = .ok (.invokevirtual 50, 3) := by decide +kernel
theorem d_C_outgoing_13 : decode M_C_outgoing.2.1 13 = .ok (.goto (4), 3) := by decide +kernel
theorem d_C_outgoing_16 : decode M_C_outgoing.2.1 16 = .ok (.iload_n 1, 1) := by decide +kernel
theorem d_C_outgoing_17 : decode M_C_outgoing.2.1 17 = .ok (.ireturn, 1) := by decide +kernel
theorem d_C_edgeBefore_0 : decode M_C_edgeBefore.2.1 0 = .ok (.aload_n 0, 1) := by decide +kernel
theorem d_C_edgeBefore_1 : decode M_C_edgeBefore.2.1 1 = .ok (.getfield 9, 3) := by decide +kernel
theorem d_C_edgeBefore_4 : decode M_C_edgeBefore.2.1 4 = .ok (.aload_n 0, 1) := by decide +kernel
theorem d_C_edgeBefore_5 : decode M_C_edgeBefore.2.1 5 = .ok (.iload_n 1, 1) := by decide +kernel
theorem d_C_edgeBefore_6 : decode M_C_edgeBefore.2.1 6 = .ok (.invokevirtual 60, 3) := by decide +kernel
theorem d_C_edgeBefore_9 : decode M_C_edgeBefore.2.1 9 = .ok (.invokestatic 63, 3) := by decide +kernel
theorem d_C_edgeBefore_12 : decode M_C_edgeBefore.2.1 12 = .ok (.iaload, 1) := by decide +kernel
theorem d_C_edgeBefore_13 : decode M_C_edgeBefore.2.1 13 = .ok (.ireturn, 1) := by decide +kernel
theorem d_C_edgeBehind_0 : decode M_C_edgeBehind.2.1 0 = .ok (.aload_n 0, 1) := by decide +kernel
theorem d_C_edgeBehind_1 : decode M_C_edgeBehind.2.1 1 = .ok (.getfield 9, 3) := by decide +kernel
theorem d_C_edgeBehind_4 : decode M_C_edgeBehind.2.1 4 = .ok (.aload_n 0, 1) := by decide +kernel
theorem d_C_edgeBehind_5 : decode M_C_edgeBehind.2.1 5 = .ok (.iload_n 1, 1) := by decide +kernel
theorem d_C_edgeBehind_6 : decode M_C_edgeBehind.2.1 6 = .ok (.invokevirtual 66, 3) := by decide +kernel
theorem d_C_edgeBehind_9 : decode M_C_edgeBehind.2.1 9 = .ok (.invokestatic 63, 3) := by decide +kernel
theorem d_C_edgeBehind_12 : decode M_C_edgeBehind.2.1 12 = .ok (.iaload, 1) := by decide +kernel
theorem d_C_edgeBehind_13 : decode M_C_edgeBehind.2.1 13 = .ok (.ireturn, 1) := by decide +kernel
theorem d_C_endOn_0 : decode M_C_endOn.2.1 0 = .ok (.iconst (0), 1) := by decide +kernel
theorem d_C_endOn_1 : decode M_C_endOn.2.1 1 = .ok (.istore_n 3, 1) := by decide +kernel
theorem d_C_endOn_2 : decode M_C_endOn.2.1 2 = .ok (.iload_n 3, 1) := by decide +kernel
theorem d_C_endOn_3 : decode M_C_endOn.2.1 3 = .ok (.aload_n 0, 1) := by decide +kernel
theorem d_C_endOn_4 : decode M_C_endOn.2.1 4 = .ok (.invokevirtual 46, 3) := by decide +kernel
theorem d_C_endOn_7 : decode M_C_endOn.2.1 7 = .ok (.if_icmp .ge (30), 3) := by decide +kernel
theorem d_C_endOn_10 : decode M_C_endOn.2.1 10 = .ok (.aload_n 0, 1) := by decide +kernel
theorem d_C_endOn_11 : decode M_C_endOn.2.1 11 = .ok (.getfield 9, 3) := by decide +kernel
theorem d_C_endOn_14 : decode M_C_endOn.2.1 14 = .ok (.iload_n 3, 1) := by decide +kernel
theorem d_C_endOn_15 : decode M_C_endOn.2.1 15 = .ok (.iaload, 1) := by decide +kernel
theorem d_C_endOn_16 : decode M_C_endOn.2.1 16 = .ok (.iload_n 1, 1) := by decide +kernel
theorem d_C_endOn_17 : decode M_C_endOn.2.1 17 = .ok (.if_icmp .ne (14), 3) := by decide +kernel
theorem d_C_endOn_20 : decode M_C_endOn.2.1 20 = .ok (.aload_n 0, 1) := by decide +kernel
theorem d_C_endOn_21 : decode M_C_endOn.2.1 21 = .ok (.iload_n 3, 1) := by decide +kernel
theorem d_C_endOn_22 : decode M_C_endOn.2.1 22 = .ok (.invokevirtual 57, 3) := by decide +kernel
theorem d_C_endOn_25 : decode M_C_endOn.2.1 25 = .ok (.iload_n 2, 1) := by decide +kernel
theorem d_C_endOn_26 : decode M_C_endOn.2.1 26 = .ok (.if_icmp .ne (5), 3) := by decide +kernel
theorem d_C_endOn_29 : decode M_C_endOn.2.1 29 = .ok (.iload_n 3, 1) := by decide +kernel
theorem d_C_endOn_30 : decode M_C_endOn.2.1 30 = .ok (.ireturn, 1) := by decide +kernel
theorem d_C_endOn_31 : decode M_C_endOn.2.1 31 = .ok (.iinc 3 (1), 3) := by decide +kernel
theorem d_C_endOn_34 : decode M_C_endOn.2.1 34 = .ok (.goto (-32), 3) := by decide +kernel
theorem d_C_endOn_37 : decode M_C_endOn.2.1 37 = .ok (.iconst (-1), 1) := by decide +kernel
theorem d_C_endOn_38 : decode M_C_endOn.2.1 38 = .ok (.ireturn, 1) := by decide +kernel
theorem d_C_bringIn_0 : decode M_C_bringIn.2.1 0 = .ok (.aload_n 0, 1) := by decide +kernel
theorem d_C_bringIn_1 : decode M_C_bringIn.2.1 1 = .ok (.iload_n 2, 1) := by decide +kernel
theorem d_C_bringIn_2 : decode M_C_bringIn.2.1 2 = .ok (.iconst (1), 1) := by decide +kernel
theorem d_C_bringIn_3 : decode M_C_bringIn.2.1 3 = .ok (.invokevirtual 69, 3) := by decide +kernel
theorem d_C_bringIn_6 : decode M_C_bringIn.2.1 6 = .ok (.istore_n 3, 1) := by decide +kernel
theorem d_C_bringIn_7 : decode M_C_bringIn.2.1 7 = .ok (.iload_n 3, 1) := by decide +kernel
theorem d_C_bringIn_8 : decode M_C_bringIn.2.1 8 = .ok (.iconst (-1), 1) := by decide +kernel
theorem d_C_bringIn_9 : decode M_C_bringIn.2.1 9 = .ok (.if_icmp .eq (10), 3) := by decide +kernel
theorem d_C_bringIn_12 : decode M_C_bringIn.2.1 12 = .ok (.aload_n 0, 1) := by decide +kernel
theorem d_C_bringIn_13 : decode M_C_bringIn.2.1 13 = .ok (.getfield 9, 3) := by decide +kernel
theorem d_C_bringIn_16 : decode M_C_bringIn.2.1 16 = .ok (.iload_n 3, 1) := by decide +kernel
theorem d_C_bringIn_17 : decode M_C_bringIn.2.1 17 = .ok (.iload_n 1, 1) := by decide +kernel
theorem d_C_bringIn_18 : decode M_C_bringIn.2.1 18 = .ok (.iastore, 1) := by decide +kernel
theorem d_C_bringIn_19 : decode M_C_bringIn.2.1 19 = .ok (.return_, 1) := by decide +kernel
theorem d_C_rename_0 : decode M_C_rename.2.1 0 = .ok (.iconst (0), 1) := by decide +kernel
theorem d_C_rename_1 : decode M_C_rename.2.1 1 = .ok (.istore_n 3, 1) := by decide +kernel
theorem d_C_rename_2 : decode M_C_rename.2.1 2 = .ok (.iload_n 3, 1) := by decide +kernel
theorem d_C_rename_3 : decode M_C_rename.2.1 3 = .ok (.aload_n 0, 1) := by decide +kernel
theorem d_C_rename_4 : decode M_C_rename.2.1 4 = .ok (.invokevirtual 46, 3) := by decide +kernel
theorem d_C_rename_7 : decode M_C_rename.2.1 7 = .ok (.if_icmp .ge (26), 3) := by decide +kernel
theorem d_C_rename_10 : decode M_C_rename.2.1 10 = .ok (.aload_n 0, 1) := by decide +kernel
theorem d_C_rename_11 : decode M_C_rename.2.1 11 = .ok (.getfield 9, 3) := by decide +kernel
theorem d_C_rename_14 : decode M_C_rename.2.1 14 = .ok (.iload_n 3, 1) := by decide +kernel
theorem d_C_rename_15 : decode M_C_rename.2.1 15 = .ok (.iaload, 1) := by decide +kernel
theorem d_C_rename_16 : decode M_C_rename.2.1 16 = .ok (.iload_n 1, 1) := by decide +kernel
theorem d_C_rename_17 : decode M_C_rename.2.1 17 = .ok (.if_icmp .ne (10), 3) := by decide +kernel
theorem d_C_rename_20 : decode M_C_rename.2.1 20 = .ok (.aload_n 0, 1) := by decide +kernel
theorem d_C_rename_21 : decode M_C_rename.2.1 21 = .ok (.getfield 9, 3) := by decide +kernel
theorem d_C_rename_24 : decode M_C_rename.2.1 24 = .ok (.iload_n 3, 1) := by decide +kernel
theorem d_C_rename_25 : decode M_C_rename.2.1 25 = .ok (.iload_n 2, 1) := by decide +kernel
theorem d_C_rename_26 : decode M_C_rename.2.1 26 = .ok (.iastore, 1) := by decide +kernel
theorem d_C_rename_27 : decode M_C_rename.2.1 27 = .ok (.iinc 3 (1), 3) := by decide +kernel
theorem d_C_rename_30 : decode M_C_rename.2.1 30 = .ok (.goto (-28), 3) := by decide +kernel
theorem d_C_rename_33 : decode M_C_rename.2.1 33 = .ok (.return_, 1) := by decide +kernel
theorem d_S_init_0 : decode M_S_init.2.1 0 = .ok (.aload_n 0, 1) := by decide +kernel
theorem d_S_init_1 : decode M_S_init.2.1 1 = .ok (.invokespecial 3, 3) := by decide +kernel
theorem d_S_init_4 : decode M_S_init.2.1 4 = .ok (.aload_n 0, 1) := by decide +kernel
theorem d_S_init_5 : decode M_S_init.2.1 5 = .ok (.bipush (32), 2) := by decide +kernel
theorem d_S_init_7 : decode M_S_init.2.1 7 = .ok (.newarray .int, 2) := by decide +kernel
theorem d_S_init_9 : decode M_S_init.2.1 9 = .ok (.putfield 9, 3) := by decide +kernel
theorem d_S_init_12 : decode M_S_init.2.1 12 = .ok (.aload_n 0, 1) := by decide +kernel
theorem d_S_init_13 : decode M_S_init.2.1 13 = .ok (.bipush (8), 2) := by decide +kernel
theorem d_S_init_15 : decode M_S_init.2.1 15 = .ok (.newarray .int, 2) := by decide +kernel
theorem d_S_init_17 : decode M_S_init.2.1 17 = .ok (.putfield 15, 3) := by decide +kernel
theorem d_S_init_20 : decode M_S_init.2.1 20 = .ok (.return_, 1) := by decide +kernel
theorem d_S_fits_0 : decode M_S_fits.2.1 0 = .ok (.iconst (0), 1) := by decide +kernel
theorem d_S_fits_1 : decode M_S_fits.2.1 1 = .ok (.istore_n 2, 1) := by decide +kernel
theorem d_S_fits_2 : decode M_S_fits.2.1 2 = .ok (.iload_n 2, 1) := by decide +kernel
theorem d_S_fits_3 : decode M_S_fits.2.1 3 = .ok (.aload_n 1, 1) := by decide +kernel
theorem d_S_fits_4 : decode M_S_fits.2.1 4 = .ok (.invokevirtual 18, 3) := by decide +kernel
theorem d_S_fits_7 : decode M_S_fits.2.1 7 = .ok (.if_icmp .ge (20), 3) := by decide +kernel
theorem d_S_fits_10 : decode M_S_fits.2.1 10 = .ok (.aload_n 0, 1) := by decide +kernel
theorem d_S_fits_11 : decode M_S_fits.2.1 11 = .ok (.aload_n 1, 1) := by decide +kernel
theorem d_S_fits_12 : decode M_S_fits.2.1 12 = .ok (.iload_n 2, 1) := by decide +kernel
theorem d_S_fits_13 : decode M_S_fits.2.1 13 = .ok (.invokevirtual 24, 3) := by decide +kernel
theorem d_S_fits_16 : decode M_S_fits.2.1 16 = .ok (.ifCond .ne (5), 3) := by decide +kernel
theorem d_S_fits_19 : decode M_S_fits.2.1 19 = .ok (.iconst (0), 1) := by decide +kernel
theorem d_S_fits_20 : decode M_S_fits.2.1 20 = .ok (.ireturn, 1) := by decide +kernel
theorem d_S_fits_21 : decode M_S_fits.2.1 21 = .ok (.iinc 2 (1), 3) := by decide +kernel
theorem d_S_fits_24 : decode M_S_fits.2.1 24 = .ok (.goto (-22), 3) := by decide +kernel
theorem d_S_fits_27 : decode M_S_fits.2.1 27 = .ok (.iconst (1), 1) := by decide +kernel
theorem d_S_fits_28 : decode M_S_fits.2.1 28 = .ok (.ireturn, 1) := by decide +kernel
theorem d_S_fitsAt_0 : decode M_S_fitsAt.2.1 0 = .ok (.iconst (0), 1) := by decide +kernel
theorem d_S_fitsAt_1 : decode M_S_fitsAt.2.1 1 = .ok (.istore_n 3, 1) := by decide +kernel
theorem d_S_fitsAt_2 : decode M_S_fitsAt.2.1 2 = .ok (.iconst (0), 1) := by decide +kernel
theorem d_S_fitsAt_3 : decode M_S_fitsAt.2.1 3 = .ok (.istore 4, 2) := by decide +kernel
theorem d_S_fitsAt_5 : decode M_S_fitsAt.2.1 5 = .ok (.iconst (0), 1) := by decide +kernel
theorem d_S_fitsAt_6 : decode M_S_fitsAt.2.1 6 = .ok (.istore 5, 2) := by decide +kernel
theorem d_S_fitsAt_8 : decode M_S_fitsAt.2.1 8 = .ok (.iload 5, 2) := by decide +kernel
theorem d_S_fitsAt_10 : decode M_S_fitsAt.2.1 10 = .ok (.aload_n 1, 1) := by decide +kernel
theorem d_S_fitsAt_11 : decode M_S_fitsAt.2.1 11 = .ok (.invokevirtual 18, 3) := by decide +kernel
theorem d_S_fitsAt_14 : decode M_S_fitsAt.2.1 14 = .ok (.if_icmp .ge (45), 3) := by decide +kernel
theorem d_S_fitsAt_17 : decode M_S_fitsAt.2.1 17 = .ok (.aload_n 1, 1) := by decide +kernel
theorem d_S_fitsAt_18 : decode M_S_fitsAt.2.1 18 = .ok (.iload 5, 2) := by decide +kernel
theorem d_S_fitsAt_20 : decode M_S_fitsAt.2.1 20 = .ok (.invokevirtual 28, 3) := by decide +kernel
theorem d_S_fitsAt_23 : decode M_S_fitsAt.2.1 23 = .ok (.aload_n 1, 1) := by decide +kernel
theorem d_S_fitsAt_24 : decode M_S_fitsAt.2.1 24 = .ok (.iload_n 2, 1) := by decide +kernel
theorem d_S_fitsAt_25 : decode M_S_fitsAt.2.1 25 = .ok (.invokevirtual 28, 3) := by decide +kernel
theorem d_S_fitsAt_28 : decode M_S_fitsAt.2.1 28 = .ok (.if_icmp .ne (25), 3) := by decide +kernel
theorem d_S_fitsAt_31 : decode M_S_fitsAt.2.1 31 = .ok (.iinc 3 (1), 3) := by decide +kernel
theorem d_S_fitsAt_34 : decode M_S_fitsAt.2.1 34 = .ok (.iload 4, 2) := by decide +kernel
theorem d_S_fitsAt_36 : decode M_S_fitsAt.2.1 36 = .ok (.aload_n 1, 1) := by decide +kernel
theorem d_S_fitsAt_37 : decode M_S_fitsAt.2.1 37 = .ok (.iload 5, 2) := by decide +kernel
theorem d_S_fitsAt_39 : decode M_S_fitsAt.2.1 39 = .ok (.invokevirtual 32, 3) := by decide +kernel
theorem d_S_fitsAt_42 : decode M_S_fitsAt.2.1 42 = .ok (.ifCond .eq (7), 3) := by decide +kernel
theorem d_S_fitsAt_45 : decode M_S_fitsAt.2.1 45 = .ok (.iconst (1), 1) := by decide +kernel
theorem d_S_fitsAt_46 : decode M_S_fitsAt.2.1 46 = .ok (.goto (4), 3) := by decide +kernel
theorem d_S_fitsAt_49 : decode M_S_fitsAt.2.1 49 = .ok (.iconst (0), 1) := by decide +kernel
theorem d_S_fitsAt_50 : decode M_S_fitsAt.2.1 50 = .ok (.iadd, 1) := by decide +kernel
theorem d_S_fitsAt_51 : decode M_S_fitsAt.2.1 51 = .ok (.istore 4, 2) := by decide +kernel
theorem d_S_fitsAt_53 : decode M_S_fitsAt.2.1 53 = .ok (.iinc 5 (1), 3) := by decide +kernel
theorem d_S_fitsAt_56 : decode M_S_fitsAt.2.1 56 = .ok (.goto (-48), 3) := by decide +kernel
theorem d_S_fitsAt_59 : decode M_S_fitsAt.2.1 59 = .ok (.iload_n 3, 1) := by decide +kernel
theorem d_S_fitsAt_60 : decode M_S_fitsAt.2.1 60 = .ok (.iconst (2), 1) := by decide +kernel
theorem d_S_fitsAt_61 : decode M_S_fitsAt.2.1 61 = .ok (.if_icmp .ne (13), 3) := by decide +kernel
theorem d_S_fitsAt_64 : decode M_S_fitsAt.2.1 64 = .ok (.iload 4, 2) := by decide +kernel
theorem d_S_fitsAt_66 : decode M_S_fitsAt.2.1 66 = .ok (.iconst (1), 1) := by decide +kernel
theorem d_S_fitsAt_67 : decode M_S_fitsAt.2.1 67 = .ok (.if_icmp .ne (7), 3) := by decide +kernel
theorem d_S_fitsAt_70 : decode M_S_fitsAt.2.1 70 = .ok (.iconst (1), 1) := by decide +kernel
theorem d_S_fitsAt_71 : decode M_S_fitsAt.2.1 71 = .ok (.goto (4), 3) := by decide +kernel
theorem d_S_fitsAt_74 : decode M_S_fitsAt.2.1 74 = .ok (.iconst (0), 1) := by decide +kernel
theorem d_S_fitsAt_75 : decode M_S_fitsAt.2.1 75 = .ok (.ireturn, 1) := by decide +kernel
theorem d_S_isFlat_0 : decode M_S_isFlat.2.1 0 = .ok (.aload_n 0, 1) := by decide +kernel
theorem d_S_isFlat_1 : decode M_S_isFlat.2.1 1 = .ok (.aload_n 1, 1) := by decide +kernel
theorem d_S_isFlat_2 : decode M_S_isFlat.2.1 2 = .ok (.invokevirtual 36, 3) := by decide +kernel
theorem d_S_isFlat_5 : decode M_S_isFlat.2.1 5 = .ok (.aload_n 1, 1) := by decide +kernel
theorem d_S_isFlat_6 : decode M_S_isFlat.2.1 6 = .ok (.invokevirtual 40, 3) := by decide +kernel
theorem d_S_isFlat_9 : decode M_S_isFlat.2.1 9 = .ok (.iconst (2), 1) := by decide +kernel
theorem d_S_isFlat_10 : decode M_S_isFlat.2.1 10 = .ok (.aload_n 0, 1) := by decide +kernel
theorem d_S_isFlat_11 : decode M_S_isFlat.2.1 11 = .ok (.aload_n 1, 1) := by decide +kernel
theorem d_S_isFlat_12 : decode M_S_isFlat.2.1 12 = .ok (.invokevirtual 43, 3) := by decide +kernel
theorem d_S_isFlat_15 : decode M_S_isFlat.2.1 15 = .ok (.imul, 1) := by decide +kernel
theorem d_S_isFlat_16 : decode M_S_isFlat.2.1 16 = .ok (.iadd, 1) := by decide +kernel
theorem d_S_isFlat_17 : decode M_S_isFlat.2.1 17 = .ok (.if_icmp .ne (7), 3) := by decide +kernel
theorem d_S_isFlat_20 : decode M_S_isFlat.2.1 20 = .ok (.iconst (1), 1) := by decide +kernel
theorem d_S_isFlat_21 : decode M_S_isFlat.2.1 21 = .ok (.goto (4), 3) := by decide +kernel
theorem d_S_isFlat_24 : decode M_S_isFlat.2.1 24 = .ok (.iconst (0), 1) := by decide +kernel
theorem d_S_isFlat_25 : decode M_S_isFlat.2.1 25 = .ok (.ireturn, 1) := by decide +kernel
theorem d_S_faces_0 : decode M_S_faces.2.1 0 = .ok (.aload_n 0, 1) := by decide +kernel
theorem d_S_faces_1 : decode M_S_faces.2.1 1 = .ok (.getfield 9, 3) := by decide +kernel
theorem d_S_faces_4 : decode M_S_faces.2.1 4 = .ok (.iconst (0), 1) := by decide +kernel
theorem d_S_faces_5 : decode M_S_faces.2.1 5 = .ok (.invokestatic 46, 3) := by decide +kernel
theorem d_S_faces_8 : decode M_S_faces.2.1 8 = .ok (.iconst (0), 1) := by decide +kernel
theorem d_S_faces_9 : decode M_S_faces.2.1 9 = .ok (.istore_n 2, 1) := by decide +kernel
theorem d_S_faces_10 : decode M_S_faces.2.1 10 = .ok (.iconst (0), 1) := by decide +kernel
theorem d_S_faces_11 : decode M_S_faces.2.1 11 = .ok (.istore_n 3, 1) := by decide +kernel
theorem d_S_faces_12 : decode M_S_faces.2.1 12 = .ok (.iload_n 3, 1) := by decide +kernel
theorem d_S_faces_13 : decode M_S_faces.2.1 13 = .ok (.aload_n 1, 1) := by decide +kernel
theorem d_S_faces_14 : decode M_S_faces.2.1 14 = .ok (.invokevirtual 18, 3) := by decide +kernel
theorem d_S_faces_17 : decode M_S_faces.2.1 17 = .ok (.if_icmp .ge (27), 3) := by decide +kernel
theorem d_S_faces_20 : decode M_S_faces.2.1 20 = .ok (.aload_n 0, 1) := by decide +kernel
theorem d_S_faces_21 : decode M_S_faces.2.1 21 = .ok (.getfield 9, 3) := by decide +kernel
theorem d_S_faces_24 : decode M_S_faces.2.1 24 = .ok (.iload_n 3, 1) := by decide +kernel
theorem d_S_faces_25 : decode M_S_faces.2.1 25 = .ok (.iaload, 1) := by decide +kernel
theorem d_S_faces_26 : decode M_S_faces.2.1 26 = .ok (.ifCond .ne (12), 3) := by decide +kernel
theorem d_S_faces_29 : decode M_S_faces.2.1 29 = .ok (.iinc 2 (1), 3) := by decide +kernel
theorem d_S_faces_32 : decode M_S_faces.2.1 32 = .ok (.aload_n 0, 1) := by decide +kernel
theorem d_S_faces_33 : decode M_S_faces.2.1 33 = .ok (.aload_n 1, 1) := by decide +kernel
theorem d_S_faces_34 : decode M_S_faces.2.1 34 = .ok (.iload_n 3, 1) := by decide +kernel
theorem d_S_faces_35 : decode M_S_faces.2.1 35 = .ok (.invokevirtual 52, 3) := by decide +kernel
theorem d_S_faces_38 : decode M_S_faces.2.1 38 = .ok (.iinc 3 (1), 3) := by decide +kernel
theorem d_S_faces_41 : decode M_S_faces.2.1 41 = .ok (.goto (-29), 3) := by decide +kernel
theorem d_S_faces_44 : decode M_S_faces.2.1 44 = .ok (.iload_n 2, 1) := by decide +kernel
theorem d_S_faces_45 : decode M_S_faces.2.1 45 = .ok (.ireturn, 1) := by decide +kernel
theorem d_S_markFace_0 : decode M_S_markFace.2.1 0 = .ok (.iload_n 2, 1) := by decide +kernel
theorem d_S_markFace_1 : decode M_S_markFace.2.1 1 = .ok (.istore_n 3, 1) := by decide +kernel
theorem d_S_markFace_2 : decode M_S_markFace.2.1 2 = .ok (.iconst (0), 1) := by decide +kernel
theorem d_S_markFace_3 : decode M_S_markFace.2.1 3 = .ok (.istore 4, 2) := by decide +kernel
theorem d_S_markFace_5 : decode M_S_markFace.2.1 5 = .ok (.iload 4, 2) := by decide +kernel
theorem d_S_markFace_7 : decode M_S_markFace.2.1 7 = .ok (.bipush (32), 2) := by decide +kernel
theorem d_S_markFace_9 : decode M_S_markFace.2.1 9 = .ok (.if_icmp .ge (31), 3) := by decide +kernel
theorem d_S_markFace_12 : decode M_S_markFace.2.1 12 = .ok (.aload_n 0, 1) := by decide +kernel
theorem d_S_markFace_13 : decode M_S_markFace.2.1 13 = .ok (.getfield 9, 3) := by decide +kernel
theorem d_S_markFace_16 : decode M_S_markFace.2.1 16 = .ok (.iload_n 3, 1) := by decide +kernel
theorem d_S_markFace_17 : decode M_S_markFace.2.1 17 = .ok (.iaload, 1) := by decide +kernel
theorem d_S_markFace_18 : decode M_S_markFace.2.1 18 = .ok (.ifCond .ne (22), 3) := by decide +kernel
theorem d_S_markFace_21 : decode M_S_markFace.2.1 21 = .ok (.aload_n 0, 1) := by decide +kernel
theorem d_S_markFace_22 : decode M_S_markFace.2.1 22 = .ok (.getfield 9, 3) := by decide +kernel
theorem d_S_markFace_25 : decode M_S_markFace.2.1 25 = .ok (.iload_n 3, 1) := by decide +kernel
theorem d_S_markFace_26 : decode M_S_markFace.2.1 26 = .ok (.iconst (1), 1) := by decide +kernel
theorem d_S_markFace_27 : decode M_S_markFace.2.1 27 = .ok (.iastore, 1) := by decide +kernel
theorem d_S_markFace_28 : decode M_S_markFace.2.1 28 = .ok (.aload_n 1, 1) := by decide +kernel
theorem d_S_markFace_29 : decode M_S_markFace.2.1 29 = .ok (.iload_n 3, 1) := by decide +kernel
theorem d_S_markFace_30 : decode M_S_markFace.2.1 30 = .ok (.invokevirtual 56, 3) := by decide +kernel
theorem d_S_markFace_33 : decode M_S_markFace.2.1 33 = .ok (.istore_n 3, 1) := by decide +kernel
theorem d_S_markFace_34 : decode M_S_markFace.2.1 34 = .ok (.iinc 4 (1), 3) := by decide +kernel
theorem d_S_markFace_37 : decode M_S_markFace.2.1 37 = .ok (.goto (-32), 3) := by decide +kernel
theorem d_S_markFace_40 : decode M_S_markFace.2.1 40 = .ok (.return_, 1) := by decide +kernel
theorem d_S_sameFace_0 : decode M_S_sameFace.2.1 0 = .ok (.iload_n 2, 1) := by decide +kernel
theorem d_S_sameFace_1 : decode M_S_sameFace.2.1 1 = .ok (.iconst (-1), 1) := by decide +kernel
theorem d_S_sameFace_2 : decode M_S_sameFace.2.1 2 = .ok (.if_icmp .eq (8), 3) := by decide +kernel
theorem d_S_sameFace_5 : decode M_S_sameFace.2.1 5 = .ok (.iload_n 3, 1) := by decide +kernel
theorem d_S_sameFace_6 : decode M_S_sameFace.2.1 6 = .ok (.iconst (-1), 1) := by decide +kernel
theorem d_S_sameFace_7 : decode M_S_sameFace.2.1 7 = .ok (.if_icmp .ne (5), 3) := by decide +kernel
theorem d_S_sameFace_10 : decode M_S_sameFace.2.1 10 = .ok (.iconst (0), 1) := by decide +kernel
theorem d_S_sameFace_11 : decode M_S_sameFace.2.1 11 = .ok (.ireturn, 1) := by decide +kernel
theorem d_S_sameFace_12 : decode M_S_sameFace.2.1 12 = .ok (.aload_n 0, 1) := by decide +kernel
theorem d_S_sameFace_13 : decode M_S_sameFace.2.1 13 = .ok (.getfield 9, 3) := by decide +kernel
theorem d_S_sameFace_16 : decode M_S_sameFace.2.1 16 = .ok (.iconst (0), 1) := by decide +kernel
theorem d_S_sameFace_17 : decode M_S_sameFace.2.1 17 = .ok (.invokestatic 46, 3) := by decide +kernel
theorem d_S_sameFace_20 : decode M_S_sameFace.2.1 20 = .ok (.aload_n 0, 1) := by decide +kernel
theorem d_S_sameFace_21 : decode M_S_sameFace.2.1 21 = .ok (.aload_n 1, 1) := by decide +kernel
theorem d_S_sameFace_22 : decode M_S_sameFace.2.1 22 = .ok (.iload_n 2, 1) := by decide +kernel
theorem d_S_sameFace_23 : decode M_S_sameFace.2.1 23 = .ok (.invokevirtual 52, 3) := by decide +kernel
theorem d_S_sameFace_26 : decode M_S_sameFace.2.1 26 = .ok (.aload_n 0, 1) := by decide +kernel
theorem d_S_sameFace_27 : decode M_S_sameFace.2.1 27 = .ok (.getfield 9, 3) := by decide +kernel
theorem d_S_sameFace_30 : decode M_S_sameFace.2.1 30 = .ok (.iload_n 3, 1) := by decide +kernel
theorem d_S_sameFace_31 : decode M_S_sameFace.2.1 31 = .ok (.iaload, 1) := by decide +kernel
theorem d_S_sameFace_32 : decode M_S_sameFace.2.1 32 = .ok (.iconst (1), 1) := by decide +kernel
theorem d_S_sameFace_33 : decode M_S_sameFace.2.1 33 = .ok (.if_icmp .ne (7), 3) := by decide +kernel
theorem d_S_sameFace_36 : decode M_S_sameFace.2.1 36 = .ok (.iconst (1), 1) := by decide +kernel
theorem d_S_sameFace_37 : decode M_S_sameFace.2.1 37 = .ok (.goto (4), 3) := by decide +kernel
theorem d_S_sameFace_40 : decode M_S_sameFace.2.1 40 = .ok (.iconst (0), 1) := by decide +kernel
theorem d_S_sameFace_41 : decode M_S_sameFace.2.1 41 = .ok (.ireturn, 1) := by decide +kernel
theorem d_S_pieces_0 : decode M_S_pieces.2.1 0 = .ok (.iconst (0), 1) := by decide +kernel
theorem d_S_pieces_1 : decode M_S_pieces.2.1 1 = .ok (.istore_n 2, 1) := by decide +kernel
theorem d_S_pieces_2 : decode M_S_pieces.2.1 2 = .ok (.iload_n 2, 1) := by decide +kernel
theorem d_S_pieces_3 : decode M_S_pieces.2.1 3 = .ok (.aload_n 1, 1) := by decide +kernel
theorem d_S_pieces_4 : decode M_S_pieces.2.1 4 = .ok (.invokevirtual 40, 3) := by decide +kernel
theorem d_S_pieces_7 : decode M_S_pieces.2.1 7 = .ok (.if_icmp .ge (16), 3) := by decide +kernel
theorem d_S_pieces_10 : decode M_S_pieces.2.1 10 = .ok (.aload_n 0, 1) := by decide +kernel
theorem d_S_pieces_11 : decode M_S_pieces.2.1 11 = .ok (.getfield 15, 3) := by decide +kernel
theorem d_S_pieces_14 : decode M_S_pieces.2.1 14 = .ok (.iload_n 2, 1) := by decide +kernel
theorem d_S_pieces_15 : decode M_S_pieces.2.1 15 = .ok (.iload_n 2, 1) := by decide +kernel
theorem d_S_pieces_16 : decode M_S_pieces.2.1 16 = .ok (.iastore, 1) := by decide +kernel
theorem d_S_pieces_17 : decode M_S_pieces.2.1 17 = .ok (.iinc 2 (1), 3) := by decide +kernel
theorem d_S_pieces_20 : decode M_S_pieces.2.1 20 = .ok (.goto (-18), 3) := by decide +kernel
theorem d_S_pieces_23 : decode M_S_pieces.2.1 23 = .ok (.aload_n 1, 1) := by decide +kernel
theorem d_S_pieces_24 : decode M_S_pieces.2.1 24 = .ok (.invokevirtual 40, 3) := by decide +kernel
theorem d_S_pieces_27 : decode M_S_pieces.2.1 27 = .ok (.istore_n 2, 1) := by decide +kernel
theorem d_S_pieces_28 : decode M_S_pieces.2.1 28 = .ok (.iconst (0), 1) := by decide +kernel
theorem d_S_pieces_29 : decode M_S_pieces.2.1 29 = .ok (.istore_n 3, 1) := by decide +kernel
theorem d_S_pieces_30 : decode M_S_pieces.2.1 30 = .ok (.iload_n 3, 1) := by decide +kernel
theorem d_S_pieces_31 : decode M_S_pieces.2.1 31 = .ok (.aload_n 1, 1) := by decide +kernel
theorem d_S_pieces_32 : decode M_S_pieces.2.1 32 = .ok (.invokevirtual 18, 3) := by decide +kernel
theorem d_S_pieces_35 : decode M_S_pieces.2.1 35 = .ok (.if_icmp .ge (53), 3) := by decide +kernel
theorem d_S_pieces_38 : decode M_S_pieces.2.1 38 = .ok (.aload_n 0, 1) := by decide +kernel
theorem d_S_pieces_39 : decode M_S_pieces.2.1 39 = .ok (.getfield 15, 3) := by decide +kernel
theorem d_S_pieces_42 : decode M_S_pieces.2.1 42 = .ok (.iload_n 3, 1) := by decide +kernel
theorem d_S_pieces_43 : decode M_S_pieces.2.1 43 = .ok (.invokestatic 59, 3) := by decide +kernel
theorem d_S_pieces_46 : decode M_S_pieces.2.1 46 = .ok (.iaload, 1) := by decide +kernel
theorem d_S_pieces_47 : decode M_S_pieces.2.1 47 = .ok (.istore 4, 2) := by decide +kernel
theorem d_S_pieces_49 : decode M_S_pieces.2.1 49 = .ok (.aload_n 0, 1) := by decide +kernel
theorem d_S_pieces_50 : decode M_S_pieces.2.1 50 = .ok (.getfield 15, 3) := by decide +kernel
theorem d_S_pieces_53 : decode M_S_pieces.2.1 53 = .ok (.aload_n 1, 1) := by decide +kernel
theorem d_S_pieces_54 : decode M_S_pieces.2.1 54 = .ok (.iload_n 3, 1) := by decide +kernel
theorem d_S_pieces_55 : decode M_S_pieces.2.1 55 = .ok (.invokevirtual 62, 3) := by decide +kernel
theorem d_S_pieces_58 : decode M_S_pieces.2.1 58 = .ok (.invokestatic 59, 3) := by decide +kernel
theorem d_S_pieces_61 : decode M_S_pieces.2.1 61 = .ok (.iaload, 1) := by decide +kernel
theorem d_S_pieces_62 : decode M_S_pieces.2.1 62 = .ok (.istore 5, 2) := by decide +kernel
theorem d_S_pieces_64 : decode M_S_pieces.2.1 64 = .ok (.iload 4, 2) := by decide +kernel
theorem d_S_pieces_66 : decode M_S_pieces.2.1 66 = .ok (.iload 5, 2) := by decide +kernel
theorem d_S_pieces_68 : decode M_S_pieces.2.1 68 = .ok (.if_icmp .eq (14), 3) := by decide +kernel
theorem d_S_pieces_71 : decode M_S_pieces.2.1 71 = .ok (.aload_n 0, 1) := by decide +kernel
theorem d_S_pieces_72 : decode M_S_pieces.2.1 72 = .ok (.iload 4, 2) := by decide +kernel
theorem d_S_pieces_74 : decode M_S_pieces.2.1 74 = .ok (.iload 5, 2) := by decide +kernel
theorem d_S_pieces_76 : decode M_S_pieces.2.1 76 = .ok (.invokevirtual 65, 3) := by decide +kernel
theorem d_S_pieces_79 : decode M_S_pieces.2.1 79 = .ok (.iinc 2 (-1), 3) := by decide +kernel
theorem d_S_pieces_82 : decode M_S_pieces.2.1 82 = .ok (.iinc 3 (1), 3) := by decide +kernel
theorem d_S_pieces_85 : decode M_S_pieces.2.1 85 = .ok (.goto (-55), 3) := by decide +kernel
theorem d_S_pieces_88 : decode M_S_pieces.2.1 88 = .ok (.iload_n 2, 1) := by decide +kernel
theorem d_S_pieces_89 : decode M_S_pieces.2.1 89 = .ok (.ireturn, 1) := by decide +kernel
theorem d_S_mergePieces_0 : decode M_S_mergePieces.2.1 0 = .ok (.iconst (0), 1) := by decide +kernel
theorem d_S_mergePieces_1 : decode M_S_mergePieces.2.1 1 = .ok (.istore_n 3, 1) := by decide +kernel
theorem d_S_mergePieces_2 : decode M_S_mergePieces.2.1 2 = .ok (.iload_n 3, 1) := by decide +kernel
theorem d_S_mergePieces_3 : decode M_S_mergePieces.2.1 3 = .ok (.bipush (8), 2) := by decide +kernel
theorem d_S_mergePieces_5 : decode M_S_mergePieces.2.1 5 = .ok (.if_icmp .ge (26), 3) := by decide +kernel
theorem d_S_mergePieces_8 : decode M_S_mergePieces.2.1 8 = .ok (.aload_n 0, 1) := by decide +kernel
theorem d_S_mergePieces_9 : decode M_S_mergePieces.2.1 9 = .ok (.getfield 15, 3) := by decide +kernel
theorem d_S_mergePieces_12 : decode M_S_mergePieces.2.1 12 = .ok (.iload_n 3, 1) := by decide +kernel
theorem d_S_mergePieces_13 : decode M_S_mergePieces.2.1 13 = .ok (.iaload, 1) := by decide +kernel
theorem d_S_mergePieces_14 : decode M_S_mergePieces.2.1 14 = .ok (.iload_n 2, 1) := by decide +kernel
theorem d_S_mergePieces_15 : decode M_S_mergePieces.2.1 15 = .ok (.if_icmp .ne (10), 3) := by decide +kernel
theorem d_S_mergePieces_18 : decode M_S_mergePieces.2.1 18 = .ok (.aload_n 0, 1) := by decide +kernel
theorem d_S_mergePieces_19 : decode M_S_mergePieces.2.1 19 = .ok (.getfield 15, 3) := by decide +kernel
theorem d_S_mergePieces_22 : decode M_S_mergePieces.2.1 22 = .ok (.iload_n 3, 1) := by decide +kernel
theorem d_S_mergePieces_23 : decode M_S_mergePieces.2.1 23 = .ok (.iload_n 1, 1) := by decide +kernel
theorem d_S_mergePieces_24 : decode M_S_mergePieces.2.1 24 = .ok (.iastore, 1) := by decide +kernel
theorem d_S_mergePieces_25 : decode M_S_mergePieces.2.1 25 = .ok (.iinc 3 (1), 3) := by decide +kernel
theorem d_S_mergePieces_28 : decode M_S_mergePieces.2.1 28 = .ok (.goto (-26), 3) := by decide +kernel
theorem d_S_mergePieces_31 : decode M_S_mergePieces.2.1 31 = .ok (.return_, 1) := by decide +kernel
theorem d_S_strands_0 : decode M_S_strands.2.1 0 = .ok (.aload_n 0, 1) := by decide +kernel
theorem d_S_strands_1 : decode M_S_strands.2.1 1 = .ok (.getfield 9, 3) := by decide +kernel
theorem d_S_strands_4 : decode M_S_strands.2.1 4 = .ok (.iconst (0), 1) := by decide +kernel
theorem d_S_strands_5 : decode M_S_strands.2.1 5 = .ok (.invokestatic 46, 3) := by decide +kernel
theorem d_S_strands_8 : decode M_S_strands.2.1 8 = .ok (.iconst (0), 1) := by decide +kernel
theorem d_S_strands_9 : decode M_S_strands.2.1 9 = .ok (.istore_n 2, 1) := by decide +kernel
theorem d_S_strands_10 : decode M_S_strands.2.1 10 = .ok (.iconst (0), 1) := by decide +kernel
theorem d_S_strands_11 : decode M_S_strands.2.1 11 = .ok (.istore_n 3, 1) := by decide +kernel
theorem d_S_strands_12 : decode M_S_strands.2.1 12 = .ok (.iload_n 3, 1) := by decide +kernel
theorem d_S_strands_13 : decode M_S_strands.2.1 13 = .ok (.aload_n 1, 1) := by decide +kernel
theorem d_S_strands_14 : decode M_S_strands.2.1 14 = .ok (.invokevirtual 18, 3) := by decide +kernel
theorem d_S_strands_17 : decode M_S_strands.2.1 17 = .ok (.if_icmp .ge (35), 3) := by decide +kernel
theorem d_S_strands_20 : decode M_S_strands.2.1 20 = .ok (.aload_n 1, 1) := by decide +kernel
theorem d_S_strands_21 : decode M_S_strands.2.1 21 = .ok (.iload_n 3, 1) := by decide +kernel
theorem d_S_strands_22 : decode M_S_strands.2.1 22 = .ok (.invokevirtual 32, 3) := by decide +kernel
theorem d_S_strands_25 : decode M_S_strands.2.1 25 = .ok (.ifCond .eq (21), 3) := by decide +kernel
theorem d_S_strands_28 : decode M_S_strands.2.1 28 = .ok (.aload_n 0, 1) := by decide +kernel
theorem d_S_strands_29 : decode M_S_strands.2.1 29 = .ok (.getfield 9, 3) := by decide +kernel
theorem d_S_strands_32 : decode M_S_strands.2.1 32 = .ok (.iload_n 3, 1) := by decide +kernel
theorem d_S_strands_33 : decode M_S_strands.2.1 33 = .ok (.iaload, 1) := by decide +kernel
theorem d_S_strands_34 : decode M_S_strands.2.1 34 = .ok (.ifCond .ne (12), 3) := by decide +kernel
theorem d_S_strands_37 : decode M_S_strands.2.1 37 = .ok (.iinc 2 (1), 3) := by decide +kernel
theorem d_S_strands_40 : decode M_S_strands.2.1 40 = .ok (.aload_n 0, 1) := by decide +kernel
theorem d_S_strands_41 : decode M_S_strands.2.1 41 = .ok (.aload_n 1, 1) := by decide +kernel
theorem d_S_strands_42 : decode M_S_strands.2.1 42 = .ok (.iload_n 3, 1) := by decide +kernel
theorem d_S_strands_43 : decode M_S_strands.2.1 43 = .ok (.invokevirtual 69, 3) := by decide +kernel
theorem d_S_strands_46 : decode M_S_strands.2.1 46 = .ok (.iinc 3 (1), 3) := by decide +kernel
theorem d_S_strands_49 : decode M_S_strands.2.1 49 = .ok (.goto (-37), 3) := by decide +kernel
theorem d_S_strands_52 : decode M_S_strands.2.1 52 = .ok (.iload_n 2, 1) := by decide +kernel
theorem d_S_strands_53 : decode M_S_strands.2.1 53 = .ok (.ireturn, 1) := by decide +kernel
theorem d_S_markStrand_0 : decode M_S_markStrand.2.1 0 = .ok (.iload_n 2, 1) := by decide +kernel
theorem d_S_markStrand_1 : decode M_S_markStrand.2.1 1 = .ok (.istore_n 3, 1) := by decide +kernel
theorem d_S_markStrand_2 : decode M_S_markStrand.2.1 2 = .ok (.iconst (0), 1) := by decide +kernel
theorem d_S_markStrand_3 : decode M_S_markStrand.2.1 3 = .ok (.istore 4, 2) := by decide +kernel
theorem d_S_markStrand_5 : decode M_S_markStrand.2.1 5 = .ok (.iload 4, 2) := by decide +kernel
theorem d_S_markStrand_7 : decode M_S_markStrand.2.1 7 = .ok (.bipush (32), 2) := by decide +kernel
theorem d_S_markStrand_9 : decode M_S_markStrand.2.1 9 = .ok (.if_icmp .ge (34), 3) := by decide +kernel
theorem d_S_markStrand_12 : decode M_S_markStrand.2.1 12 = .ok (.aload_n 0, 1) := by decide +kernel
theorem d_S_markStrand_13 : decode M_S_markStrand.2.1 13 = .ok (.getfield 9, 3) := by decide +kernel
theorem d_S_markStrand_16 : decode M_S_markStrand.2.1 16 = .ok (.iload_n 3, 1) := by decide +kernel
theorem d_S_markStrand_17 : decode M_S_markStrand.2.1 17 = .ok (.iaload, 1) := by decide +kernel
theorem d_S_markStrand_18 : decode M_S_markStrand.2.1 18 = .ok (.ifCond .ne (25), 3) := by decide +kernel
theorem d_S_markStrand_21 : decode M_S_markStrand.2.1 21 = .ok (.aload_n 0, 1) := by decide +kernel
theorem d_S_markStrand_22 : decode M_S_markStrand.2.1 22 = .ok (.getfield 9, 3) := by decide +kernel
theorem d_S_markStrand_25 : decode M_S_markStrand.2.1 25 = .ok (.iload_n 3, 1) := by decide +kernel
theorem d_S_markStrand_26 : decode M_S_markStrand.2.1 26 = .ok (.iconst (1), 1) := by decide +kernel
theorem d_S_markStrand_27 : decode M_S_markStrand.2.1 27 = .ok (.iastore, 1) := by decide +kernel
theorem d_S_markStrand_28 : decode M_S_markStrand.2.1 28 = .ok (.aload_n 1, 1) := by decide +kernel
theorem d_S_markStrand_29 : decode M_S_markStrand.2.1 29 = .ok (.iload_n 3, 1) := by decide +kernel
theorem d_S_markStrand_30 : decode M_S_markStrand.2.1 30 = .ok (.invokestatic 72, 3) := by decide +kernel
theorem d_S_markStrand_33 : decode M_S_markStrand.2.1 33 = .ok (.invokevirtual 62, 3) := by decide +kernel
theorem d_S_markStrand_36 : decode M_S_markStrand.2.1 36 = .ok (.istore_n 3, 1) := by decide +kernel
theorem d_S_markStrand_37 : decode M_S_markStrand.2.1 37 = .ok (.iinc 4 (1), 3) := by decide +kernel
theorem d_S_markStrand_40 : decode M_S_markStrand.2.1 40 = .ok (.goto (-35), 3) := by decide +kernel
theorem d_S_markStrand_43 : decode M_S_markStrand.2.1 43 = .ok (.return_, 1) := by decide +kernel
theorem d_I_bitCount_0 : decode M_I_bitCount.2.1 0 = .ok (.iload_n 0, 1) := by decide +kernel
theorem d_I_bitCount_1 : decode M_I_bitCount.2.1 1 = .ok (.iload_n 0, 1) := by decide +kernel
theorem d_I_bitCount_2 : decode M_I_bitCount.2.1 2 = .ok (.iconst (1), 1) := by decide +kernel
theorem d_I_bitCount_3 : decode M_I_bitCount.2.1 3 = .ok (.iushr, 1) := by decide +kernel
theorem d_I_bitCount_4 : decode M_I_bitCount.2.1 4 = .ok (.ldc_w 265, 3) := by decide +kernel
theorem d_I_bitCount_7 : decode M_I_bitCount.2.1 7 = .ok (.iand, 1) := by decide +kernel
theorem d_I_bitCount_8 : decode M_I_bitCount.2.1 8 = .ok (.isub, 1) := by decide +kernel
theorem d_I_bitCount_9 : decode M_I_bitCount.2.1 9 = .ok (.istore_n 0, 1) := by decide +kernel
theorem d_I_bitCount_10 : decode M_I_bitCount.2.1 10 = .ok (.iload_n 0, 1) := by decide +kernel
theorem d_I_bitCount_11 : decode M_I_bitCount.2.1 11 = .ok (.ldc_w 266, 3) := by decide +kernel
theorem d_I_bitCount_14 : decode M_I_bitCount.2.1 14 = .ok (.iand, 1) := by decide +kernel
theorem d_I_bitCount_15 : decode M_I_bitCount.2.1 15 = .ok (.iload_n 0, 1) := by decide +kernel
theorem d_I_bitCount_16 : decode M_I_bitCount.2.1 16 = .ok (.iconst (2), 1) := by decide +kernel
theorem d_I_bitCount_17 : decode M_I_bitCount.2.1 17 = .ok (.iushr, 1) := by decide +kernel
theorem d_I_bitCount_18 : decode M_I_bitCount.2.1 18 = .ok (.ldc_w 266, 3) := by decide +kernel
theorem d_I_bitCount_21 : decode M_I_bitCount.2.1 21 = .ok (.iand, 1) := by decide +kernel
theorem d_I_bitCount_22 : decode M_I_bitCount.2.1 22 = .ok (.iadd, 1) := by decide +kernel
theorem d_I_bitCount_23 : decode M_I_bitCount.2.1 23 = .ok (.istore_n 0, 1) := by decide +kernel
theorem d_I_bitCount_24 : decode M_I_bitCount.2.1 24 = .ok (.iload_n 0, 1) := by decide +kernel
theorem d_I_bitCount_25 : decode M_I_bitCount.2.1 25 = .ok (.iload_n 0, 1) := by decide +kernel
theorem d_I_bitCount_26 : decode M_I_bitCount.2.1 26 = .ok (.iconst (4), 1) := by decide +kernel
theorem d_I_bitCount_27 : decode M_I_bitCount.2.1 27 = .ok (.iushr, 1) := by decide +kernel
theorem d_I_bitCount_28 : decode M_I_bitCount.2.1 28 = .ok (.iadd, 1) := by decide +kernel
theorem d_I_bitCount_29 : decode M_I_bitCount.2.1 29 = .ok (.ldc_w 267, 3) := by decide +kernel
theorem d_I_bitCount_32 : decode M_I_bitCount.2.1 32 = .ok (.iand, 1) := by decide +kernel
theorem d_I_bitCount_33 : decode M_I_bitCount.2.1 33 = .ok (.istore_n 0, 1) := by decide +kernel
theorem d_I_bitCount_34 : decode M_I_bitCount.2.1 34 = .ok (.iload_n 0, 1) := by decide +kernel
theorem d_I_bitCount_35 : decode M_I_bitCount.2.1 35 = .ok (.iload_n 0, 1) := by decide +kernel
theorem d_I_bitCount_36 : decode M_I_bitCount.2.1 36 = .ok (.bipush (8), 2) := by decide +kernel
theorem d_I_bitCount_38 : decode M_I_bitCount.2.1 38 = .ok (.iushr, 1) := by decide +kernel
theorem d_I_bitCount_39 : decode M_I_bitCount.2.1 39 = .ok (.iadd, 1) := by decide +kernel
theorem d_I_bitCount_40 : decode M_I_bitCount.2.1 40 = .ok (.istore_n 0, 1) := by decide +kernel
theorem d_I_bitCount_41 : decode M_I_bitCount.2.1 41 = .ok (.iload_n 0, 1) := by decide +kernel
theorem d_I_bitCount_42 : decode M_I_bitCount.2.1 42 = .ok (.iload_n 0, 1) := by decide +kernel
theorem d_I_bitCount_43 : decode M_I_bitCount.2.1 43 = .ok (.bipush (16), 2) := by decide +kernel
theorem d_I_bitCount_45 : decode M_I_bitCount.2.1 45 = .ok (.iushr, 1) := by decide +kernel
theorem d_I_bitCount_46 : decode M_I_bitCount.2.1 46 = .ok (.iadd, 1) := by decide +kernel
theorem d_I_bitCount_47 : decode M_I_bitCount.2.1 47 = .ok (.istore_n 0, 1) := by decide +kernel
theorem d_I_bitCount_48 : decode M_I_bitCount.2.1 48 = .ok (.iload_n 0, 1) := by decide +kernel
theorem d_I_bitCount_49 : decode M_I_bitCount.2.1 49 = .ok (.bipush (63), 2) := by decide +kernel
theorem d_I_bitCount_51 : decode M_I_bitCount.2.1 51 = .ok (.iand, 1) := by decide +kernel
theorem d_I_bitCount_52 : decode M_I_bitCount.2.1 52 = .ok (.ireturn, 1) := by decide +kernel
theorem d_F_fillL_0 : decode M_F_fillL.2.1 0 = .ok (.iconst (0), 1) := by decide +kernel
theorem d_F_fillL_1 : decode M_F_fillL.2.1 1 = .ok (.istore_n 3, 1) := by decide +kernel
theorem d_F_fillL_2 : decode M_F_fillL.2.1 2 = .ok (.aload_n 0, 1) := by decide +kernel
theorem d_F_fillL_3 : decode M_F_fillL.2.1 3 = .ok (.arraylength, 1) := by decide +kernel
theorem d_F_fillL_4 : decode M_F_fillL.2.1 4 = .ok (.istore 4, 2) := by decide +kernel
theorem d_F_fillL_6 : decode M_F_fillL.2.1 6 = .ok (.iload_n 3, 1) := by decide +kernel
theorem d_F_fillL_7 : decode M_F_fillL.2.1 7 = .ok (.iload 4, 2) := by decide +kernel
theorem d_F_fillL_9 : decode M_F_fillL.2.1 9 = .ok (.if_icmp .ge (13), 3) := by decide +kernel
theorem d_F_fillL_12 : decode M_F_fillL.2.1 12 = .ok (.aload_n 0, 1) := by decide +kernel
theorem d_F_fillL_13 : decode M_F_fillL.2.1 13 = .ok (.iload_n 3, 1) := by decide +kernel
theorem d_F_fillL_14 : decode M_F_fillL.2.1 14 = .ok (.lload_n 1, 1) := by decide +kernel
theorem d_F_fillL_15 : decode M_F_fillL.2.1 15 = .ok (.lastore, 1) := by decide +kernel
theorem d_F_fillL_16 : decode M_F_fillL.2.1 16 = .ok (.iinc 3 (1), 3) := by decide +kernel
theorem d_F_fillL_19 : decode M_F_fillL.2.1 19 = .ok (.goto (-13), 3) := by decide +kernel
theorem d_F_fillL_22 : decode M_F_fillL.2.1 22 = .ok (.return_, 1) := by decide +kernel
theorem d_F_fillI_0 : decode M_F_fillI.2.1 0 = .ok (.iconst (0), 1) := by decide +kernel
theorem d_F_fillI_1 : decode M_F_fillI.2.1 1 = .ok (.istore_n 2, 1) := by decide +kernel
theorem d_F_fillI_2 : decode M_F_fillI.2.1 2 = .ok (.aload_n 0, 1) := by decide +kernel
theorem d_F_fillI_3 : decode M_F_fillI.2.1 3 = .ok (.arraylength, 1) := by decide +kernel
theorem d_F_fillI_4 : decode M_F_fillI.2.1 4 = .ok (.istore_n 3, 1) := by decide +kernel
theorem d_F_fillI_5 : decode M_F_fillI.2.1 5 = .ok (.iload_n 2, 1) := by decide +kernel
theorem d_F_fillI_6 : decode M_F_fillI.2.1 6 = .ok (.iload_n 3, 1) := by decide +kernel
theorem d_F_fillI_7 : decode M_F_fillI.2.1 7 = .ok (.if_icmp .ge (13), 3) := by decide +kernel
theorem d_F_fillI_10 : decode M_F_fillI.2.1 10 = .ok (.aload_n 0, 1) := by decide +kernel
theorem d_F_fillI_11 : decode M_F_fillI.2.1 11 = .ok (.iload_n 2, 1) := by decide +kernel
theorem d_F_fillI_12 : decode M_F_fillI.2.1 12 = .ok (.iload_n 1, 1) := by decide +kernel
theorem d_F_fillI_13 : decode M_F_fillI.2.1 13 = .ok (.iastore, 1) := by decide +kernel
theorem d_F_fillI_14 : decode M_F_fillI.2.1 14 = .ok (.iinc 2 (1), 3) := by decide +kernel
theorem d_F_fillI_17 : decode M_F_fillI.2.1 17 = .ok (.goto (-12), 3) := by decide +kernel
theorem d_F_fillI_20 : decode M_F_fillI.2.1 20 = .ok (.return_, 1) := by decide +kernel
