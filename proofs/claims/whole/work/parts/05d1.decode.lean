theorem d_M_init_0 : decode M_M_init.2.1 0 = .ok (.aload_n 0, 1) := by decide +kernel
theorem d_M_init_1 : decode M_M_init.2.1 1 = .ok (.invokespecial 1, 3) := by decide +kernel
theorem d_M_init_4 : decode M_M_init.2.1 4 = .ok (.aload_n 0, 1) := by decide +kernel
theorem d_M_init_5 : decode M_M_init.2.1 5 = .ok (.bipush (64), 2) := by decide +kernel
theorem d_M_init_7 : decode M_M_init.2.1 7 = .ok (.newarray .int, 2) := by decide +kernel
theorem d_M_init_9 : decode M_M_init.2.1 9 = .ok (.putfield 7, 3) := by decide +kernel
theorem d_M_init_12 : decode M_M_init.2.1 12 = .ok (.aload_n 0, 1) := by decide +kernel
theorem d_M_init_13 : decode M_M_init.2.1 13 = .ok (.bipush (16), 2) := by decide +kernel
theorem d_M_init_15 : decode M_M_init.2.1 15 = .ok (.newarray .boolean, 2) := by decide +kernel
theorem d_M_init_17 : decode M_M_init.2.1 17 = .ok (.putfield 13, 3) := by decide +kernel
theorem d_M_init_20 : decode M_M_init.2.1 20 = .ok (.aload_n 0, 1) := by decide +kernel
theorem d_M_init_21 : decode M_M_init.2.1 21 = .ok (.iconst (1), 1) := by decide +kernel
theorem d_M_init_22 : decode M_M_init.2.1 22 = .ok (.putfield 17, 3) := by decide +kernel
theorem d_M_init_25 : decode M_M_init.2.1 25 = .ok (.aload_n 0, 1) := by decide +kernel
theorem d_M_init_26 : decode M_M_init.2.1 26 = .ok (.bipush (8), 2) := by decide +kernel
theorem d_M_init_28 : decode M_M_init.2.1 28 = .ok (.newarray .int, 2) := by decide +kernel
theorem d_M_init_30 : decode M_M_init.2.1 30 = .ok (.putfield 21, 3) := by decide +kernel
theorem d_M_init_33 : decode M_M_init.2.1 33 = .ok (.aload_n 0, 1) := by decide +kernel
theorem d_M_init_34 : decode M_M_init.2.1 34 = .ok (.bipush (64), 2) := by decide +kernel
theorem d_M_init_36 : decode M_M_init.2.1 36 = .ok (.newarray .boolean, 2) := by decide +kernel
theorem d_M_init_38 : decode M_M_init.2.1 38 = .ok (.putfield 24, 3) := by decide +kernel
theorem d_M_init_41 : decode M_M_init.2.1 41 = .ok (.aload_n 0, 1) := by decide +kernel
theorem d_M_init_42 : decode M_M_init.2.1 42 = .ok (.sipush (257), 3) := by decide +kernel
theorem d_M_init_45 : decode M_M_init.2.1 45 = .ok (.newarray .long, 2) := by decide +kernel
theorem d_M_init_47 : decode M_M_init.2.1 47 = .ok (.putfield 27, 3) := by decide +kernel
theorem d_M_init_50 : decode M_M_init.2.1 50 = .ok (.aload_n 0, 1) := by decide +kernel
theorem d_M_init_51 : decode M_M_init.2.1 51 = .ok (.sipush (257), 3) := by decide +kernel
theorem d_M_init_54 : decode M_M_init.2.1 54 = .ok (.newarray .long, 2) := by decide +kernel
theorem d_M_init_56 : decode M_M_init.2.1 56 = .ok (.putfield 31, 3) := by decide +kernel
theorem d_M_init_59 : decode M_M_init.2.1 59 = .ok (.aload_n 0, 1) := by decide +kernel
theorem d_M_init_60 : decode M_M_init.2.1 60 = .ok (.sipush (257), 3) := by decide +kernel
theorem d_M_init_63 : decode M_M_init.2.1 63 = .ok (.newarray .long, 2) := by decide +kernel
theorem d_M_init_65 : decode M_M_init.2.1 65 = .ok (.putfield 34, 3) := by decide +kernel
theorem d_M_init_68 : decode M_M_init.2.1 68 = .ok (.aload_n 0, 1) := by decide +kernel
theorem d_M_init_69 : decode M_M_init.2.1 69 = .ok (.bipush (33), 2) := by decide +kernel
theorem d_M_init_71 : decode M_M_init.2.1 71 = .ok (.newarray .int, 2) := by decide +kernel
theorem d_M_init_73 : decode M_M_init.2.1 73 = .ok (.putfield 37, 3) := by decide +kernel
theorem d_M_init_76 : decode M_M_init.2.1 76 = .ok (.aload_n 0, 1) := by decide +kernel
theorem d_M_init_77 : decode M_M_init.2.1 77 = .ok (.bipush (64), 2) := by decide +kernel
theorem d_M_init_79 : decode M_M_init.2.1 79 = .ok (.newarray .int, 2) := by decide +kernel
theorem d_M_init_81 : decode M_M_init.2.1 81 = .ok (.putfield 40, 3) := by decide +kernel
theorem d_M_init_84 : decode M_M_init.2.1 84 = .ok (.aload_n 0, 1) := by decide +kernel
theorem d_M_init_85 : decode M_M_init.2.1 85 = .ok (.bipush (64), 2) := by decide +kernel
theorem d_M_init_87 : decode M_M_init.2.1 87 = .ok (.newarray .int, 2) := by decide +kernel
theorem d_M_init_89 : decode M_M_init.2.1 89 = .ok (.putfield 43, 3) := by decide +kernel
theorem d_M_init_92 : decode M_M_init.2.1 92 = .ok (.aload_n 0, 1) := by decide +kernel
theorem d_M_init_93 : decode M_M_init.2.1 93 = .ok (.sipush (2560), 3) := by decide +kernel
theorem d_M_init_96 : decode M_M_init.2.1 96 = .ok (.newarray .long, 2) := by decide +kernel
theorem d_M_init_98 : decode M_M_init.2.1 98 = .ok (.putfield 46, 3) := by decide +kernel
theorem d_M_init_101 : decode M_M_init.2.1 101 = .ok (.aload_n 0, 1) := by decide +kernel
theorem d_M_init_102 : decode M_M_init.2.1 102 = .ok (.bipush (32), 2) := by decide +kernel
theorem d_M_init_104 : decode M_M_init.2.1 104 = .ok (.newarray .int, 2) := by decide +kernel
theorem d_M_init_106 : decode M_M_init.2.1 106 = .ok (.putfield 49, 3) := by decide +kernel
theorem d_M_init_109 : decode M_M_init.2.1 109 = .ok (.return_, 1) := by decide +kernel
theorem d_M_isEdge_0 : decode M_M_isEdge.2.1 0 = .ok (.iload_n 0, 1) := by decide +kernel
theorem d_M_isEdge_1 : decode M_M_isEdge.2.1 1 = .ok (.iconst (1), 1) := by decide +kernel
theorem d_M_isEdge_2 : decode M_M_isEdge.2.1 2 = .ok (.if_icmp .lt (13), 3) := by decide +kernel
theorem d_M_isEdge_5 : decode M_M_isEdge.2.1 5 = .ok (.iload_n 0, 1) := by decide +kernel
theorem d_M_isEdge_6 : decode M_M_isEdge.2.1 6 = .ok (.bipush (32), 2) := by decide +kernel
theorem d_M_isEdge_8 : decode M_M_isEdge.2.1 8 = .ok (.if_icmp .gt (7), 3) := by decide +kernel
theorem d_M_isEdge_11 : decode M_M_isEdge.2.1 11 = .ok (.iconst (1), 1) := by decide +kernel
theorem d_M_isEdge_12 : decode M_M_isEdge.2.1 12 = .ok (.goto (4), 3) := by decide +kernel
theorem d_M_isEdge_15 : decode M_M_isEdge.2.1 15 = .ok (.iconst (0), 1) := by decide +kernel
theorem d_M_isEdge_16 : decode M_M_isEdge.2.1 16 = .ok (.ireturn, 1) := by decide +kernel
theorem d_M_cross_0 : decode M_M_cross.2.1 0 = .ok (.aload_n 0, 1) := by decide +kernel
theorem d_M_cross_1 : decode M_M_cross.2.1 1 = .ok (.getfield 52, 3) := by decide +kernel
theorem d_M_cross_4 : decode M_M_cross.2.1 4 = .ok (.bipush (8), 2) := by decide +kernel
theorem d_M_cross_6 : decode M_M_cross.2.1 6 = .ok (.if_icmp .eq (32), 3) := by decide +kernel
theorem d_M_cross_9 : decode M_M_cross.2.1 9 = .ok (.iload_n 1, 1) := by decide +kernel
theorem d_M_cross_10 : decode M_M_cross.2.1 10 = .ok (.invokestatic 55, 3) := by decide +kernel
theorem d_M_cross_13 : decode M_M_cross.2.1 13 = .ok (.ifCond .eq (25), 3) := by decide +kernel
theorem d_M_cross_16 : decode M_M_cross.2.1 16 = .ok (.iload_n 2, 1) := by decide +kernel
theorem d_M_cross_17 : decode M_M_cross.2.1 17 = .ok (.invokestatic 55, 3) := by decide +kernel
theorem d_M_cross_20 : decode M_M_cross.2.1 20 = .ok (.ifCond .eq (18), 3) := by decide +kernel
theorem d_M_cross_23 : decode M_M_cross.2.1 23 = .ok (.iload_n 3, 1) := by decide +kernel
theorem d_M_cross_24 : decode M_M_cross.2.1 24 = .ok (.invokestatic 55, 3) := by decide +kernel
theorem d_M_cross_27 : decode M_M_cross.2.1 27 = .ok (.ifCond .eq (11), 3) := by decide +kernel
theorem d_M_cross_30 : decode M_M_cross.2.1 30 = .ok (.iload 4, 2) := by decide +kernel
theorem d_M_cross_32 : decode M_M_cross.2.1 32 = .ok (.invokestatic 55, 3) := by decide +kernel
theorem d_M_cross_35 : decode M_M_cross.2.1 35 = .ok (.ifCond .ne (5), 3) := by decide +kernel
theorem d_M_cross_38 : decode M_M_cross.2.1 38 = .ok (.iconst (0), 1) := by decide +kernel
theorem d_M_cross_39 : decode M_M_cross.2.1 39 = .ok (.ireturn, 1) := by decide +kernel
theorem d_M_cross_40 : decode M_M_cross.2.1 40 = .ok (.aload_n 0, 1) := by decide +kernel
theorem d_M_cross_41 : decode M_M_cross.2.1 41 = .ok (.bipush (8), 2) := by decide +kernel
theorem d_M_cross_43 : decode M_M_cross.2.1 43 = .ok (.aload_n 0, 1) := by decide +kernel
theorem d_M_cross_44 : decode M_M_cross.2.1 44 = .ok (.getfield 52, 3) := by decide +kernel
theorem d_M_cross_47 : decode M_M_cross.2.1 47 = .ok (.iadd, 1) := by decide +kernel
theorem d_M_cross_48 : decode M_M_cross.2.1 48 = .ok (.iload_n 1, 1) := by decide +kernel
theorem d_M_cross_49 : decode M_M_cross.2.1 49 = .ok (.iload_n 2, 1) := by decide +kernel
theorem d_M_cross_50 : decode M_M_cross.2.1 50 = .ok (.iload_n 3, 1) := by decide +kernel
theorem d_M_cross_51 : decode M_M_cross.2.1 51 = .ok (.iload 4, 2) := by decide +kernel
theorem d_M_cross_53 : decode M_M_cross.2.1 53 = .ok (.iload 5, 2) := by decide +kernel
theorem d_M_cross_55 : decode M_M_cross.2.1 55 = .ok (.invokevirtual 59, 3) := by decide +kernel
theorem d_M_cross_58 : decode M_M_cross.2.1 58 = .ok (.aload_n 0, 1) := by decide +kernel
theorem d_M_cross_59 : decode M_M_cross.2.1 59 = .ok (.dup, 1) := by decide +kernel
theorem d_M_cross_60 : decode M_M_cross.2.1 60 = .ok (.getfield 52, 3) := by decide +kernel
theorem d_M_cross_63 : decode M_M_cross.2.1 63 = .ok (.iconst (1), 1) := by decide +kernel
theorem d_M_cross_64 : decode M_M_cross.2.1 64 = .ok (.iadd, 1) := by decide +kernel
theorem d_M_cross_65 : decode M_M_cross.2.1 65 = .ok (.putfield 52, 3) := by decide +kernel
theorem d_M_cross_68 : decode M_M_cross.2.1 68 = .ok (.iconst (1), 1) := by decide +kernel
theorem d_M_cross_69 : decode M_M_cross.2.1 69 = .ok (.ireturn, 1) := by decide +kernel
theorem d_M_put_0 : decode M_M_put.2.1 0 = .ok (.aload_n 0, 1) := by decide +kernel
theorem d_M_put_1 : decode M_M_put.2.1 1 = .ok (.getfield 7, 3) := by decide +kernel
theorem d_M_put_4 : decode M_M_put.2.1 4 = .ok (.iconst (4), 1) := by decide +kernel
theorem d_M_put_5 : decode M_M_put.2.1 5 = .ok (.iload_n 1, 1) := by decide +kernel
theorem d_M_put_6 : decode M_M_put.2.1 6 = .ok (.imul, 1) := by decide +kernel
theorem d_M_put_7 : decode M_M_put.2.1 7 = .ok (.iload_n 2, 1) := by decide +kernel
theorem d_M_put_8 : decode M_M_put.2.1 8 = .ok (.iastore, 1) := by decide +kernel
theorem d_M_put_9 : decode M_M_put.2.1 9 = .ok (.aload_n 0, 1) := by decide +kernel
theorem d_M_put_10 : decode M_M_put.2.1 10 = .ok (.getfield 7, 3) := by decide +kernel
theorem d_M_put_13 : decode M_M_put.2.1 13 = .ok (.iconst (4), 1) := by decide +kernel
theorem d_M_put_14 : decode M_M_put.2.1 14 = .ok (.iload_n 1, 1) := by decide +kernel
theorem d_M_put_15 : decode M_M_put.2.1 15 = .ok (.imul, 1) := by decide +kernel
theorem d_M_put_16 : decode M_M_put.2.1 16 = .ok (.iconst (1), 1) := by decide +kernel
theorem d_M_put_17 : decode M_M_put.2.1 17 = .ok (.iadd, 1) := by decide +kernel
theorem d_M_put_18 : decode M_M_put.2.1 18 = .ok (.iload_n 3, 1) := by decide +kernel
theorem d_M_put_19 : decode M_M_put.2.1 19 = .ok (.iastore, 1) := by decide +kernel
theorem d_M_put_20 : decode M_M_put.2.1 20 = .ok (.aload_n 0, 1) := by decide +kernel
theorem d_M_put_21 : decode M_M_put.2.1 21 = .ok (.getfield 7, 3) := by decide +kernel
theorem d_M_put_24 : decode M_M_put.2.1 24 = .ok (.iconst (4), 1) := by decide +kernel
theorem d_M_put_25 : decode M_M_put.2.1 25 = .ok (.iload_n 1, 1) := by decide +kernel
theorem d_M_put_26 : decode M_M_put.2.1 26 = .ok (.imul, 1) := by decide +kernel
theorem d_M_put_27 : decode M_M_put.2.1 27 = .ok (.iconst (2), 1) := by decide +kernel
theorem d_M_put_28 : decode M_M_put.2.1 28 = .ok (.iadd, 1) := by decide +kernel
theorem d_M_put_29 : decode M_M_put.2.1 29 = .ok (.iload 4, 2) := by decide +kernel
theorem d_M_put_31 : decode M_M_put.2.1 31 = .ok (.iastore, 1) := by decide +kernel
theorem d_M_put_32 : decode M_M_put.2.1 32 = .ok (.aload_n 0, 1) := by decide +kernel
theorem d_M_put_33 : decode M_M_put.2.1 33 = .ok (.getfield 7, 3) := by decide +kernel
theorem d_M_put_36 : decode M_M_put.2.1 36 = .ok (.iconst (4), 1) := by decide +kernel
theorem d_M_put_37 : decode M_M_put.2.1 37 = .ok (.iload_n 1, 1) := by decide +kernel
theorem d_M_put_38 : decode M_M_put.2.1 38 = .ok (.imul, 1) := by decide +kernel
theorem d_M_put_39 : decode M_M_put.2.1 39 = .ok (.iconst (3), 1) := by decide +kernel
theorem d_M_put_40 : decode M_M_put.2.1 40 = .ok (.iadd, 1) := by decide +kernel
theorem d_M_put_41 : decode M_M_put.2.1 41 = .ok (.iload 5, 2) := by decide +kernel
theorem d_M_put_43 : decode M_M_put.2.1 43 = .ok (.iastore, 1) := by decide +kernel
theorem d_M_put_44 : decode M_M_put.2.1 44 = .ok (.aload_n 0, 1) := by decide +kernel
theorem d_M_put_45 : decode M_M_put.2.1 45 = .ok (.getfield 13, 3) := by decide +kernel
theorem d_M_put_48 : decode M_M_put.2.1 48 = .ok (.iload_n 1, 1) := by decide +kernel
theorem d_M_put_49 : decode M_M_put.2.1 49 = .ok (.iload 6, 2) := by decide +kernel
theorem d_M_put_51 : decode M_M_put.2.1 51 = .ok (.bastore, 1) := by decide +kernel
theorem d_M_put_52 : decode M_M_put.2.1 52 = .ok (.return_, 1) := by decide +kernel
theorem d_M_drop_0 : decode M_M_drop.2.1 0 = .ok (.aload_n 0, 1) := by decide +kernel
theorem d_M_drop_1 : decode M_M_drop.2.1 1 = .ok (.aload_n 0, 1) := by decide +kernel
theorem d_M_drop_2 : decode M_M_drop.2.1 2 = .ok (.getfield 52, 3) := by decide +kernel
theorem d_M_drop_5 : decode M_M_drop.2.1 5 = .ok (.ifCond .ne (7), 3) := by decide +kernel
theorem d_M_drop_8 : decode M_M_drop.2.1 8 = .ok (.iconst (0), 1) := by decide +kernel
theorem d_M_drop_9 : decode M_M_drop.2.1 9 = .ok (.goto (9), 3) := by decide +kernel
theorem d_M_drop_12 : decode M_M_drop.2.1 12 = .ok (.aload_n 0, 1) := by decide +kernel
theorem d_M_drop_13 : decode M_M_drop.2.1 13 = .ok (.getfield 52, 3) := by decide +kernel
theorem d_M_drop_16 : decode M_M_drop.2.1 16 = .ok (.iconst (1), 1) := by decide +kernel
theorem d_M_drop_17 : decode M_M_drop.2.1 17 = .ok (.isub, 1) := by decide +kernel
theorem d_M_drop_18 : decode M_M_drop.2.1 18 = .ok (.putfield 52, 3) := by decide +kernel
theorem d_M_drop_21 : decode M_M_drop.2.1 21 = .ok (.aload_n 0, 1) := by decide +kernel
theorem d_M_drop_22 : decode M_M_drop.2.1 22 = .ok (.getfield 52, 3) := by decide +kernel
theorem d_M_drop_25 : decode M_M_drop.2.1 25 = .ok (.ireturn, 1) := by decide +kernel
theorem d_M_look_0 : decode M_M_look.2.1 0 = .ok (.aload_n 0, 1) := by decide +kernel
theorem d_M_look_1 : decode M_M_look.2.1 1 = .ok (.iload_n 1, 1) := by decide +kernel
theorem d_M_look_2 : decode M_M_look.2.1 2 = .ok (.ifCond .eq (8), 3) := by decide +kernel
theorem d_M_look_5 : decode M_M_look.2.1 5 = .ok (.bipush (32), 2) := by decide +kernel
theorem d_M_look_7 : decode M_M_look.2.1 7 = .ok (.goto (4), 3) := by decide +kernel
theorem d_M_look_10 : decode M_M_look.2.1 10 = .ok (.iconst (0), 1) := by decide +kernel
theorem d_M_look_11 : decode M_M_look.2.1 11 = .ok (.putfield 63, 3) := by decide +kernel
theorem d_M_look_14 : decode M_M_look.2.1 14 = .ok (.aload_n 0, 1) := by decide +kernel
theorem d_M_look_15 : decode M_M_look.2.1 15 = .ok (.iload_n 1, 1) := by decide +kernel
theorem d_M_look_16 : decode M_M_look.2.1 16 = .ok (.ifCond .eq (10), 3) := by decide +kernel
theorem d_M_look_19 : decode M_M_look.2.1 19 = .ok (.aload_n 0, 1) := by decide +kernel
theorem d_M_look_20 : decode M_M_look.2.1 20 = .ok (.getfield 52, 3) := by decide +kernel
theorem d_M_look_23 : decode M_M_look.2.1 23 = .ok (.goto (7), 3) := by decide +kernel
theorem d_M_look_26 : decode M_M_look.2.1 26 = .ok (.aload_n 0, 1) := by decide +kernel
theorem d_M_look_27 : decode M_M_look.2.1 27 = .ok (.getfield 66, 3) := by decide +kernel
theorem d_M_look_30 : decode M_M_look.2.1 30 = .ok (.putfield 69, 3) := by decide +kernel
theorem d_M_look_33 : decode M_M_look.2.1 33 = .ok (.return_, 1) := by decide +kernel
theorem d_M_in_0 : decode M_M_in.2.1 0 = .ok (.iload_n 1, 1) := by decide +kernel
theorem d_M_in_1 : decode M_M_in.2.1 1 = .ok (.iconst (4), 1) := by decide +kernel
theorem d_M_in_2 : decode M_M_in.2.1 2 = .ok (.irem, 1) := by decide +kernel
theorem d_M_in_3 : decode M_M_in.2.1 3 = .ok (.istore_n 2, 1) := by decide +kernel
theorem d_M_in_4 : decode M_M_in.2.1 4 = .ok (.iload_n 2, 1) := by decide +kernel
theorem d_M_in_5 : decode M_M_in.2.1 5 = .ok (.ifCond .eq (23), 3) := by decide +kernel
theorem d_M_in_8 : decode M_M_in.2.1 8 = .ok (.iload_n 2, 1) := by decide +kernel
theorem d_M_in_9 : decode M_M_in.2.1 9 = .ok (.aload_n 0, 1) := by decide +kernel
theorem d_M_in_10 : decode M_M_in.2.1 10 = .ok (.getfield 13, 3) := by decide +kernel
theorem d_M_in_13 : decode M_M_in.2.1 13 = .ok (.iload_n 1, 1) := by decide +kernel
theorem d_M_in_14 : decode M_M_in.2.1 14 = .ok (.iconst (4), 1) := by decide +kernel
theorem d_M_in_15 : decode M_M_in.2.1 15 = .ok (.idiv, 1) := by decide +kernel
theorem d_M_in_16 : decode M_M_in.2.1 16 = .ok (.baload, 1) := by decide +kernel
theorem d_M_in_17 : decode M_M_in.2.1 17 = .ok (.ifCond .eq (7), 3) := by decide +kernel
theorem d_M_in_20 : decode M_M_in.2.1 20 = .ok (.iconst (3), 1) := by decide +kernel
theorem d_M_in_21 : decode M_M_in.2.1 21 = .ok (.goto (4), 3) := by decide +kernel
theorem d_M_in_24 : decode M_M_in.2.1 24 = .ok (.iconst (1), 1) := by decide +kernel
theorem d_M_in_25 : decode M_M_in.2.1 25 = .ok (.if_icmp .ne (7), 3) := by decide +kernel
theorem d_M_in_28 : decode M_M_in.2.1 28 = .ok (.iconst (1), 1) := by decide +kernel
theorem d_M_in_29 : decode M_M_in.2.1 29 = .ok (.goto (4), 3) := by decide +kernel
theorem d_M_in_32 : decode M_M_in.2.1 32 = .ok (.iconst (0), 1) := by decide +kernel
theorem d_M_in_33 : decode M_M_in.2.1 33 = .ok (.ireturn, 1) := by decide +kernel
theorem d_M_other_0 : decode M_M_other.2.1 0 = .ok (.iconst (-1), 1) := by decide +kernel
theorem d_M_other_1 : decode M_M_other.2.1 1 = .ok (.istore_n 2, 1) := by decide +kernel
theorem d_M_other_2 : decode M_M_other.2.1 2 = .ok (.iconst (0), 1) := by decide +kernel
theorem d_M_other_3 : decode M_M_other.2.1 3 = .ok (.istore_n 3, 1) := by decide +kernel
theorem d_M_other_4 : decode M_M_other.2.1 4 = .ok (.aload_n 0, 1) := by decide +kernel
theorem d_M_other_5 : decode M_M_other.2.1 5 = .ok (.getfield 63, 3) := by decide +kernel
theorem d_M_other_8 : decode M_M_other.2.1 8 = .ok (.istore 4, 2) := by decide +kernel
theorem d_M_other_10 : decode M_M_other.2.1 10 = .ok (.iload 4, 2) := by decide +kernel
theorem d_M_other_12 : decode M_M_other.2.1 12 = .ok (.aload_n 0, 1) := by decide +kernel
theorem d_M_other_13 : decode M_M_other.2.1 13 = .ok (.getfield 63, 3) := by decide +kernel
theorem d_M_other_16 : decode M_M_other.2.1 16 = .ok (.iconst (4), 1) := by decide +kernel
theorem d_M_other_17 : decode M_M_other.2.1 17 = .ok (.aload_n 0, 1) := by decide +kernel
theorem d_M_other_18 : decode M_M_other.2.1 18 = .ok (.getfield 69, 3) := by decide +kernel
theorem d_M_other_21 : decode M_M_other.2.1 21 = .ok (.imul, 1) := by decide +kernel
theorem d_M_other_22 : decode M_M_other.2.1 22 = .ok (.iadd, 1) := by decide +kernel
theorem d_M_other_23 : decode M_M_other.2.1 23 = .ok (.if_icmp .ge (37), 3) := by decide +kernel
theorem d_M_other_26 : decode M_M_other.2.1 26 = .ok (.iload 4, 2) := by decide +kernel
theorem d_M_other_28 : decode M_M_other.2.1 28 = .ok (.iload_n 1, 1) := by decide +kernel
theorem d_M_other_29 : decode M_M_other.2.1 29 = .ok (.if_icmp .eq (25), 3) := by decide +kernel
theorem d_M_other_32 : decode M_M_other.2.1 32 = .ok (.aload_n 0, 1) := by decide +kernel
theorem d_M_other_33 : decode M_M_other.2.1 33 = .ok (.getfield 7, 3) := by decide +kernel
theorem d_M_other_36 : decode M_M_other.2.1 36 = .ok (.iload 4, 2) := by decide +kernel
theorem d_M_other_38 : decode M_M_other.2.1 38 = .ok (.iaload, 1) := by decide +kernel
theorem d_M_other_39 : decode M_M_other.2.1 39 = .ok (.aload_n 0, 1) := by decide +kernel
theorem d_M_other_40 : decode M_M_other.2.1 40 = .ok (.getfield 7, 3) := by decide +kernel
theorem d_M_other_43 : decode M_M_other.2.1 43 = .ok (.iload_n 1, 1) := by decide +kernel
theorem d_M_other_44 : decode M_M_other.2.1 44 = .ok (.iaload, 1) := by decide +kernel
theorem d_M_other_45 : decode M_M_other.2.1 45 = .ok (.if_icmp .ne (9), 3) := by decide +kernel
theorem d_M_other_48 : decode M_M_other.2.1 48 = .ok (.iload 4, 2) := by decide +kernel
theorem d_M_other_50 : decode M_M_other.2.1 50 = .ok (.istore_n 2, 1) := by decide +kernel
theorem d_M_other_51 : decode M_M_other.2.1 51 = .ok (.iinc 3 (1), 3) := by decide +kernel
theorem d_M_other_54 : decode M_M_other.2.1 54 = .ok (.iinc 4 (1), 3) := by decide +kernel
theorem d_M_other_57 : decode M_M_other.2.1 57 = .ok (.goto (-47), 3) := by decide +kernel
theorem d_M_other_60 : decode M_M_other.2.1 60 = .ok (.iload_n 3, 1) := by decide +kernel
theorem d_M_other_61 : decode M_M_other.2.1 61 = .ok (.iconst (1), 1) := by decide +kernel
theorem d_M_other_62 : decode M_M_other.2.1 62 = .ok (.if_icmp .ne (7), 3) := by decide +kernel
theorem d_M_other_65 : decode M_M_other.2.1 65 = .ok (.iload_n 2, 1) := by decide +kernel
theorem d_M_other_66 : decode M_M_other.2.1 66 = .ok (.goto (4), 3) := by decide +kernel
theorem d_M_other_69 : decode M_M_other.2.1 69 = .ok (.iconst (-1), 1) := by decide +kernel
theorem d_M_other_70 : decode M_M_other.2.1 70 = .ok (.ireturn, 1) := by decide +kernel
theorem d_M_fit_0 : decode M_M_fit.2.1 0 = .ok (.aload_n 0, 1) := by decide +kernel
theorem d_M_fit_1 : decode M_M_fit.2.1 1 = .ok (.getfield 63, 3) := by decide +kernel
theorem d_M_fit_4 : decode M_M_fit.2.1 4 = .ok (.istore_n 1, 1) := by decide +kernel
theorem d_M_fit_5 : decode M_M_fit.2.1 5 = .ok (.iload_n 1, 1) := by decide +kernel
theorem d_M_fit_6 : decode M_M_fit.2.1 6 = .ok (.aload_n 0, 1) := by decide +kernel
theorem d_M_fit_7 : decode M_M_fit.2.1 7 = .ok (.getfield 63, 3) := by decide +kernel
theorem d_M_fit_10 : decode M_M_fit.2.1 10 = .ok (.iconst (4), 1) := by decide +kernel
theorem d_M_fit_11 : decode M_M_fit.2.1 11 = .ok (.aload_n 0, 1) := by decide +kernel
theorem d_M_fit_12 : decode M_M_fit.2.1 12 = .ok (.getfield 69, 3) := by decide +kernel
theorem d_M_fit_15 : decode M_M_fit.2.1 15 = .ok (.imul, 1) := by decide +kernel
theorem d_M_fit_16 : decode M_M_fit.2.1 16 = .ok (.iadd, 1) := by decide +kernel
theorem d_M_fit_17 : decode M_M_fit.2.1 17 = .ok (.if_icmp .ge (34), 3) := by decide +kernel
theorem d_M_fit_20 : decode M_M_fit.2.1 20 = .ok (.aload_n 0, 1) := by decide +kernel
theorem d_M_fit_21 : decode M_M_fit.2.1 21 = .ok (.iload_n 1, 1) := by decide +kernel
theorem d_M_fit_22 : decode M_M_fit.2.1 22 = .ok (.invokevirtual 72, 3) := by decide +kernel
theorem d_M_fit_25 : decode M_M_fit.2.1 25 = .ok (.istore_n 2, 1) := by decide +kernel
theorem d_M_fit_26 : decode M_M_fit.2.1 26 = .ok (.iload_n 2, 1) := by decide +kernel
theorem d_M_fit_27 : decode M_M_fit.2.1 27 = .ok (.ifCond .lt (16), 3) := by decide +kernel
theorem d_M_fit_30 : decode M_M_fit.2.1 30 = .ok (.aload_n 0, 1) := by decide +kernel
theorem d_M_fit_31 : decode M_M_fit.2.1 31 = .ok (.iload_n 2, 1) := by decide +kernel
theorem d_M_fit_32 : decode M_M_fit.2.1 32 = .ok (.invokevirtual 76, 3) := by decide +kernel
theorem d_M_fit_35 : decode M_M_fit.2.1 35 = .ok (.aload_n 0, 1) := by decide +kernel
theorem d_M_fit_36 : decode M_M_fit.2.1 36 = .ok (.iload_n 1, 1) := by decide +kernel
theorem d_M_fit_37 : decode M_M_fit.2.1 37 = .ok (.invokevirtual 76, 3) := by decide +kernel
theorem d_M_fit_40 : decode M_M_fit.2.1 40 = .ok (.if_icmp .ne (5), 3) := by decide +kernel
theorem d_M_fit_43 : decode M_M_fit.2.1 43 = .ok (.iconst (0), 1) := by decide +kernel
theorem d_M_fit_44 : decode M_M_fit.2.1 44 = .ok (.ireturn, 1) := by decide +kernel
theorem d_M_fit_45 : decode M_M_fit.2.1 45 = .ok (.iinc 1 (1), 3) := by decide +kernel
theorem d_M_fit_48 : decode M_M_fit.2.1 48 = .ok (.goto (-43), 3) := by decide +kernel
theorem d_M_fit_51 : decode M_M_fit.2.1 51 = .ok (.iconst (1), 1) := by decide +kernel
theorem d_M_fit_52 : decode M_M_fit.2.1 52 = .ok (.ireturn, 1) := by decide +kernel
theorem d_M_follow_0 : decode M_M_follow.2.1 0 = .ok (.aload_n 0, 1) := by decide +kernel
theorem d_M_follow_1 : decode M_M_follow.2.1 1 = .ok (.iload_n 1, 1) := by decide +kernel
theorem d_M_follow_2 : decode M_M_follow.2.1 2 = .ok (.invokevirtual 72, 3) := by decide +kernel
theorem d_M_follow_5 : decode M_M_follow.2.1 5 = .ok (.istore_n 2, 1) := by decide +kernel
theorem d_M_follow_6 : decode M_M_follow.2.1 6 = .ok (.iload_n 2, 1) := by decide +kernel
theorem d_M_follow_7 : decode M_M_follow.2.1 7 = .ok (.iconst (4), 1) := by decide +kernel
theorem d_M_follow_8 : decode M_M_follow.2.1 8 = .ok (.irem, 1) := by decide +kernel
theorem d_M_follow_9 : decode M_M_follow.2.1 9 = .ok (.ifCond .ne (9), 3) := by decide +kernel
theorem d_M_follow_12 : decode M_M_follow.2.1 12 = .ok (.iload_n 2, 1) := by decide +kernel
theorem d_M_follow_13 : decode M_M_follow.2.1 13 = .ok (.iconst (3), 1) := by decide +kernel
theorem d_M_follow_14 : decode M_M_follow.2.1 14 = .ok (.iadd, 1) := by decide +kernel
theorem d_M_follow_15 : decode M_M_follow.2.1 15 = .ok (.goto (6), 3) := by decide +kernel
theorem d_M_follow_18 : decode M_M_follow.2.1 18 = .ok (.iload_n 2, 1) := by decide +kernel
theorem d_M_follow_19 : decode M_M_follow.2.1 19 = .ok (.iconst (1), 1) := by decide +kernel
theorem d_M_follow_20 : decode M_M_follow.2.1 20 = .ok (.isub, 1) := by decide +kernel
theorem d_M_follow_21 : decode M_M_follow.2.1 21 = .ok (.ireturn, 1) := by decide +kernel
theorem d_M_face_0 : decode M_M_face.2.1 0 = .ok (.iload_n 1, 1) := by decide +kernel
theorem d_M_face_1 : decode M_M_face.2.1 1 = .ok (.istore_n 2, 1) := by decide +kernel
theorem d_M_face_2 : decode M_M_face.2.1 2 = .ok (.aload_n 0, 1) := by decide +kernel
theorem d_M_face_3 : decode M_M_face.2.1 3 = .ok (.iload_n 1, 1) := by decide +kernel
theorem d_M_face_4 : decode M_M_face.2.1 4 = .ok (.invokevirtual 79, 3) := by decide +kernel
theorem d_M_face_7 : decode M_M_face.2.1 7 = .ok (.istore_n 3, 1) := by decide +kernel
theorem d_M_face_8 : decode M_M_face.2.1 8 = .ok (.iload_n 3, 1) := by decide +kernel
theorem d_M_face_9 : decode M_M_face.2.1 9 = .ok (.iload_n 1, 1) := by decide +kernel
theorem d_M_face_10 : decode M_M_face.2.1 10 = .ok (.if_icmp .eq (23), 3) := by decide +kernel
theorem d_M_face_13 : decode M_M_face.2.1 13 = .ok (.iload_n 3, 1) := by decide +kernel
theorem d_M_face_14 : decode M_M_face.2.1 14 = .ok (.iload_n 2, 1) := by decide +kernel
theorem d_M_face_15 : decode M_M_face.2.1 15 = .ok (.if_icmp .ge (7), 3) := by decide +kernel
theorem d_M_face_18 : decode M_M_face.2.1 18 = .ok (.iload_n 3, 1) := by decide +kernel
theorem d_M_face_19 : decode M_M_face.2.1 19 = .ok (.goto (4), 3) := by decide +kernel
theorem d_M_face_22 : decode M_M_face.2.1 22 = .ok (.iload_n 2, 1) := by decide +kernel
theorem d_M_face_23 : decode M_M_face.2.1 23 = .ok (.istore_n 2, 1) := by decide +kernel
theorem d_M_face_24 : decode M_M_face.2.1 24 = .ok (.aload_n 0, 1) := by decide +kernel
theorem d_M_face_25 : decode M_M_face.2.1 25 = .ok (.iload_n 3, 1) := by decide +kernel
theorem d_M_face_26 : decode M_M_face.2.1 26 = .ok (.invokevirtual 79, 3) := by decide +kernel
theorem d_M_face_29 : decode M_M_face.2.1 29 = .ok (.istore_n 3, 1) := by decide +kernel
theorem d_M_face_30 : decode M_M_face.2.1 30 = .ok (.goto (-22), 3) := by decide +kernel
theorem d_M_face_33 : decode M_M_face.2.1 33 = .ok (.iload_n 2, 1) := by decide +kernel
theorem d_M_face_34 : decode M_M_face.2.1 34 = .ok (.ireturn, 1) := by decide +kernel
theorem d_M_faces_0 : decode M_M_faces.2.1 0 = .ok (.iconst (0), 1) := by decide +kernel
theorem d_M_faces_1 : decode M_M_faces.2.1 1 = .ok (.istore_n 1, 1) := by decide +kernel
theorem d_M_faces_2 : decode M_M_faces.2.1 2 = .ok (.aload_n 0, 1) := by decide +kernel
theorem d_M_faces_3 : decode M_M_faces.2.1 3 = .ok (.getfield 63, 3) := by decide +kernel
theorem d_M_faces_6 : decode M_M_faces.2.1 6 = .ok (.istore_n 2, 1) := by decide +kernel
theorem d_M_faces_7 : decode M_M_faces.2.1 7 = .ok (.iload_n 2, 1) := by decide +kernel
theorem d_M_faces_8 : decode M_M_faces.2.1 8 = .ok (.aload_n 0, 1) := by decide +kernel
theorem d_M_faces_9 : decode M_M_faces.2.1 9 = .ok (.getfield 63, 3) := by decide +kernel
theorem d_M_faces_12 : decode M_M_faces.2.1 12 = .ok (.iconst (4), 1) := by decide +kernel
theorem d_M_faces_13 : decode M_M_faces.2.1 13 = .ok (.aload_n 0, 1) := by decide +kernel
theorem d_M_faces_14 : decode M_M_faces.2.1 14 = .ok (.getfield 69, 3) := by decide +kernel
theorem d_M_faces_17 : decode M_M_faces.2.1 17 = .ok (.imul, 1) := by decide +kernel
theorem d_M_faces_18 : decode M_M_faces.2.1 18 = .ok (.iadd, 1) := by decide +kernel
theorem d_M_faces_19 : decode M_M_faces.2.1 19 = .ok (.if_icmp .ge (26), 3) := by decide +kernel
theorem d_M_faces_22 : decode M_M_faces.2.1 22 = .ok (.aload_n 0, 1) := by decide +kernel
theorem d_M_faces_23 : decode M_M_faces.2.1 23 = .ok (.iload_n 2, 1) := by decide +kernel
theorem d_M_faces_24 : decode M_M_faces.2.1 24 = .ok (.invokevirtual 82, 3) := by decide +kernel
theorem d_M_faces_27 : decode M_M_faces.2.1 27 = .ok (.iload_n 2, 1) := by decide +kernel
theorem d_M_faces_28 : decode M_M_faces.2.1 28 = .ok (.if_icmp .ne (9), 3) := by decide +kernel
theorem d_M_faces_31 : decode M_M_faces.2.1 31 = .ok (.iload_n 1, 1) := by decide +kernel
theorem d_M_faces_32 : decode M_M_faces.2.1 32 = .ok (.iconst (1), 1) := by decide +kernel
theorem d_M_faces_33 : decode M_M_faces.2.1 33 = .ok (.iadd, 1) := by decide +kernel
theorem d_M_faces_34 : decode M_M_faces.2.1 34 = .ok (.goto (4), 3) := by decide +kernel
theorem d_M_faces_37 : decode M_M_faces.2.1 37 = .ok (.iload_n 1, 1) := by decide +kernel
theorem d_M_faces_38 : decode M_M_faces.2.1 38 = .ok (.istore_n 1, 1) := by decide +kernel
theorem d_M_faces_39 : decode M_M_faces.2.1 39 = .ok (.iinc 2 (1), 3) := by decide +kernel
theorem d_M_faces_42 : decode M_M_faces.2.1 42 = .ok (.goto (-35), 3) := by decide +kernel
theorem d_M_faces_45 : decode M_M_faces.2.1 45 = .ok (.iload_n 1, 1) := by decide +kernel
theorem d_M_faces_46 : decode M_M_faces.2.1 46 = .ok (.ireturn, 1) := by decide +kernel
theorem d_M_spread_0 : decode M_M_spread.2.1 0 = .ok (.aload_n 0, 1) := by decide +kernel
theorem d_M_spread_1 : decode M_M_spread.2.1 1 = .ok (.getfield 24, 3) := by decide +kernel
theorem d_M_spread_4 : decode M_M_spread.2.1 4 = .ok (.iconst (4), 1) := by decide +kernel
theorem d_M_spread_5 : decode M_M_spread.2.1 5 = .ok (.iload_n 1, 1) := by decide +kernel
theorem d_M_spread_6 : decode M_M_spread.2.1 6 = .ok (.imul, 1) := by decide +kernel
theorem d_M_spread_7 : decode M_M_spread.2.1 7 = .ok (.iconst (1), 1) := by decide +kernel
theorem d_M_spread_8 : decode M_M_spread.2.1 8 = .ok (.bastore, 1) := by decide +kernel
theorem d_M_spread_9 : decode M_M_spread.2.1 9 = .ok (.iconst (1), 1) := by decide +kernel
theorem d_M_spread_10 : decode M_M_spread.2.1 10 = .ok (.istore_n 2, 1) := by decide +kernel
theorem d_M_spread_11 : decode M_M_spread.2.1 11 = .ok (.iload_n 2, 1) := by decide +kernel
theorem d_M_spread_12 : decode M_M_spread.2.1 12 = .ok (.ifCond .eq (130), 3) := by decide +kernel
theorem d_M_spread_15 : decode M_M_spread.2.1 15 = .ok (.iconst (0), 1) := by decide +kernel
theorem d_M_spread_16 : decode M_M_spread.2.1 16 = .ok (.istore_n 2, 1) := by decide +kernel
theorem d_M_spread_17 : decode M_M_spread.2.1 17 = .ok (.aload_n 0, 1) := by decide +kernel
theorem d_M_spread_18 : decode M_M_spread.2.1 18 = .ok (.getfield 63, 3) := by decide +kernel
theorem d_M_spread_21 : decode M_M_spread.2.1 21 = .ok (.istore_n 3, 1) := by decide +kernel
theorem d_M_spread_22 : decode M_M_spread.2.1 22 = .ok (.iload_n 3, 1) := by decide +kernel
theorem d_M_spread_23 : decode M_M_spread.2.1 23 = .ok (.aload_n 0, 1) := by decide +kernel
theorem d_M_spread_24 : decode M_M_spread.2.1 24 = .ok (.getfield 63, 3) := by decide +kernel
theorem d_M_spread_27 : decode M_M_spread.2.1 27 = .ok (.iconst (4), 1) := by decide +kernel
theorem d_M_spread_28 : decode M_M_spread.2.1 28 = .ok (.aload_n 0, 1) := by decide +kernel
theorem d_M_spread_29 : decode M_M_spread.2.1 29 = .ok (.getfield 69, 3) := by decide +kernel
theorem d_M_spread_32 : decode M_M_spread.2.1 32 = .ok (.imul, 1) := by decide +kernel
theorem d_M_spread_33 : decode M_M_spread.2.1 33 = .ok (.iadd, 1) := by decide +kernel
theorem d_M_spread_34 : decode M_M_spread.2.1 34 = .ok (.if_icmp .ge (105), 3) := by decide +kernel
theorem d_M_spread_37 : decode M_M_spread.2.1 37 = .ok (.iload_n 3, 1) := by decide +kernel
theorem d_M_spread_38 : decode M_M_spread.2.1 38 = .ok (.iconst (4), 1) := by decide +kernel
theorem d_M_spread_39 : decode M_M_spread.2.1 39 = .ok (.idiv, 1) := by decide +kernel
theorem d_M_spread_40 : decode M_M_spread.2.1 40 = .ok (.iconst (4), 1) := by decide +kernel
theorem d_M_spread_41 : decode M_M_spread.2.1 41 = .ok (.imul, 1) := by decide +kernel
theorem d_M_spread_42 : decode M_M_spread.2.1 42 = .ok (.istore 4, 2) := by decide +kernel
theorem d_M_spread_44 : decode M_M_spread.2.1 44 = .ok (.aload_n 0, 1) := by decide +kernel
theorem d_M_spread_45 : decode M_M_spread.2.1 45 = .ok (.getfield 24, 3) := by decide +kernel
theorem d_M_spread_48 : decode M_M_spread.2.1 48 = .ok (.iload 4, 2) := by decide +kernel
theorem d_M_spread_50 : decode M_M_spread.2.1 50 = .ok (.baload, 1) := by decide +kernel
theorem d_M_spread_51 : decode M_M_spread.2.1 51 = .ok (.ifCond .ne (52), 3) := by decide +kernel
theorem d_M_spread_54 : decode M_M_spread.2.1 54 = .ok (.aload_n 0, 1) := by decide +kernel
theorem d_M_spread_55 : decode M_M_spread.2.1 55 = .ok (.getfield 24, 3) := by decide +kernel
theorem d_M_spread_58 : decode M_M_spread.2.1 58 = .ok (.iload 4, 2) := by decide +kernel
theorem d_M_spread_60 : decode M_M_spread.2.1 60 = .ok (.iconst (1), 1) := by decide +kernel
theorem d_M_spread_61 : decode M_M_spread.2.1 61 = .ok (.iadd, 1) := by decide +kernel
theorem d_M_spread_62 : decode M_M_spread.2.1 62 = .ok (.baload, 1) := by decide +kernel
theorem d_M_spread_63 : decode M_M_spread.2.1 63 = .ok (.ifCond .ne (40), 3) := by decide +kernel
theorem d_M_spread_66 : decode M_M_spread.2.1 66 = .ok (.aload_n 0, 1) := by decide +kernel
theorem d_M_spread_67 : decode M_M_spread.2.1 67 = .ok (.getfield 24, 3) := by decide +kernel
theorem d_M_spread_70 : decode M_M_spread.2.1 70 = .ok (.iload 4, 2) := by decide +kernel
theorem d_M_spread_72 : decode M_M_spread.2.1 72 = .ok (.iconst (2), 1) := by decide +kernel
theorem d_M_spread_73 : decode M_M_spread.2.1 73 = .ok (.iadd, 1) := by decide +kernel
theorem d_M_spread_74 : decode M_M_spread.2.1 74 = .ok (.baload, 1) := by decide +kernel
theorem d_M_spread_75 : decode M_M_spread.2.1 75 = .ok (.ifCond .ne (28), 3) := by decide +kernel
theorem d_M_spread_78 : decode M_M_spread.2.1 78 = .ok (.aload_n 0, 1) := by decide +kernel
theorem d_M_spread_79 : decode M_M_spread.2.1 79 = .ok (.getfield 24, 3) := by decide +kernel
theorem d_M_spread_82 : decode M_M_spread.2.1 82 = .ok (.iload 4, 2) := by decide +kernel
theorem d_M_spread_84 : decode M_M_spread.2.1 84 = .ok (.iconst (3), 1) := by decide +kernel
theorem d_M_spread_85 : decode M_M_spread.2.1 85 = .ok (.iadd, 1) := by decide +kernel
theorem d_M_spread_86 : decode M_M_spread.2.1 86 = .ok (.baload, 1) := by decide +kernel
theorem d_M_spread_87 : decode M_M_spread.2.1 87 = .ok (.ifCond .ne (16), 3) := by decide +kernel
theorem d_M_spread_90 : decode M_M_spread.2.1 90 = .ok (.aload_n 0, 1) := by decide +kernel
theorem d_M_spread_91 : decode M_M_spread.2.1 91 = .ok (.getfield 24, 3) := by decide +kernel
theorem d_M_spread_94 : decode M_M_spread.2.1 94 = .ok (.aload_n 0, 1) := by decide +kernel
theorem d_M_spread_95 : decode M_M_spread.2.1 95 = .ok (.iload_n 3, 1) := by decide +kernel
theorem d_M_spread_96 : decode M_M_spread.2.1 96 = .ok (.invokevirtual 72, 3) := by decide +kernel
theorem d_M_spread_99 : decode M_M_spread.2.1 99 = .ok (.baload, 1) := by decide +kernel
theorem d_M_spread_100 : decode M_M_spread.2.1 100 = .ok (.ifCond .eq (7), 3) := by decide +kernel
theorem d_M_spread_103 : decode M_M_spread.2.1 103 = .ok (.iconst (1), 1) := by decide +kernel
theorem d_M_spread_104 : decode M_M_spread.2.1 104 = .ok (.goto (4), 3) := by decide +kernel
theorem d_M_spread_107 : decode M_M_spread.2.1 107 = .ok (.iconst (0), 1) := by decide +kernel
theorem d_M_spread_108 : decode M_M_spread.2.1 108 = .ok (.istore 5, 2) := by decide +kernel
theorem d_M_spread_110 : decode M_M_spread.2.1 110 = .ok (.iload 5, 2) := by decide +kernel
theorem d_M_spread_112 : decode M_M_spread.2.1 112 = .ok (.ifCond .eq (21), 3) := by decide +kernel
theorem d_M_spread_115 : decode M_M_spread.2.1 115 = .ok (.aload_n 0, 1) := by decide +kernel
theorem d_M_spread_116 : decode M_M_spread.2.1 116 = .ok (.getfield 24, 3) := by decide +kernel
theorem d_M_spread_119 : decode M_M_spread.2.1 119 = .ok (.iload_n 3, 1) := by decide +kernel
theorem d_M_spread_120 : decode M_M_spread.2.1 120 = .ok (.baload, 1) := by decide +kernel
theorem d_M_spread_121 : decode M_M_spread.2.1 121 = .ok (.ifCond .ne (12), 3) := by decide +kernel
theorem d_M_spread_124 : decode M_M_spread.2.1 124 = .ok (.aload_n 0, 1) := by decide +kernel
theorem d_M_spread_125 : decode M_M_spread.2.1 125 = .ok (.getfield 24, 3) := by decide +kernel
theorem d_M_spread_128 : decode M_M_spread.2.1 128 = .ok (.iload_n 3, 1) := by decide +kernel
theorem d_M_spread_129 : decode M_M_spread.2.1 129 = .ok (.iconst (1), 1) := by decide +kernel
theorem d_M_spread_130 : decode M_M_spread.2.1 130 = .ok (.bastore, 1) := by decide +kernel
theorem d_M_spread_131 : decode M_M_spread.2.1 131 = .ok (.iconst (1), 1) := by decide +kernel
theorem d_M_spread_132 : decode M_M_spread.2.1 132 = .ok (.istore_n 2, 1) := by decide +kernel
theorem d_M_spread_133 : decode M_M_spread.2.1 133 = .ok (.iinc 3 (1), 3) := by decide +kernel
theorem d_M_spread_136 : decode M_M_spread.2.1 136 = .ok (.goto (-114), 3) := by decide +kernel
theorem d_M_spread_139 : decode M_M_spread.2.1 139 = .ok (.goto (-128), 3) := by decide +kernel
theorem d_M_spread_142 : decode M_M_spread.2.1 142 = .ok (.return_, 1) := by decide +kernel
theorem d_M_clear_0 : decode M_M_clear.2.1 0 = .ok (.iconst (0), 1) := by decide +kernel
theorem d_M_clear_1 : decode M_M_clear.2.1 1 = .ok (.istore_n 1, 1) := by decide +kernel
theorem d_M_clear_2 : decode M_M_clear.2.1 2 = .ok (.iload_n 1, 1) := by decide +kernel
theorem d_M_clear_3 : decode M_M_clear.2.1 3 = .ok (.bipush (64), 2) := by decide +kernel
theorem d_M_clear_5 : decode M_M_clear.2.1 5 = .ok (.if_icmp .ge (16), 3) := by decide +kernel
theorem d_M_clear_8 : decode M_M_clear.2.1 8 = .ok (.aload_n 0, 1) := by decide +kernel
theorem d_M_clear_9 : decode M_M_clear.2.1 9 = .ok (.getfield 24, 3) := by decide +kernel
theorem d_M_clear_12 : decode M_M_clear.2.1 12 = .ok (.iload_n 1, 1) := by decide +kernel
theorem d_M_clear_13 : decode M_M_clear.2.1 13 = .ok (.iconst (0), 1) := by decide +kernel
theorem d_M_clear_14 : decode M_M_clear.2.1 14 = .ok (.bastore, 1) := by decide +kernel
theorem d_M_clear_15 : decode M_M_clear.2.1 15 = .ok (.iinc 1 (1), 3) := by decide +kernel
theorem d_M_clear_18 : decode M_M_clear.2.1 18 = .ok (.goto (-16), 3) := by decide +kernel
theorem d_M_clear_21 : decode M_M_clear.2.1 21 = .ok (.return_, 1) := by decide +kernel
theorem d_M_pieces_0 : decode M_M_pieces.2.1 0 = .ok (.aload_n 0, 1) := by decide +kernel
theorem d_M_pieces_1 : decode M_M_pieces.2.1 1 = .ok (.invokevirtual 85, 3) := by decide +kernel
theorem d_M_pieces_4 : decode M_M_pieces.2.1 4 = .ok (.iconst (0), 1) := by decide +kernel
theorem d_M_pieces_5 : decode M_M_pieces.2.1 5 = .ok (.istore_n 1, 1) := by decide +kernel
theorem d_M_pieces_6 : decode M_M_pieces.2.1 6 = .ok (.aload_n 0, 1) := by decide +kernel
theorem d_M_pieces_7 : decode M_M_pieces.2.1 7 = .ok (.getfield 63, 3) := by decide +kernel
theorem d_M_pieces_10 : decode M_M_pieces.2.1 10 = .ok (.iconst (4), 1) := by decide +kernel
theorem d_M_pieces_11 : decode M_M_pieces.2.1 11 = .ok (.idiv, 1) := by decide +kernel
theorem d_M_pieces_12 : decode M_M_pieces.2.1 12 = .ok (.istore_n 2, 1) := by decide +kernel
theorem d_M_pieces_13 : decode M_M_pieces.2.1 13 = .ok (.iload_n 2, 1) := by decide +kernel
theorem d_M_pieces_14 : decode M_M_pieces.2.1 14 = .ok (.aload_n 0, 1) := by decide +kernel
theorem d_M_pieces_15 : decode M_M_pieces.2.1 15 = .ok (.getfield 63, 3) := by decide +kernel
theorem d_M_pieces_18 : decode M_M_pieces.2.1 18 = .ok (.iconst (4), 1) := by decide +kernel
theorem d_M_pieces_19 : decode M_M_pieces.2.1 19 = .ok (.idiv, 1) := by decide +kernel
theorem d_M_pieces_20 : decode M_M_pieces.2.1 20 = .ok (.aload_n 0, 1) := by decide +kernel
theorem d_M_pieces_21 : decode M_M_pieces.2.1 21 = .ok (.getfield 69, 3) := by decide +kernel
theorem d_M_pieces_24 : decode M_M_pieces.2.1 24 = .ok (.iadd, 1) := by decide +kernel
theorem d_M_pieces_25 : decode M_M_pieces.2.1 25 = .ok (.if_icmp .ge (28), 3) := by decide +kernel
theorem d_M_pieces_28 : decode M_M_pieces.2.1 28 = .ok (.aload_n 0, 1) := by decide +kernel
theorem d_M_pieces_29 : decode M_M_pieces.2.1 29 = .ok (.getfield 24, 3) := by decide +kernel
theorem d_M_pieces_32 : decode M_M_pieces.2.1 32 = .ok (.iconst (4), 1) := by decide +kernel
theorem d_M_pieces_33 : decode M_M_pieces.2.1 33 = .ok (.iload_n 2, 1) := by decide +kernel
theorem d_M_pieces_34 : decode M_M_pieces.2.1 34 = .ok (.imul, 1) := by decide +kernel
theorem d_M_pieces_35 : decode M_M_pieces.2.1 35 = .ok (.baload, 1) := by decide +kernel
theorem d_M_pieces_36 : decode M_M_pieces.2.1 36 = .ok (.ifCond .ne (11), 3) := by decide +kernel
theorem d_M_pieces_39 : decode M_M_pieces.2.1 39 = .ok (.iinc 1 (1), 3) := by decide +kernel
theorem d_M_pieces_42 : decode M_M_pieces.2.1 42 = .ok (.aload_n 0, 1) := by decide +kernel
theorem d_M_pieces_43 : decode M_M_pieces.2.1 43 = .ok (.iload_n 2, 1) := by decide +kernel
theorem d_M_pieces_44 : decode M_M_pieces.2.1 44 = .ok (.invokevirtual 88, 3) := by decide +kernel
theorem d_M_pieces_47 : decode M_M_pieces.2.1 47 = .ok (.iinc 2 (1), 3) := by decide +kernel
theorem d_M_pieces_50 : decode M_M_pieces.2.1 50 = .ok (.goto (-37), 3) := by decide +kernel
theorem d_M_pieces_53 : decode M_M_pieces.2.1 53 = .ok (.iload_n 1, 1) := by decide +kernel
theorem d_M_pieces_54 : decode M_M_pieces.2.1 54 = .ok (.ireturn, 1) := by decide +kernel
theorem d_M_take_0 : decode M_M_take.2.1 0 = .ok (.iload_n 1, 1) := by decide +kernel
theorem d_M_take_1 : decode M_M_take.2.1 1 = .ok (.ifCond .lt (19), 3) := by decide +kernel
theorem d_M_take_4 : decode M_M_take.2.1 4 = .ok (.iload_n 1, 1) := by decide +kernel
theorem d_M_take_5 : decode M_M_take.2.1 5 = .ok (.iconst (4), 1) := by decide +kernel
theorem d_M_take_6 : decode M_M_take.2.1 6 = .ok (.if_icmp .gt (14), 3) := by decide +kernel
theorem d_M_take_9 : decode M_M_take.2.1 9 = .ok (.iload_n 1, 1) := by decide +kernel
theorem d_M_take_10 : decode M_M_take.2.1 10 = .ok (.ifCond .ne (12), 3) := by decide +kernel
theorem d_M_take_13 : decode M_M_take.2.1 13 = .ok (.aload_n 0, 1) := by decide +kernel
theorem d_M_take_14 : decode M_M_take.2.1 14 = .ok (.getfield 52, 3) := by decide +kernel
theorem d_M_take_17 : decode M_M_take.2.1 17 = .ok (.ifCond .ne (5), 3) := by decide +kernel
theorem d_M_take_20 : decode M_M_take.2.1 20 = .ok (.iconst (1), 1) := by decide +kernel
theorem d_M_take_21 : decode M_M_take.2.1 21 = .ok (.ireturn, 1) := by decide +kernel
theorem d_M_take_22 : decode M_M_take.2.1 22 = .ok (.aload_n 0, 1) := by decide +kernel
theorem d_M_take_23 : decode M_M_take.2.1 23 = .ok (.iconst (1), 1) := by decide +kernel
theorem d_M_take_24 : decode M_M_take.2.1 24 = .ok (.invokevirtual 92, 3) := by decide +kernel
theorem d_M_take_27 : decode M_M_take.2.1 27 = .ok (.aload_n 0, 1) := by decide +kernel
theorem d_M_take_28 : decode M_M_take.2.1 28 = .ok (.invokevirtual 96, 3) := by decide +kernel
theorem d_M_take_31 : decode M_M_take.2.1 31 = .ok (.ifCond .ne (5), 3) := by decide +kernel
theorem d_M_take_34 : decode M_M_take.2.1 34 = .ok (.iconst (2), 1) := by decide +kernel
theorem d_M_take_35 : decode M_M_take.2.1 35 = .ok (.ireturn, 1) := by decide +kernel
theorem d_M_take_36 : decode M_M_take.2.1 36 = .ok (.aload_n 0, 1) := by decide +kernel
theorem d_M_take_37 : decode M_M_take.2.1 37 = .ok (.invokevirtual 100, 3) := by decide +kernel
theorem d_M_take_40 : decode M_M_take.2.1 40 = .ok (.istore_n 2, 1) := by decide +kernel
theorem d_M_take_41 : decode M_M_take.2.1 41 = .ok (.aload_n 0, 1) := by decide +kernel
theorem d_M_take_42 : decode M_M_take.2.1 42 = .ok (.invokevirtual 104, 3) := by decide +kernel
theorem d_M_take_45 : decode M_M_take.2.1 45 = .ok (.istore_n 3, 1) := by decide +kernel
theorem d_M_take_46 : decode M_M_take.2.1 46 = .ok (.iload_n 2, 1) := by decide +kernel
theorem d_M_take_47 : decode M_M_take.2.1 47 = .ok (.aload_n 0, 1) := by decide +kernel
theorem d_M_take_48 : decode M_M_take.2.1 48 = .ok (.getfield 52, 3) := by decide +kernel
theorem d_M_take_51 : decode M_M_take.2.1 51 = .ok (.iconst (2), 1) := by decide +kernel
theorem d_M_take_52 : decode M_M_take.2.1 52 = .ok (.iload_n 3, 1) := by decide +kernel
theorem d_M_take_53 : decode M_M_take.2.1 53 = .ok (.imul, 1) := by decide +kernel
theorem d_M_take_54 : decode M_M_take.2.1 54 = .ok (.iadd, 1) := by decide +kernel
theorem d_M_take_55 : decode M_M_take.2.1 55 = .ok (.if_icmp .eq (5), 3) := by decide +kernel
theorem d_M_take_58 : decode M_M_take.2.1 58 = .ok (.iconst (3), 1) := by decide +kernel
theorem d_M_take_59 : decode M_M_take.2.1 59 = .ok (.ireturn, 1) := by decide +kernel
theorem d_M_take_60 : decode M_M_take.2.1 60 = .ok (.iconst (0), 1) := by decide +kernel
theorem d_M_take_61 : decode M_M_take.2.1 61 = .ok (.istore 4, 2) := by decide +kernel
theorem d_M_take_63 : decode M_M_take.2.1 63 = .ok (.iload 4, 2) := by decide +kernel
theorem d_M_take_65 : decode M_M_take.2.1 65 = .ok (.bipush (32), 2) := by decide +kernel
theorem d_M_take_67 : decode M_M_take.2.1 67 = .ok (.if_icmp .ge (47), 3) := by decide +kernel
theorem d_M_take_70 : decode M_M_take.2.1 70 = .ok (.aload_n 0, 1) := by decide +kernel
theorem d_M_take_71 : decode M_M_take.2.1 71 = .ok (.getfield 7, 3) := by decide +kernel
theorem d_M_take_74 : decode M_M_take.2.1 74 = .ok (.iload 4, 2) := by decide +kernel
theorem d_M_take_76 : decode M_M_take.2.1 76 = .ok (.aload_n 0, 1) := by decide +kernel
theorem d_M_take_77 : decode M_M_take.2.1 77 = .ok (.getfield 7, 3) := by decide +kernel
theorem d_M_take_80 : decode M_M_take.2.1 80 = .ok (.bipush (32), 2) := by decide +kernel
theorem d_M_take_82 : decode M_M_take.2.1 82 = .ok (.iload 4, 2) := by decide +kernel
theorem d_M_take_84 : decode M_M_take.2.1 84 = .ok (.iadd, 1) := by decide +kernel
theorem d_M_take_85 : decode M_M_take.2.1 85 = .ok (.iaload, 1) := by decide +kernel
theorem d_M_take_86 : decode M_M_take.2.1 86 = .ok (.iastore, 1) := by decide +kernel
theorem d_M_take_87 : decode M_M_take.2.1 87 = .ok (.aload_n 0, 1) := by decide +kernel
theorem d_M_take_88 : decode M_M_take.2.1 88 = .ok (.getfield 13, 3) := by decide +kernel
theorem d_M_take_91 : decode M_M_take.2.1 91 = .ok (.iload 4, 2) := by decide +kernel
theorem d_M_take_93 : decode M_M_take.2.1 93 = .ok (.iconst (4), 1) := by decide +kernel
theorem d_M_take_94 : decode M_M_take.2.1 94 = .ok (.idiv, 1) := by decide +kernel
theorem d_M_take_95 : decode M_M_take.2.1 95 = .ok (.aload_n 0, 1) := by decide +kernel
theorem d_M_take_96 : decode M_M_take.2.1 96 = .ok (.getfield 13, 3) := by decide +kernel
theorem d_M_take_99 : decode M_M_take.2.1 99 = .ok (.bipush (8), 2) := by decide +kernel
theorem d_M_take_101 : decode M_M_take.2.1 101 = .ok (.iload 4, 2) := by decide +kernel
theorem d_M_take_103 : decode M_M_take.2.1 103 = .ok (.iconst (4), 1) := by decide +kernel
theorem d_M_take_104 : decode M_M_take.2.1 104 = .ok (.idiv, 1) := by decide +kernel
theorem d_M_take_105 : decode M_M_take.2.1 105 = .ok (.iadd, 1) := by decide +kernel
theorem d_M_take_106 : decode M_M_take.2.1 106 = .ok (.baload, 1) := by decide +kernel
theorem d_M_take_107 : decode M_M_take.2.1 107 = .ok (.bastore, 1) := by decide +kernel
theorem d_M_take_108 : decode M_M_take.2.1 108 = .ok (.iinc 4 (1), 3) := by decide +kernel
theorem d_M_take_111 : decode M_M_take.2.1 111 = .ok (.goto (-48), 3) := by decide +kernel
theorem d_M_take_114 : decode M_M_take.2.1 114 = .ok (.aload_n 0, 1) := by decide +kernel
theorem d_M_take_115 : decode M_M_take.2.1 115 = .ok (.aload_n 0, 1) := by decide +kernel
theorem d_M_take_116 : decode M_M_take.2.1 116 = .ok (.getfield 52, 3) := by decide +kernel
theorem d_M_take_119 : decode M_M_take.2.1 119 = .ok (.putfield 66, 3) := by decide +kernel
theorem d_M_take_122 : decode M_M_take.2.1 122 = .ok (.aload_n 0, 1) := by decide +kernel
theorem d_M_take_123 : decode M_M_take.2.1 123 = .ok (.iconst (0), 1) := by decide +kernel
theorem d_M_take_124 : decode M_M_take.2.1 124 = .ok (.putfield 52, 3) := by decide +kernel
theorem d_M_take_127 : decode M_M_take.2.1 127 = .ok (.aload_n 0, 1) := by decide +kernel
theorem d_M_take_128 : decode M_M_take.2.1 128 = .ok (.iload_n 1, 1) := by decide +kernel
theorem d_M_take_129 : decode M_M_take.2.1 129 = .ok (.putfield 17, 3) := by decide +kernel
theorem d_M_take_132 : decode M_M_take.2.1 132 = .ok (.iconst (0), 1) := by decide +kernel
theorem d_M_take_133 : decode M_M_take.2.1 133 = .ok (.ireturn, 1) := by decide +kernel
theorem d_M_letter_0 : decode M_M_letter.2.1 0 = .ok (.iload_n 1, 1) := by decide +kernel
theorem d_M_letter_1 : decode M_M_letter.2.1 1 = .ok (.ifCond .eq (23), 3) := by decide +kernel
theorem d_M_letter_4 : decode M_M_letter.2.1 4 = .ok (.iload_n 1, 1) := by decide +kernel
theorem d_M_letter_5 : decode M_M_letter.2.1 5 = .ok (.bipush (-3), 2) := by decide +kernel
theorem d_M_letter_7 : decode M_M_letter.2.1 7 = .ok (.if_icmp .lt (17), 3) := by decide +kernel
theorem d_M_letter_10 : decode M_M_letter.2.1 10 = .ok (.iload_n 1, 1) := by decide +kernel
theorem d_M_letter_11 : decode M_M_letter.2.1 11 = .ok (.iconst (3), 1) := by decide +kernel
theorem d_M_letter_12 : decode M_M_letter.2.1 12 = .ok (.if_icmp .gt (12), 3) := by decide +kernel
theorem d_M_letter_15 : decode M_M_letter.2.1 15 = .ok (.aload_n 0, 1) := by decide +kernel
theorem d_M_letter_16 : decode M_M_letter.2.1 16 = .ok (.getfield 107, 3) := by decide +kernel
theorem d_M_letter_19 : decode M_M_letter.2.1 19 = .ok (.bipush (8), 2) := by decide +kernel
theorem d_M_letter_21 : decode M_M_letter.2.1 21 = .ok (.if_icmp .ne (5), 3) := by decide +kernel
theorem d_M_letter_24 : decode M_M_letter.2.1 24 = .ok (.iconst (0), 1) := by decide +kernel
theorem d_M_letter_25 : decode M_M_letter.2.1 25 = .ok (.ireturn, 1) := by decide +kernel
theorem d_M_letter_26 : decode M_M_letter.2.1 26 = .ok (.aload_n 0, 1) := by decide +kernel
theorem d_M_letter_27 : decode M_M_letter.2.1 27 = .ok (.getfield 21, 3) := by decide +kernel
theorem d_M_letter_30 : decode M_M_letter.2.1 30 = .ok (.aload_n 0, 1) := by decide +kernel
theorem d_M_letter_31 : decode M_M_letter.2.1 31 = .ok (.getfield 107, 3) := by decide +kernel
theorem d_M_letter_34 : decode M_M_letter.2.1 34 = .ok (.iload_n 1, 1) := by decide +kernel
theorem d_M_letter_35 : decode M_M_letter.2.1 35 = .ok (.iastore, 1) := by decide +kernel
theorem d_M_letter_36 : decode M_M_letter.2.1 36 = .ok (.aload_n 0, 1) := by decide +kernel
theorem d_M_letter_37 : decode M_M_letter.2.1 37 = .ok (.dup, 1) := by decide +kernel
theorem d_M_letter_38 : decode M_M_letter.2.1 38 = .ok (.getfield 107, 3) := by decide +kernel
theorem d_M_letter_41 : decode M_M_letter.2.1 41 = .ok (.iconst (1), 1) := by decide +kernel
theorem d_M_letter_42 : decode M_M_letter.2.1 42 = .ok (.iadd, 1) := by decide +kernel
theorem d_M_letter_43 : decode M_M_letter.2.1 43 = .ok (.putfield 107, 3) := by decide +kernel
theorem d_M_letter_46 : decode M_M_letter.2.1 46 = .ok (.iconst (1), 1) := by decide +kernel
theorem d_M_letter_47 : decode M_M_letter.2.1 47 = .ok (.ireturn, 1) := by decide +kernel
theorem d_M_size_0 : decode M_M_size.2.1 0 = .ok (.iload_n 0, 1) := by decide +kernel
theorem d_M_size_1 : decode M_M_size.2.1 1 = .ok (.ifCond .ge (8), 3) := by decide +kernel
theorem d_M_size_4 : decode M_M_size.2.1 4 = .ok (.iload_n 0, 1) := by decide +kernel
theorem d_M_size_5 : decode M_M_size.2.1 5 = .ok (.ineg, 1) := by decide +kernel
theorem d_M_size_6 : decode M_M_size.2.1 6 = .ok (.goto (4), 3) := by decide +kernel
theorem d_M_size_9 : decode M_M_size.2.1 9 = .ok (.iload_n 0, 1) := by decide +kernel
theorem d_M_size_10 : decode M_M_size.2.1 10 = .ok (.ireturn, 1) := by decide +kernel
theorem d_M_braid_0 : decode M_M_braid.2.1 0 = .ok (.iload_n 1, 1) := by decide +kernel
theorem d_M_braid_1 : decode M_M_braid.2.1 1 = .ok (.iconst (1), 1) := by decide +kernel
theorem d_M_braid_2 : decode M_M_braid.2.1 2 = .ok (.if_icmp .lt (8), 3) := by decide +kernel
theorem d_M_braid_5 : decode M_M_braid.2.1 5 = .ok (.iload_n 1, 1) := by decide +kernel
theorem d_M_braid_6 : decode M_M_braid.2.1 6 = .ok (.iconst (4), 1) := by decide +kernel
theorem d_M_braid_7 : decode M_M_braid.2.1 7 = .ok (.if_icmp .le (5), 3) := by decide +kernel
theorem d_M_braid_10 : decode M_M_braid.2.1 10 = .ok (.iconst (0), 1) := by decide +kernel
theorem d_M_braid_11 : decode M_M_braid.2.1 11 = .ok (.ireturn, 1) := by decide +kernel
theorem d_M_braid_12 : decode M_M_braid.2.1 12 = .ok (.iconst (0), 1) := by decide +kernel
theorem d_M_braid_13 : decode M_M_braid.2.1 13 = .ok (.istore_n 2, 1) := by decide +kernel
theorem d_M_braid_14 : decode M_M_braid.2.1 14 = .ok (.iload_n 2, 1) := by decide +kernel
theorem d_M_braid_15 : decode M_M_braid.2.1 15 = .ok (.aload_n 0, 1) := by decide +kernel
theorem d_M_braid_16 : decode M_M_braid.2.1 16 = .ok (.getfield 107, 3) := by decide +kernel
theorem d_M_braid_19 : decode M_M_braid.2.1 19 = .ok (.if_icmp .ge (24), 3) := by decide +kernel
theorem d_M_braid_22 : decode M_M_braid.2.1 22 = .ok (.aload_n 0, 1) := by decide +kernel
theorem d_M_braid_23 : decode M_M_braid.2.1 23 = .ok (.getfield 21, 3) := by decide +kernel
theorem d_M_braid_26 : decode M_M_braid.2.1 26 = .ok (.iload_n 2, 1) := by decide +kernel
theorem d_M_braid_27 : decode M_M_braid.2.1 27 = .ok (.iaload, 1) := by decide +kernel
theorem d_M_braid_28 : decode M_M_braid.2.1 28 = .ok (.invokestatic 110, 3) := by decide +kernel
theorem d_M_braid_31 : decode M_M_braid.2.1 31 = .ok (.iload_n 1, 1) := by decide +kernel
theorem d_M_braid_32 : decode M_M_braid.2.1 32 = .ok (.if_icmp .lt (5), 3) := by decide +kernel
theorem d_M_braid_35 : decode M_M_braid.2.1 35 = .ok (.iconst (0), 1) := by decide +kernel
theorem d_M_braid_36 : decode M_M_braid.2.1 36 = .ok (.ireturn, 1) := by decide +kernel
theorem d_M_braid_37 : decode M_M_braid.2.1 37 = .ok (.iinc 2 (1), 3) := by decide +kernel
theorem d_M_braid_40 : decode M_M_braid.2.1 40 = .ok (.goto (-26), 3) := by decide +kernel
theorem d_M_braid_43 : decode M_M_braid.2.1 43 = .ok (.iconst (1), 1) := by decide +kernel
theorem d_M_braid_44 : decode M_M_braid.2.1 44 = .ok (.istore_n 2, 1) := by decide +kernel
theorem d_M_braid_45 : decode M_M_braid.2.1 45 = .ok (.iload_n 2, 1) := by decide +kernel
theorem d_M_braid_46 : decode M_M_braid.2.1 46 = .ok (.iload_n 1, 1) := by decide +kernel
theorem d_M_braid_47 : decode M_M_braid.2.1 47 = .ok (.if_icmp .gt (16), 3) := by decide +kernel
theorem d_M_braid_50 : decode M_M_braid.2.1 50 = .ok (.aload_n 0, 1) := by decide +kernel
theorem d_M_braid_51 : decode M_M_braid.2.1 51 = .ok (.getfield 49, 3) := by decide +kernel
theorem d_M_braid_54 : decode M_M_braid.2.1 54 = .ok (.iload_n 2, 1) := by decide +kernel
theorem d_M_braid_55 : decode M_M_braid.2.1 55 = .ok (.iload_n 2, 1) := by decide +kernel
theorem d_M_braid_56 : decode M_M_braid.2.1 56 = .ok (.iastore, 1) := by decide +kernel
theorem d_M_braid_57 : decode M_M_braid.2.1 57 = .ok (.iinc 2 (1), 3) := by decide +kernel
theorem d_M_braid_60 : decode M_M_braid.2.1 60 = .ok (.goto (-15), 3) := by decide +kernel
theorem d_M_braid_63 : decode M_M_braid.2.1 63 = .ok (.iconst (0), 1) := by decide +kernel
theorem d_M_braid_64 : decode M_M_braid.2.1 64 = .ok (.istore_n 2, 1) := by decide +kernel
theorem d_M_braid_65 : decode M_M_braid.2.1 65 = .ok (.iload_n 2, 1) := by decide +kernel
theorem d_M_braid_66 : decode M_M_braid.2.1 66 = .ok (.aload_n 0, 1) := by decide +kernel
theorem d_M_braid_67 : decode M_M_braid.2.1 67 = .ok (.getfield 107, 3) := by decide +kernel
theorem d_M_braid_70 : decode M_M_braid.2.1 70 = .ok (.if_icmp .ge (110), 3) := by decide +kernel
theorem d_M_braid_73 : decode M_M_braid.2.1 73 = .ok (.aload_n 0, 1) := by decide +kernel
theorem d_M_braid_74 : decode M_M_braid.2.1 74 = .ok (.getfield 21, 3) := by decide +kernel
theorem d_M_braid_77 : decode M_M_braid.2.1 77 = .ok (.iload_n 2, 1) := by decide +kernel
theorem d_M_braid_78 : decode M_M_braid.2.1 78 = .ok (.iaload, 1) := by decide +kernel
theorem d_M_braid_79 : decode M_M_braid.2.1 79 = .ok (.invokestatic 110, 3) := by decide +kernel
theorem d_M_braid_82 : decode M_M_braid.2.1 82 = .ok (.istore_n 3, 1) := by decide +kernel
theorem d_M_braid_83 : decode M_M_braid.2.1 83 = .ok (.aload_n 0, 1) := by decide +kernel
theorem d_M_braid_84 : decode M_M_braid.2.1 84 = .ok (.getfield 49, 3) := by decide +kernel
theorem d_M_braid_87 : decode M_M_braid.2.1 87 = .ok (.iload_n 3, 1) := by decide +kernel
theorem d_M_braid_88 : decode M_M_braid.2.1 88 = .ok (.iaload, 1) := by decide +kernel
theorem d_M_braid_89 : decode M_M_braid.2.1 89 = .ok (.istore 4, 2) := by decide +kernel
theorem d_M_braid_91 : decode M_M_braid.2.1 91 = .ok (.aload_n 0, 1) := by decide +kernel
theorem d_M_braid_92 : decode M_M_braid.2.1 92 = .ok (.getfield 49, 3) := by decide +kernel
theorem d_M_braid_95 : decode M_M_braid.2.1 95 = .ok (.iload_n 3, 1) := by decide +kernel
theorem d_M_braid_96 : decode M_M_braid.2.1 96 = .ok (.iconst (1), 1) := by decide +kernel
theorem d_M_braid_97 : decode M_M_braid.2.1 97 = .ok (.iadd, 1) := by decide +kernel
theorem d_M_braid_98 : decode M_M_braid.2.1 98 = .ok (.iaload, 1) := by decide +kernel
theorem d_M_braid_99 : decode M_M_braid.2.1 99 = .ok (.istore 5, 2) := by decide +kernel
theorem d_M_braid_101 : decode M_M_braid.2.1 101 = .ok (.iload_n 1, 1) := by decide +kernel
theorem d_M_braid_102 : decode M_M_braid.2.1 102 = .ok (.iconst (1), 1) := by decide +kernel
theorem d_M_braid_103 : decode M_M_braid.2.1 103 = .ok (.iadd, 1) := by decide +kernel
theorem d_M_braid_104 : decode M_M_braid.2.1 104 = .ok (.iconst (2), 1) := by decide +kernel
theorem d_M_braid_105 : decode M_M_braid.2.1 105 = .ok (.iload_n 2, 1) := by decide +kernel
theorem d_M_braid_106 : decode M_M_braid.2.1 106 = .ok (.imul, 1) := by decide +kernel
theorem d_M_braid_107 : decode M_M_braid.2.1 107 = .ok (.iadd, 1) := by decide +kernel
theorem d_M_braid_108 : decode M_M_braid.2.1 108 = .ok (.istore 6, 2) := by decide +kernel
theorem d_M_braid_110 : decode M_M_braid.2.1 110 = .ok (.iload 6, 2) := by decide +kernel
theorem d_M_braid_112 : decode M_M_braid.2.1 112 = .ok (.iconst (1), 1) := by decide +kernel
theorem d_M_braid_113 : decode M_M_braid.2.1 113 = .ok (.iadd, 1) := by decide +kernel
theorem d_M_braid_114 : decode M_M_braid.2.1 114 = .ok (.istore 7, 2) := by decide +kernel
theorem d_M_braid_116 : decode M_M_braid.2.1 116 = .ok (.aload_n 0, 1) := by decide +kernel
theorem d_M_braid_117 : decode M_M_braid.2.1 117 = .ok (.getfield 21, 3) := by decide +kernel
theorem d_M_braid_120 : decode M_M_braid.2.1 120 = .ok (.iload_n 2, 1) := by decide +kernel
theorem d_M_braid_121 : decode M_M_braid.2.1 121 = .ok (.iaload, 1) := by decide +kernel
theorem d_M_braid_122 : decode M_M_braid.2.1 122 = .ok (.ifCond .le (20), 3) := by decide +kernel
theorem d_M_braid_125 : decode M_M_braid.2.1 125 = .ok (.aload_n 0, 1) := by decide +kernel
theorem d_M_braid_126 : decode M_M_braid.2.1 126 = .ok (.iload_n 2, 1) := by decide +kernel
theorem d_M_braid_127 : decode M_M_braid.2.1 127 = .ok (.iload 5, 2) := by decide +kernel
theorem d_M_braid_129 : decode M_M_braid.2.1 129 = .ok (.iload 7, 2) := by decide +kernel
theorem d_M_braid_131 : decode M_M_braid.2.1 131 = .ok (.iload 6, 2) := by decide +kernel
theorem d_M_braid_133 : decode M_M_braid.2.1 133 = .ok (.iload 4, 2) := by decide +kernel
theorem d_M_braid_135 : decode M_M_braid.2.1 135 = .ok (.iconst (1), 1) := by decide +kernel
theorem d_M_braid_136 : decode M_M_braid.2.1 136 = .ok (.invokevirtual 59, 3) := by decide +kernel
theorem d_M_braid_139 : decode M_M_braid.2.1 139 = .ok (.goto (17), 3) := by decide +kernel
theorem d_M_braid_142 : decode M_M_braid.2.1 142 = .ok (.aload_n 0, 1) := by decide +kernel
theorem d_M_braid_143 : decode M_M_braid.2.1 143 = .ok (.iload_n 2, 1) := by decide +kernel
theorem d_M_braid_144 : decode M_M_braid.2.1 144 = .ok (.iload 4, 2) := by decide +kernel
theorem d_M_braid_146 : decode M_M_braid.2.1 146 = .ok (.iload 5, 2) := by decide +kernel
theorem d_M_braid_148 : decode M_M_braid.2.1 148 = .ok (.iload 7, 2) := by decide +kernel
theorem d_M_braid_150 : decode M_M_braid.2.1 150 = .ok (.iload 6, 2) := by decide +kernel
theorem d_M_braid_152 : decode M_M_braid.2.1 152 = .ok (.iconst (0), 1) := by decide +kernel
theorem d_M_braid_153 : decode M_M_braid.2.1 153 = .ok (.invokevirtual 59, 3) := by decide +kernel
theorem d_M_braid_156 : decode M_M_braid.2.1 156 = .ok (.aload_n 0, 1) := by decide +kernel
theorem d_M_braid_157 : decode M_M_braid.2.1 157 = .ok (.getfield 49, 3) := by decide +kernel
theorem d_M_braid_160 : decode M_M_braid.2.1 160 = .ok (.iload_n 3, 1) := by decide +kernel
theorem d_M_braid_161 : decode M_M_braid.2.1 161 = .ok (.iload 6, 2) := by decide +kernel
theorem d_M_braid_163 : decode M_M_braid.2.1 163 = .ok (.iastore, 1) := by decide +kernel
theorem d_M_braid_164 : decode M_M_braid.2.1 164 = .ok (.aload_n 0, 1) := by decide +kernel
theorem d_M_braid_165 : decode M_M_braid.2.1 165 = .ok (.getfield 49, 3) := by decide +kernel
theorem d_M_braid_168 : decode M_M_braid.2.1 168 = .ok (.iload_n 3, 1) := by decide +kernel
theorem d_M_braid_169 : decode M_M_braid.2.1 169 = .ok (.iconst (1), 1) := by decide +kernel
theorem d_M_braid_170 : decode M_M_braid.2.1 170 = .ok (.iadd, 1) := by decide +kernel
theorem d_M_braid_171 : decode M_M_braid.2.1 171 = .ok (.iload 7, 2) := by decide +kernel
theorem d_M_braid_173 : decode M_M_braid.2.1 173 = .ok (.iastore, 1) := by decide +kernel
theorem d_M_braid_174 : decode M_M_braid.2.1 174 = .ok (.iinc 2 (1), 3) := by decide +kernel
theorem d_M_braid_177 : decode M_M_braid.2.1 177 = .ok (.goto (-112), 3) := by decide +kernel
theorem d_M_braid_180 : decode M_M_braid.2.1 180 = .ok (.aload_n 0, 1) := by decide +kernel
theorem d_M_braid_181 : decode M_M_braid.2.1 181 = .ok (.aload_n 0, 1) := by decide +kernel
theorem d_M_braid_182 : decode M_M_braid.2.1 182 = .ok (.getfield 107, 3) := by decide +kernel
theorem d_M_braid_185 : decode M_M_braid.2.1 185 = .ok (.putfield 66, 3) := by decide +kernel
theorem d_M_braid_188 : decode M_M_braid.2.1 188 = .ok (.aload_n 0, 1) := by decide +kernel
theorem d_M_braid_189 : decode M_M_braid.2.1 189 = .ok (.iconst (0), 1) := by decide +kernel
theorem d_M_braid_190 : decode M_M_braid.2.1 190 = .ok (.putfield 107, 3) := by decide +kernel
theorem d_M_braid_193 : decode M_M_braid.2.1 193 = .ok (.aload_n 0, 1) := by decide +kernel
theorem d_M_braid_194 : decode M_M_braid.2.1 194 = .ok (.iconst (0), 1) := by decide +kernel
theorem d_M_braid_195 : decode M_M_braid.2.1 195 = .ok (.putfield 17, 3) := by decide +kernel
theorem d_M_braid_198 : decode M_M_braid.2.1 198 = .ok (.iconst (1), 1) := by decide +kernel
theorem d_M_braid_199 : decode M_M_braid.2.1 199 = .ok (.istore_n 2, 1) := by decide +kernel
theorem d_M_braid_200 : decode M_M_braid.2.1 200 = .ok (.iload_n 2, 1) := by decide +kernel
theorem d_M_braid_201 : decode M_M_braid.2.1 201 = .ok (.iload_n 1, 1) := by decide +kernel
theorem d_M_braid_202 : decode M_M_braid.2.1 202 = .ok (.if_icmp .gt (78), 3) := by decide +kernel
theorem d_M_braid_205 : decode M_M_braid.2.1 205 = .ok (.aload_n 0, 1) := by decide +kernel
theorem d_M_braid_206 : decode M_M_braid.2.1 206 = .ok (.getfield 49, 3) := by decide +kernel
theorem d_M_braid_209 : decode M_M_braid.2.1 209 = .ok (.iload_n 2, 1) := by decide +kernel
theorem d_M_braid_210 : decode M_M_braid.2.1 210 = .ok (.iaload, 1) := by decide +kernel
theorem d_M_braid_211 : decode M_M_braid.2.1 211 = .ok (.iload_n 2, 1) := by decide +kernel
theorem d_M_braid_212 : decode M_M_braid.2.1 212 = .ok (.if_icmp .ne (13), 3) := by decide +kernel
theorem d_M_braid_215 : decode M_M_braid.2.1 215 = .ok (.aload_n 0, 1) := by decide +kernel
theorem d_M_braid_216 : decode M_M_braid.2.1 216 = .ok (.dup, 1) := by decide +kernel
theorem d_M_braid_217 : decode M_M_braid.2.1 217 = .ok (.getfield 17, 3) := by decide +kernel
theorem d_M_braid_220 : decode M_M_braid.2.1 220 = .ok (.iconst (1), 1) := by decide +kernel
theorem d_M_braid_221 : decode M_M_braid.2.1 221 = .ok (.iadd, 1) := by decide +kernel
theorem d_M_braid_222 : decode M_M_braid.2.1 222 = .ok (.putfield 17, 3) := by decide +kernel
theorem d_M_braid_225 : decode M_M_braid.2.1 225 = .ok (.iconst (0), 1) := by decide +kernel
theorem d_M_braid_226 : decode M_M_braid.2.1 226 = .ok (.istore_n 3, 1) := by decide +kernel
theorem d_M_braid_227 : decode M_M_braid.2.1 227 = .ok (.iload_n 3, 1) := by decide +kernel
theorem d_M_braid_228 : decode M_M_braid.2.1 228 = .ok (.iconst (4), 1) := by decide +kernel
theorem d_M_braid_229 : decode M_M_braid.2.1 229 = .ok (.aload_n 0, 1) := by decide +kernel
theorem d_M_braid_230 : decode M_M_braid.2.1 230 = .ok (.getfield 66, 3) := by decide +kernel
theorem d_M_braid_233 : decode M_M_braid.2.1 233 = .ok (.imul, 1) := by decide +kernel
theorem d_M_braid_234 : decode M_M_braid.2.1 234 = .ok (.if_icmp .ge (40), 3) := by decide +kernel
theorem d_M_braid_237 : decode M_M_braid.2.1 237 = .ok (.aload_n 0, 1) := by decide +kernel
theorem d_M_braid_238 : decode M_M_braid.2.1 238 = .ok (.getfield 7, 3) := by decide +kernel
theorem d_M_braid_241 : decode M_M_braid.2.1 241 = .ok (.iload_n 3, 1) := by decide +kernel
theorem d_M_braid_242 : decode M_M_braid.2.1 242 = .ok (.aload_n 0, 1) := by decide +kernel
theorem d_M_braid_243 : decode M_M_braid.2.1 243 = .ok (.getfield 7, 3) := by decide +kernel
theorem d_M_braid_246 : decode M_M_braid.2.1 246 = .ok (.iload_n 3, 1) := by decide +kernel
theorem d_M_braid_247 : decode M_M_braid.2.1 247 = .ok (.iaload, 1) := by decide +kernel
theorem d_M_braid_248 : decode M_M_braid.2.1 248 = .ok (.aload_n 0, 1) := by decide +kernel
theorem d_M_braid_249 : decode M_M_braid.2.1 249 = .ok (.getfield 49, 3) := by decide +kernel
theorem d_M_braid_252 : decode M_M_braid.2.1 252 = .ok (.iload_n 2, 1) := by decide +kernel
theorem d_M_braid_253 : decode M_M_braid.2.1 253 = .ok (.iaload, 1) := by decide +kernel
theorem d_M_braid_254 : decode M_M_braid.2.1 254 = .ok (.if_icmp .ne (7), 3) := by decide +kernel
theorem d_M_braid_257 : decode M_M_braid.2.1 257 = .ok (.iload_n 2, 1) := by decide +kernel
theorem d_M_braid_258 : decode M_M_braid.2.1 258 = .ok (.goto (9), 3) := by decide +kernel
theorem d_M_braid_261 : decode M_M_braid.2.1 261 = .ok (.aload_n 0, 1) := by decide +kernel
theorem d_M_braid_262 : decode M_M_braid.2.1 262 = .ok (.getfield 7, 3) := by decide +kernel
theorem d_M_braid_265 : decode M_M_braid.2.1 265 = .ok (.iload_n 3, 1) := by decide +kernel
theorem d_M_braid_266 : decode M_M_braid.2.1 266 = .ok (.iaload, 1) := by decide +kernel
theorem d_M_braid_267 : decode M_M_braid.2.1 267 = .ok (.iastore, 1) := by decide +kernel
theorem d_M_braid_268 : decode M_M_braid.2.1 268 = .ok (.iinc 3 (1), 3) := by decide +kernel
theorem d_M_braid_271 : decode M_M_braid.2.1 271 = .ok (.goto (-44), 3) := by decide +kernel
theorem d_M_braid_274 : decode M_M_braid.2.1 274 = .ok (.iinc 2 (1), 3) := by decide +kernel
theorem d_M_braid_277 : decode M_M_braid.2.1 277 = .ok (.goto (-77), 3) := by decide +kernel
theorem d_M_braid_280 : decode M_M_braid.2.1 280 = .ok (.iconst (1), 1) := by decide +kernel
theorem d_M_braid_281 : decode M_M_braid.2.1 281 = .ok (.ireturn, 1) := by decide +kernel
theorem d_M_rounds_0 : decode M_M_rounds.2.1 0 = .ok (.aload_n 0, 1) := by decide +kernel
theorem d_M_rounds_1 : decode M_M_rounds.2.1 1 = .ok (.iconst (0), 1) := by decide +kernel
theorem d_M_rounds_2 : decode M_M_rounds.2.1 2 = .ok (.invokevirtual 92, 3) := by decide +kernel
theorem d_M_rounds_5 : decode M_M_rounds.2.1 5 = .ok (.aload_n 0, 1) := by decide +kernel
theorem d_M_rounds_6 : decode M_M_rounds.2.1 6 = .ok (.invokevirtual 85, 3) := by decide +kernel
theorem d_M_rounds_9 : decode M_M_rounds.2.1 9 = .ok (.iconst (0), 1) := by decide +kernel
theorem d_M_rounds_10 : decode M_M_rounds.2.1 10 = .ok (.istore_n 2, 1) := by decide +kernel
theorem d_M_rounds_11 : decode M_M_rounds.2.1 11 = .ok (.iconst (0), 1) := by decide +kernel
theorem d_M_rounds_12 : decode M_M_rounds.2.1 12 = .ok (.istore_n 3, 1) := by decide +kernel
theorem d_M_rounds_13 : decode M_M_rounds.2.1 13 = .ok (.iload_n 3, 1) := by decide +kernel
theorem d_M_rounds_14 : decode M_M_rounds.2.1 14 = .ok (.iconst (4), 1) := by decide +kernel
theorem d_M_rounds_15 : decode M_M_rounds.2.1 15 = .ok (.aload_n 0, 1) := by decide +kernel
theorem d_M_rounds_16 : decode M_M_rounds.2.1 16 = .ok (.getfield 66, 3) := by decide +kernel
theorem d_M_rounds_19 : decode M_M_rounds.2.1 19 = .ok (.imul, 1) := by decide +kernel
theorem d_M_rounds_20 : decode M_M_rounds.2.1 20 = .ok (.if_icmp .ge (69), 3) := by decide +kernel
theorem d_M_rounds_23 : decode M_M_rounds.2.1 23 = .ok (.aload_n 0, 1) := by decide +kernel
theorem d_M_rounds_24 : decode M_M_rounds.2.1 24 = .ok (.getfield 24, 3) := by decide +kernel
theorem d_M_rounds_27 : decode M_M_rounds.2.1 27 = .ok (.iload_n 3, 1) := by decide +kernel
theorem d_M_rounds_28 : decode M_M_rounds.2.1 28 = .ok (.baload, 1) := by decide +kernel
theorem d_M_rounds_29 : decode M_M_rounds.2.1 29 = .ok (.ifCond .ne (54), 3) := by decide +kernel
theorem d_M_rounds_32 : decode M_M_rounds.2.1 32 = .ok (.iinc 2 (1), 3) := by decide +kernel
theorem d_M_rounds_35 : decode M_M_rounds.2.1 35 = .ok (.iload_n 3, 1) := by decide +kernel
theorem d_M_rounds_36 : decode M_M_rounds.2.1 36 = .ok (.istore 4, 2) := by decide +kernel
theorem d_M_rounds_38 : decode M_M_rounds.2.1 38 = .ok (.aload_n 0, 1) := by decide +kernel
theorem d_M_rounds_39 : decode M_M_rounds.2.1 39 = .ok (.getfield 24, 3) := by decide +kernel
theorem d_M_rounds_42 : decode M_M_rounds.2.1 42 = .ok (.iload 4, 2) := by decide +kernel
theorem d_M_rounds_44 : decode M_M_rounds.2.1 44 = .ok (.baload, 1) := by decide +kernel
theorem d_M_rounds_45 : decode M_M_rounds.2.1 45 = .ok (.ifCond .ne (38), 3) := by decide +kernel
theorem d_M_rounds_48 : decode M_M_rounds.2.1 48 = .ok (.aload_n 0, 1) := by decide +kernel
theorem d_M_rounds_49 : decode M_M_rounds.2.1 49 = .ok (.getfield 24, 3) := by decide +kernel
theorem d_M_rounds_52 : decode M_M_rounds.2.1 52 = .ok (.iload 4, 2) := by decide +kernel
theorem d_M_rounds_54 : decode M_M_rounds.2.1 54 = .ok (.iconst (1), 1) := by decide +kernel
theorem d_M_rounds_55 : decode M_M_rounds.2.1 55 = .ok (.bastore, 1) := by decide +kernel
theorem d_M_rounds_56 : decode M_M_rounds.2.1 56 = .ok (.aload_n 0, 1) := by decide +kernel
theorem d_M_rounds_57 : decode M_M_rounds.2.1 57 = .ok (.iload 4, 2) := by decide +kernel
theorem d_M_rounds_59 : decode M_M_rounds.2.1 59 = .ok (.invokevirtual 72, 3) := by decide +kernel
theorem d_M_rounds_62 : decode M_M_rounds.2.1 62 = .ok (.istore 5, 2) := by decide +kernel
theorem d_M_rounds_64 : decode M_M_rounds.2.1 64 = .ok (.aload_n 0, 1) := by decide +kernel
theorem d_M_rounds_65 : decode M_M_rounds.2.1 65 = .ok (.getfield 24, 3) := by decide +kernel
theorem d_M_rounds_68 : decode M_M_rounds.2.1 68 = .ok (.iload 5, 2) := by decide +kernel
theorem d_M_rounds_70 : decode M_M_rounds.2.1 70 = .ok (.iconst (1), 1) := by decide +kernel
theorem d_M_rounds_71 : decode M_M_rounds.2.1 71 = .ok (.bastore, 1) := by decide +kernel
theorem d_M_rounds_72 : decode M_M_rounds.2.1 72 = .ok (.iload 5, 2) := by decide +kernel
theorem d_M_rounds_74 : decode M_M_rounds.2.1 74 = .ok (.iload_n 1, 1) := by decide +kernel
theorem d_M_rounds_75 : decode M_M_rounds.2.1 75 = .ok (.invokestatic 113, 3) := by decide +kernel
theorem d_M_rounds_78 : decode M_M_rounds.2.1 78 = .ok (.istore 4, 2) := by decide +kernel
theorem d_M_rounds_80 : decode M_M_rounds.2.1 80 = .ok (.goto (-42), 3) := by decide +kernel
theorem d_M_rounds_83 : decode M_M_rounds.2.1 83 = .ok (.iinc 3 (1), 3) := by decide +kernel
theorem d_M_rounds_86 : decode M_M_rounds.2.1 86 = .ok (.goto (-73), 3) := by decide +kernel
theorem d_M_rounds_89 : decode M_M_rounds.2.1 89 = .ok (.iload_n 2, 1) := by decide +kernel
theorem d_M_rounds_90 : decode M_M_rounds.2.1 90 = .ok (.ireturn, 1) := by decide +kernel
theorem d_M_through_0 : decode M_M_through.2.1 0 = .ok (.iload_n 0, 1) := by decide +kernel
theorem d_M_through_1 : decode M_M_through.2.1 1 = .ok (.iconst (4), 1) := by decide +kernel
theorem d_M_through_2 : decode M_M_through.2.1 2 = .ok (.irem, 1) := by decide +kernel
theorem d_M_through_3 : decode M_M_through.2.1 3 = .ok (.istore_n 2, 1) := by decide +kernel
theorem d_M_through_4 : decode M_M_through.2.1 4 = .ok (.iload_n 1, 1) := by decide +kernel
theorem d_M_through_5 : decode M_M_through.2.1 5 = .ok (.ifCond .ne (13), 3) := by decide +kernel
theorem d_M_through_8 : decode M_M_through.2.1 8 = .ok (.iload_n 0, 1) := by decide +kernel
theorem d_M_through_9 : decode M_M_through.2.1 9 = .ok (.iload_n 2, 1) := by decide +kernel
theorem d_M_through_10 : decode M_M_through.2.1 10 = .ok (.isub, 1) := by decide +kernel
theorem d_M_through_11 : decode M_M_through.2.1 11 = .ok (.iload_n 2, 1) := by decide +kernel
theorem d_M_through_12 : decode M_M_through.2.1 12 = .ok (.iconst (2), 1) := by decide +kernel
theorem d_M_through_13 : decode M_M_through.2.1 13 = .ok (.iadd, 1) := by decide +kernel
theorem d_M_through_14 : decode M_M_through.2.1 14 = .ok (.iconst (4), 1) := by decide +kernel
theorem d_M_through_15 : decode M_M_through.2.1 15 = .ok (.irem, 1) := by decide +kernel
theorem d_M_through_16 : decode M_M_through.2.1 16 = .ok (.iadd, 1) := by decide +kernel
theorem d_M_through_17 : decode M_M_through.2.1 17 = .ok (.ireturn, 1) := by decide +kernel
theorem d_M_through_18 : decode M_M_through.2.1 18 = .ok (.iload_n 1, 1) := by decide +kernel
theorem d_M_through_19 : decode M_M_through.2.1 19 = .ok (.iconst (1), 1) := by decide +kernel
theorem d_M_through_20 : decode M_M_through.2.1 20 = .ok (.isub, 1) := by decide +kernel
theorem d_M_through_21 : decode M_M_through.2.1 21 = .ok (.iload_n 0, 1) := by decide +kernel
theorem d_M_through_22 : decode M_M_through.2.1 22 = .ok (.iconst (4), 1) := by decide +kernel
theorem d_M_through_23 : decode M_M_through.2.1 23 = .ok (.idiv, 1) := by decide +kernel
theorem d_M_through_24 : decode M_M_through.2.1 24 = .ok (.ishr, 1) := by decide +kernel
theorem d_M_through_25 : decode M_M_through.2.1 25 = .ok (.iconst (1), 1) := by decide +kernel
theorem d_M_through_26 : decode M_M_through.2.1 26 = .ok (.iand, 1) := by decide +kernel
theorem d_M_through_27 : decode M_M_through.2.1 27 = .ok (.iconst (1), 1) := by decide +kernel
theorem d_M_through_28 : decode M_M_through.2.1 28 = .ok (.if_icmp .ne (7), 3) := by decide +kernel
theorem d_M_through_31 : decode M_M_through.2.1 31 = .ok (.iconst (1), 1) := by decide +kernel
theorem d_M_through_32 : decode M_M_through.2.1 32 = .ok (.goto (4), 3) := by decide +kernel
theorem d_M_through_35 : decode M_M_through.2.1 35 = .ok (.iconst (0), 1) := by decide +kernel
theorem d_M_through_36 : decode M_M_through.2.1 36 = .ok (.istore_n 3, 1) := by decide +kernel
theorem d_M_through_37 : decode M_M_through.2.1 37 = .ok (.iload_n 3, 1) := by decide +kernel
theorem d_M_through_38 : decode M_M_through.2.1 38 = .ok (.ifCond .eq (25), 3) := by decide +kernel
theorem d_M_through_41 : decode M_M_through.2.1 41 = .ok (.iload_n 0, 1) := by decide +kernel
theorem d_M_through_42 : decode M_M_through.2.1 42 = .ok (.iload_n 2, 1) := by decide +kernel
theorem d_M_through_43 : decode M_M_through.2.1 43 = .ok (.isub, 1) := by decide +kernel
theorem d_M_through_44 : decode M_M_through.2.1 44 = .ok (.iload_n 2, 1) := by decide +kernel
theorem d_M_through_45 : decode M_M_through.2.1 45 = .ok (.iconst (2), 1) := by decide +kernel
theorem d_M_through_46 : decode M_M_through.2.1 46 = .ok (.irem, 1) := by decide +kernel
theorem d_M_through_47 : decode M_M_through.2.1 47 = .ok (.ifCond .ne (9), 3) := by decide +kernel
theorem d_M_through_50 : decode M_M_through.2.1 50 = .ok (.iload_n 2, 1) := by decide +kernel
theorem d_M_through_51 : decode M_M_through.2.1 51 = .ok (.iconst (1), 1) := by decide +kernel
theorem d_M_through_52 : decode M_M_through.2.1 52 = .ok (.iadd, 1) := by decide +kernel
theorem d_M_through_53 : decode M_M_through.2.1 53 = .ok (.goto (6), 3) := by decide +kernel
theorem d_M_through_56 : decode M_M_through.2.1 56 = .ok (.iload_n 2, 1) := by decide +kernel
theorem d_M_through_57 : decode M_M_through.2.1 57 = .ok (.iconst (1), 1) := by decide +kernel
theorem d_M_through_58 : decode M_M_through.2.1 58 = .ok (.isub, 1) := by decide +kernel
theorem d_M_through_59 : decode M_M_through.2.1 59 = .ok (.iadd, 1) := by decide +kernel
theorem d_M_through_60 : decode M_M_through.2.1 60 = .ok (.goto (10), 3) := by decide +kernel
theorem d_M_through_63 : decode M_M_through.2.1 63 = .ok (.iload_n 0, 1) := by decide +kernel
theorem d_M_through_64 : decode M_M_through.2.1 64 = .ok (.iload_n 2, 1) := by decide +kernel
theorem d_M_through_65 : decode M_M_through.2.1 65 = .ok (.isub, 1) := by decide +kernel
theorem d_M_through_66 : decode M_M_through.2.1 66 = .ok (.iconst (3), 1) := by decide +kernel
theorem d_M_through_67 : decode M_M_through.2.1 67 = .ok (.iadd, 1) := by decide +kernel
theorem d_M_through_68 : decode M_M_through.2.1 68 = .ok (.iload_n 2, 1) := by decide +kernel
theorem d_M_through_69 : decode M_M_through.2.1 69 = .ok (.isub, 1) := by decide +kernel
theorem d_M_through_70 : decode M_M_through.2.1 70 = .ok (.ireturn, 1) := by decide +kernel
theorem d_M_writhe_0 : decode M_M_writhe.2.1 0 = .ok (.iconst (0), 1) := by decide +kernel
theorem d_M_writhe_1 : decode M_M_writhe.2.1 1 = .ok (.istore_n 1, 1) := by decide +kernel
theorem d_M_writhe_2 : decode M_M_writhe.2.1 2 = .ok (.iconst (0), 1) := by decide +kernel
theorem d_M_writhe_3 : decode M_M_writhe.2.1 3 = .ok (.istore_n 2, 1) := by decide +kernel
theorem d_M_writhe_4 : decode M_M_writhe.2.1 4 = .ok (.iload_n 2, 1) := by decide +kernel
theorem d_M_writhe_5 : decode M_M_writhe.2.1 5 = .ok (.aload_n 0, 1) := by decide +kernel
theorem d_M_writhe_6 : decode M_M_writhe.2.1 6 = .ok (.getfield 66, 3) := by decide +kernel
theorem d_M_writhe_9 : decode M_M_writhe.2.1 9 = .ok (.if_icmp .ge (28), 3) := by decide +kernel
theorem d_M_writhe_12 : decode M_M_writhe.2.1 12 = .ok (.aload_n 0, 1) := by decide +kernel
theorem d_M_writhe_13 : decode M_M_writhe.2.1 13 = .ok (.getfield 13, 3) := by decide +kernel
theorem d_M_writhe_16 : decode M_M_writhe.2.1 16 = .ok (.iload_n 2, 1) := by decide +kernel
theorem d_M_writhe_17 : decode M_M_writhe.2.1 17 = .ok (.baload, 1) := by decide +kernel
theorem d_M_writhe_18 : decode M_M_writhe.2.1 18 = .ok (.ifCond .eq (9), 3) := by decide +kernel
theorem d_M_writhe_21 : decode M_M_writhe.2.1 21 = .ok (.iload_n 1, 1) := by decide +kernel
theorem d_M_writhe_22 : decode M_M_writhe.2.1 22 = .ok (.iconst (1), 1) := by decide +kernel
theorem d_M_writhe_23 : decode M_M_writhe.2.1 23 = .ok (.iadd, 1) := by decide +kernel
theorem d_M_writhe_24 : decode M_M_writhe.2.1 24 = .ok (.goto (6), 3) := by decide +kernel
theorem d_M_writhe_27 : decode M_M_writhe.2.1 27 = .ok (.iload_n 1, 1) := by decide +kernel
theorem d_M_writhe_28 : decode M_M_writhe.2.1 28 = .ok (.iconst (1), 1) := by decide +kernel
theorem d_M_writhe_29 : decode M_M_writhe.2.1 29 = .ok (.isub, 1) := by decide +kernel
theorem d_M_writhe_30 : decode M_M_writhe.2.1 30 = .ok (.istore_n 1, 1) := by decide +kernel
theorem d_M_writhe_31 : decode M_M_writhe.2.1 31 = .ok (.iinc 2 (1), 3) := by decide +kernel
theorem d_M_writhe_34 : decode M_M_writhe.2.1 34 = .ok (.goto (-30), 3) := by decide +kernel
theorem d_M_writhe_37 : decode M_M_writhe.2.1 37 = .ok (.iload_n 1, 1) := by decide +kernel
theorem d_M_writhe_38 : decode M_M_writhe.2.1 38 = .ok (.ireturn, 1) := by decide +kernel
theorem d_M_count_0 : decode M_M_count.2.1 0 = .ok (.aload_n 0, 1) := by decide +kernel
theorem d_M_count_1 : decode M_M_count.2.1 1 = .ok (.iconst (0), 1) := by decide +kernel
theorem d_M_count_2 : decode M_M_count.2.1 2 = .ok (.invokevirtual 92, 3) := by decide +kernel
theorem d_M_count_5 : decode M_M_count.2.1 5 = .ok (.iload_n 1, 1) := by decide +kernel
theorem d_M_count_6 : decode M_M_count.2.1 6 = .ok (.tableswitch (74) (0) (5) #[38, 43, 48, 59, 64, 69], 38) := by decide +kernel
theorem d_M_count_44 : decode M_M_count.2.1 44 = .ok (.aload_n 0, 1) := by decide +kernel
theorem d_M_count_45 : decode M_M_count.2.1 45 = .ok (.getfield 66, 3) := by decide +kernel
theorem d_M_count_48 : decode M_M_count.2.1 48 = .ok (.ireturn, 1) := by decide +kernel
theorem d_M_count_49 : decode M_M_count.2.1 49 = .ok (.aload_n 0, 1) := by decide +kernel
theorem d_M_count_50 : decode M_M_count.2.1 50 = .ok (.getfield 17, 3) := by decide +kernel
theorem d_M_count_53 : decode M_M_count.2.1 53 = .ok (.ireturn, 1) := by decide +kernel
theorem d_M_count_54 : decode M_M_count.2.1 54 = .ok (.aload_n 0, 1) := by decide +kernel
theorem d_M_count_55 : decode M_M_count.2.1 55 = .ok (.iconst (0), 1) := by decide +kernel
theorem d_M_count_56 : decode M_M_count.2.1 56 = .ok (.invokevirtual 117, 3) := by decide +kernel
theorem d_M_count_59 : decode M_M_count.2.1 59 = .ok (.aload_n 0, 1) := by decide +kernel
theorem d_M_count_60 : decode M_M_count.2.1 60 = .ok (.getfield 17, 3) := by decide +kernel
theorem d_M_count_63 : decode M_M_count.2.1 63 = .ok (.iadd, 1) := by decide +kernel
theorem d_M_count_64 : decode M_M_count.2.1 64 = .ok (.ireturn, 1) := by decide +kernel
theorem d_M_count_65 : decode M_M_count.2.1 65 = .ok (.aload_n 0, 1) := by decide +kernel
theorem d_M_count_66 : decode M_M_count.2.1 66 = .ok (.invokevirtual 120, 3) := by decide +kernel
theorem d_M_count_69 : decode M_M_count.2.1 69 = .ok (.ireturn, 1) := by decide +kernel
theorem d_M_count_70 : decode M_M_count.2.1 70 = .ok (.aload_n 0, 1) := by decide +kernel
theorem d_M_count_71 : decode M_M_count.2.1 71 = .ok (.invokevirtual 100, 3) := by decide +kernel
theorem d_M_count_74 : decode M_M_count.2.1 74 = .ok (.ireturn, 1) := by decide +kernel
theorem d_M_count_75 : decode M_M_count.2.1 75 = .ok (.aload_n 0, 1) := by decide +kernel
theorem d_M_count_76 : decode M_M_count.2.1 76 = .ok (.invokevirtual 104, 3) := by decide +kernel
theorem d_M_count_79 : decode M_M_count.2.1 79 = .ok (.ireturn, 1) := by decide +kernel
theorem d_M_count_80 : decode M_M_count.2.1 80 = .ok (.bipush (-100), 2) := by decide +kernel
theorem d_M_count_82 : decode M_M_count.2.1 82 = .ok (.ireturn, 1) := by decide +kernel
theorem d_M_end_0 : decode M_M_end.2.1 0 = .ok (.iload_n 1, 1) := by decide +kernel
theorem d_M_end_1 : decode M_M_end.2.1 1 = .ok (.ifCond .lt (20), 3) := by decide +kernel
theorem d_M_end_4 : decode M_M_end.2.1 4 = .ok (.iload_n 1, 1) := by decide +kernel
theorem d_M_end_5 : decode M_M_end.2.1 5 = .ok (.aload_n 0, 1) := by decide +kernel
theorem d_M_end_6 : decode M_M_end.2.1 6 = .ok (.getfield 66, 3) := by decide +kernel
theorem d_M_end_9 : decode M_M_end.2.1 9 = .ok (.if_icmp .ge (12), 3) := by decide +kernel
theorem d_M_end_12 : decode M_M_end.2.1 12 = .ok (.iload_n 2, 1) := by decide +kernel
theorem d_M_end_13 : decode M_M_end.2.1 13 = .ok (.ifCond .lt (8), 3) := by decide +kernel
theorem d_M_end_16 : decode M_M_end.2.1 16 = .ok (.iload_n 2, 1) := by decide +kernel
theorem d_M_end_17 : decode M_M_end.2.1 17 = .ok (.iconst (4), 1) := by decide +kernel
theorem d_M_end_18 : decode M_M_end.2.1 18 = .ok (.if_icmp .le (6), 3) := by decide +kernel
theorem d_M_end_21 : decode M_M_end.2.1 21 = .ok (.bipush (-100), 2) := by decide +kernel
theorem d_M_end_23 : decode M_M_end.2.1 23 = .ok (.ireturn, 1) := by decide +kernel
theorem d_M_end_24 : decode M_M_end.2.1 24 = .ok (.iload_n 2, 1) := by decide +kernel
theorem d_M_end_25 : decode M_M_end.2.1 25 = .ok (.iconst (4), 1) := by decide +kernel
theorem d_M_end_26 : decode M_M_end.2.1 26 = .ok (.if_icmp .ge (16), 3) := by decide +kernel
theorem d_M_end_29 : decode M_M_end.2.1 29 = .ok (.aload_n 0, 1) := by decide +kernel
theorem d_M_end_30 : decode M_M_end.2.1 30 = .ok (.getfield 7, 3) := by decide +kernel
theorem d_M_end_33 : decode M_M_end.2.1 33 = .ok (.iconst (4), 1) := by decide +kernel
theorem d_M_end_34 : decode M_M_end.2.1 34 = .ok (.iload_n 1, 1) := by decide +kernel
theorem d_M_end_35 : decode M_M_end.2.1 35 = .ok (.imul, 1) := by decide +kernel
theorem d_M_end_36 : decode M_M_end.2.1 36 = .ok (.iload_n 2, 1) := by decide +kernel
theorem d_M_end_37 : decode M_M_end.2.1 37 = .ok (.iadd, 1) := by decide +kernel
theorem d_M_end_38 : decode M_M_end.2.1 38 = .ok (.iaload, 1) := by decide +kernel
theorem d_M_end_39 : decode M_M_end.2.1 39 = .ok (.goto (17), 3) := by decide +kernel
theorem d_M_end_42 : decode M_M_end.2.1 42 = .ok (.aload_n 0, 1) := by decide +kernel
theorem d_M_end_43 : decode M_M_end.2.1 43 = .ok (.getfield 13, 3) := by decide +kernel
theorem d_M_end_46 : decode M_M_end.2.1 46 = .ok (.iload_n 1, 1) := by decide +kernel
theorem d_M_end_47 : decode M_M_end.2.1 47 = .ok (.baload, 1) := by decide +kernel
theorem d_M_end_48 : decode M_M_end.2.1 48 = .ok (.ifCond .eq (7), 3) := by decide +kernel
theorem d_M_end_51 : decode M_M_end.2.1 51 = .ok (.iconst (1), 1) := by decide +kernel
theorem d_M_end_52 : decode M_M_end.2.1 52 = .ok (.goto (4), 3) := by decide +kernel
theorem d_M_end_55 : decode M_M_end.2.1 55 = .ok (.iconst (-1), 1) := by decide +kernel
theorem d_M_end_56 : decode M_M_end.2.1 56 = .ok (.ireturn, 1) := by decide +kernel
theorem d_M_doubleLoop_0 : decode M_M_doubleLoop.2.1 0 = .ok (.iconst (0), 1) := by decide +kernel
theorem d_M_doubleLoop_1 : decode M_M_doubleLoop.2.1 1 = .ok (.istore_n 1, 1) := by decide +kernel
theorem d_M_doubleLoop_2 : decode M_M_doubleLoop.2.1 2 = .ok (.iload_n 1, 1) := by decide +kernel
theorem d_M_doubleLoop_3 : decode M_M_doubleLoop.2.1 3 = .ok (.sipush (257), 3) := by decide +kernel
theorem d_M_doubleLoop_6 : decode M_M_doubleLoop.2.1 6 = .ok (.if_icmp .ge (59), 3) := by decide +kernel
theorem d_M_doubleLoop_9 : decode M_M_doubleLoop.2.1 9 = .ok (.iload_n 1, 1) := by decide +kernel
theorem d_M_doubleLoop_10 : decode M_M_doubleLoop.2.1 10 = .ok (.iconst (2), 1) := by decide +kernel
theorem d_M_doubleLoop_11 : decode M_M_doubleLoop.2.1 11 = .ok (.if_icmp .lt (14), 3) := by decide +kernel
theorem d_M_doubleLoop_14 : decode M_M_doubleLoop.2.1 14 = .ok (.aload_n 0, 1) := by decide +kernel
theorem d_M_doubleLoop_15 : decode M_M_doubleLoop.2.1 15 = .ok (.getfield 31, 3) := by decide +kernel
theorem d_M_doubleLoop_18 : decode M_M_doubleLoop.2.1 18 = .ok (.iload_n 1, 1) := by decide +kernel
theorem d_M_doubleLoop_19 : decode M_M_doubleLoop.2.1 19 = .ok (.iconst (2), 1) := by decide +kernel
theorem d_M_doubleLoop_20 : decode M_M_doubleLoop.2.1 20 = .ok (.isub, 1) := by decide +kernel
theorem d_M_doubleLoop_21 : decode M_M_doubleLoop.2.1 21 = .ok (.laload, 1) := by decide +kernel
theorem d_M_doubleLoop_22 : decode M_M_doubleLoop.2.1 22 = .ok (.goto (4), 3) := by decide +kernel
theorem d_M_doubleLoop_25 : decode M_M_doubleLoop.2.1 25 = .ok (.lconst 0, 1) := by decide +kernel
theorem d_M_doubleLoop_26 : decode M_M_doubleLoop.2.1 26 = .ok (.lstore_n 2, 1) := by decide +kernel
theorem d_M_doubleLoop_27 : decode M_M_doubleLoop.2.1 27 = .ok (.iload_n 1, 1) := by decide +kernel
theorem d_M_doubleLoop_28 : decode M_M_doubleLoop.2.1 28 = .ok (.sipush (254), 3) := by decide +kernel
theorem d_M_doubleLoop_31 : decode M_M_doubleLoop.2.1 31 = .ok (.if_icmp .gt (14), 3) := by decide +kernel
theorem d_M_doubleLoop_34 : decode M_M_doubleLoop.2.1 34 = .ok (.aload_n 0, 1) := by decide +kernel
theorem d_M_doubleLoop_35 : decode M_M_doubleLoop.2.1 35 = .ok (.getfield 31, 3) := by decide +kernel
theorem d_M_doubleLoop_38 : decode M_M_doubleLoop.2.1 38 = .ok (.iload_n 1, 1) := by decide +kernel
theorem d_M_doubleLoop_39 : decode M_M_doubleLoop.2.1 39 = .ok (.iconst (2), 1) := by decide +kernel
theorem d_M_doubleLoop_40 : decode M_M_doubleLoop.2.1 40 = .ok (.iadd, 1) := by decide +kernel
theorem d_M_doubleLoop_41 : decode M_M_doubleLoop.2.1 41 = .ok (.laload, 1) := by decide +kernel
theorem d_M_doubleLoop_42 : decode M_M_doubleLoop.2.1 42 = .ok (.goto (4), 3) := by decide +kernel
theorem d_M_doubleLoop_45 : decode M_M_doubleLoop.2.1 45 = .ok (.lconst 0, 1) := by decide +kernel
theorem d_M_doubleLoop_46 : decode M_M_doubleLoop.2.1 46 = .ok (.lstore 4, 2) := by decide +kernel
theorem d_M_doubleLoop_48 : decode M_M_doubleLoop.2.1 48 = .ok (.aload_n 0, 1) := by decide +kernel
theorem d_M_doubleLoop_49 : decode M_M_doubleLoop.2.1 49 = .ok (.getfield 34, 3) := by decide +kernel
theorem d_M_doubleLoop_52 : decode M_M_doubleLoop.2.1 52 = .ok (.iload_n 1, 1) := by decide +kernel
theorem d_M_doubleLoop_53 : decode M_M_doubleLoop.2.1 53 = .ok (.lload_n 2, 1) := by decide +kernel
theorem d_M_doubleLoop_54 : decode M_M_doubleLoop.2.1 54 = .ok (.lneg, 1) := by decide +kernel
theorem d_M_doubleLoop_55 : decode M_M_doubleLoop.2.1 55 = .ok (.lload 4, 2) := by decide +kernel
theorem d_M_doubleLoop_57 : decode M_M_doubleLoop.2.1 57 = .ok (.lsub, 1) := by decide +kernel
theorem d_M_doubleLoop_58 : decode M_M_doubleLoop.2.1 58 = .ok (.lastore, 1) := by decide +kernel
theorem d_M_doubleLoop_59 : decode M_M_doubleLoop.2.1 59 = .ok (.iinc 1 (1), 3) := by decide +kernel
theorem d_M_doubleLoop_62 : decode M_M_doubleLoop.2.1 62 = .ok (.goto (-60), 3) := by decide +kernel
theorem d_M_doubleLoop_65 : decode M_M_doubleLoop.2.1 65 = .ok (.iconst (0), 1) := by decide +kernel
theorem d_M_doubleLoop_66 : decode M_M_doubleLoop.2.1 66 = .ok (.istore_n 1, 1) := by decide +kernel
theorem d_M_doubleLoop_67 : decode M_M_doubleLoop.2.1 67 = .ok (.iload_n 1, 1) := by decide +kernel
theorem d_M_doubleLoop_68 : decode M_M_doubleLoop.2.1 68 = .ok (.sipush (257), 3) := by decide +kernel
theorem d_M_doubleLoop_71 : decode M_M_doubleLoop.2.1 71 = .ok (.if_icmp .ge (21), 3) := by decide +kernel
theorem d_M_doubleLoop_74 : decode M_M_doubleLoop.2.1 74 = .ok (.aload_n 0, 1) := by decide +kernel
theorem d_M_doubleLoop_75 : decode M_M_doubleLoop.2.1 75 = .ok (.getfield 31, 3) := by decide +kernel
theorem d_M_doubleLoop_78 : decode M_M_doubleLoop.2.1 78 = .ok (.iload_n 1, 1) := by decide +kernel
theorem d_M_doubleLoop_79 : decode M_M_doubleLoop.2.1 79 = .ok (.aload_n 0, 1) := by decide +kernel
theorem d_M_doubleLoop_80 : decode M_M_doubleLoop.2.1 80 = .ok (.getfield 34, 3) := by decide +kernel
theorem d_M_doubleLoop_83 : decode M_M_doubleLoop.2.1 83 = .ok (.iload_n 1, 1) := by decide +kernel
theorem d_M_doubleLoop_84 : decode M_M_doubleLoop.2.1 84 = .ok (.laload, 1) := by decide +kernel
theorem d_M_doubleLoop_85 : decode M_M_doubleLoop.2.1 85 = .ok (.lastore, 1) := by decide +kernel
theorem d_M_doubleLoop_86 : decode M_M_doubleLoop.2.1 86 = .ok (.iinc 1 (1), 3) := by decide +kernel
theorem d_M_doubleLoop_89 : decode M_M_doubleLoop.2.1 89 = .ok (.goto (-22), 3) := by decide +kernel
theorem d_M_doubleLoop_92 : decode M_M_doubleLoop.2.1 92 = .ok (.return_, 1) := by decide +kernel
theorem d_M_addState_0 : decode M_M_addState.2.1 0 = .ok (.iconst (0), 1) := by decide +kernel
theorem d_M_addState_1 : decode M_M_addState.2.1 1 = .ok (.istore_n 2, 1) := by decide +kernel
theorem d_M_addState_2 : decode M_M_addState.2.1 2 = .ok (.iload_n 2, 1) := by decide +kernel
theorem d_M_addState_3 : decode M_M_addState.2.1 3 = .ok (.sipush (257), 3) := by decide +kernel
theorem d_M_addState_6 : decode M_M_addState.2.1 6 = .ok (.if_icmp .ge (16), 3) := by decide +kernel
theorem d_M_addState_9 : decode M_M_addState.2.1 9 = .ok (.aload_n 0, 1) := by decide +kernel
theorem d_M_addState_10 : decode M_M_addState.2.1 10 = .ok (.getfield 31, 3) := by decide +kernel
theorem d_M_addState_13 : decode M_M_addState.2.1 13 = .ok (.iload_n 2, 1) := by decide +kernel
theorem d_M_addState_14 : decode M_M_addState.2.1 14 = .ok (.lconst 0, 1) := by decide +kernel
theorem d_M_addState_15 : decode M_M_addState.2.1 15 = .ok (.lastore, 1) := by decide +kernel
theorem d_M_addState_16 : decode M_M_addState.2.1 16 = .ok (.iinc 2 (1), 3) := by decide +kernel
theorem d_M_addState_19 : decode M_M_addState.2.1 19 = .ok (.goto (-17), 3) := by decide +kernel
theorem d_M_addState_22 : decode M_M_addState.2.1 22 = .ok (.iconst (0), 1) := by decide +kernel
theorem d_M_addState_23 : decode M_M_addState.2.1 23 = .ok (.istore_n 2, 1) := by decide +kernel
theorem d_M_addState_24 : decode M_M_addState.2.1 24 = .ok (.iconst (0), 1) := by decide +kernel
theorem d_M_addState_25 : decode M_M_addState.2.1 25 = .ok (.istore_n 3, 1) := by decide +kernel
theorem d_M_addState_26 : decode M_M_addState.2.1 26 = .ok (.iload_n 3, 1) := by decide +kernel
theorem d_M_addState_27 : decode M_M_addState.2.1 27 = .ok (.aload_n 0, 1) := by decide +kernel
theorem d_M_addState_28 : decode M_M_addState.2.1 28 = .ok (.getfield 66, 3) := by decide +kernel
theorem d_M_addState_31 : decode M_M_addState.2.1 31 = .ok (.if_icmp .ge (28), 3) := by decide +kernel
theorem d_M_addState_34 : decode M_M_addState.2.1 34 = .ok (.iload_n 1, 1) := by decide +kernel
theorem d_M_addState_35 : decode M_M_addState.2.1 35 = .ok (.iload_n 3, 1) := by decide +kernel
theorem d_M_addState_36 : decode M_M_addState.2.1 36 = .ok (.ishr, 1) := by decide +kernel
theorem d_M_addState_37 : decode M_M_addState.2.1 37 = .ok (.iconst (1), 1) := by decide +kernel
theorem d_M_addState_38 : decode M_M_addState.2.1 38 = .ok (.iand, 1) := by decide +kernel
theorem d_M_addState_39 : decode M_M_addState.2.1 39 = .ok (.iconst (1), 1) := by decide +kernel
theorem d_M_addState_40 : decode M_M_addState.2.1 40 = .ok (.if_icmp .ne (9), 3) := by decide +kernel
theorem d_M_addState_43 : decode M_M_addState.2.1 43 = .ok (.iload_n 2, 1) := by decide +kernel
theorem d_M_addState_44 : decode M_M_addState.2.1 44 = .ok (.iconst (1), 1) := by decide +kernel
theorem d_M_addState_45 : decode M_M_addState.2.1 45 = .ok (.iadd, 1) := by decide +kernel
theorem d_M_addState_46 : decode M_M_addState.2.1 46 = .ok (.goto (6), 3) := by decide +kernel
theorem d_M_addState_49 : decode M_M_addState.2.1 49 = .ok (.iload_n 2, 1) := by decide +kernel
theorem d_M_addState_50 : decode M_M_addState.2.1 50 = .ok (.iconst (1), 1) := by decide +kernel
theorem d_M_addState_51 : decode M_M_addState.2.1 51 = .ok (.isub, 1) := by decide +kernel
theorem d_M_addState_52 : decode M_M_addState.2.1 52 = .ok (.istore_n 2, 1) := by decide +kernel
theorem d_M_addState_53 : decode M_M_addState.2.1 53 = .ok (.iinc 3 (1), 3) := by decide +kernel
theorem d_M_addState_56 : decode M_M_addState.2.1 56 = .ok (.goto (-30), 3) := by decide +kernel
theorem d_M_addState_59 : decode M_M_addState.2.1 59 = .ok (.aload_n 0, 1) := by decide +kernel
theorem d_M_addState_60 : decode M_M_addState.2.1 60 = .ok (.getfield 31, 3) := by decide +kernel
theorem d_M_addState_63 : decode M_M_addState.2.1 63 = .ok (.sipush (128), 3) := by decide +kernel
theorem d_M_addState_66 : decode M_M_addState.2.1 66 = .ok (.iload_n 2, 1) := by decide +kernel
theorem d_M_addState_67 : decode M_M_addState.2.1 67 = .ok (.iadd, 1) := by decide +kernel
theorem d_M_addState_68 : decode M_M_addState.2.1 68 = .ok (.lconst 1, 1) := by decide +kernel
theorem d_M_addState_69 : decode M_M_addState.2.1 69 = .ok (.lastore, 1) := by decide +kernel
theorem d_M_addState_70 : decode M_M_addState.2.1 70 = .ok (.aload_n 0, 1) := by decide +kernel
theorem d_M_addState_71 : decode M_M_addState.2.1 71 = .ok (.iconst (1), 1) := by decide +kernel
theorem d_M_addState_72 : decode M_M_addState.2.1 72 = .ok (.iload_n 1, 1) := by decide +kernel
theorem d_M_addState_73 : decode M_M_addState.2.1 73 = .ok (.iadd, 1) := by decide +kernel
theorem d_M_addState_74 : decode M_M_addState.2.1 74 = .ok (.invokevirtual 117, 3) := by decide +kernel
theorem d_M_addState_77 : decode M_M_addState.2.1 77 = .ok (.aload_n 0, 1) := by decide +kernel
theorem d_M_addState_78 : decode M_M_addState.2.1 78 = .ok (.getfield 17, 3) := by decide +kernel
theorem d_M_addState_81 : decode M_M_addState.2.1 81 = .ok (.iadd, 1) := by decide +kernel
theorem d_M_addState_82 : decode M_M_addState.2.1 82 = .ok (.istore_n 3, 1) := by decide +kernel
theorem d_M_addState_83 : decode M_M_addState.2.1 83 = .ok (.iconst (1), 1) := by decide +kernel
theorem d_M_addState_84 : decode M_M_addState.2.1 84 = .ok (.istore 4, 2) := by decide +kernel
theorem d_M_addState_86 : decode M_M_addState.2.1 86 = .ok (.iload 4, 2) := by decide +kernel
theorem d_M_addState_88 : decode M_M_addState.2.1 88 = .ok (.iload_n 3, 1) := by decide +kernel
theorem d_M_addState_89 : decode M_M_addState.2.1 89 = .ok (.if_icmp .ge (13), 3) := by decide +kernel
theorem d_M_addState_92 : decode M_M_addState.2.1 92 = .ok (.aload_n 0, 1) := by decide +kernel
theorem d_M_addState_93 : decode M_M_addState.2.1 93 = .ok (.invokevirtual 123, 3) := by decide +kernel
theorem d_M_addState_96 : decode M_M_addState.2.1 96 = .ok (.iinc 4 (1), 3) := by decide +kernel
theorem d_M_addState_99 : decode M_M_addState.2.1 99 = .ok (.goto (-13), 3) := by decide +kernel
theorem d_M_addState_102 : decode M_M_addState.2.1 102 = .ok (.iconst (0), 1) := by decide +kernel
theorem d_M_addState_103 : decode M_M_addState.2.1 103 = .ok (.istore 4, 2) := by decide +kernel
theorem d_M_addState_105 : decode M_M_addState.2.1 105 = .ok (.iload 4, 2) := by decide +kernel
theorem d_M_addState_107 : decode M_M_addState.2.1 107 = .ok (.sipush (257), 3) := by decide +kernel
theorem d_M_addState_110 : decode M_M_addState.2.1 110 = .ok (.if_icmp .ge (31), 3) := by decide +kernel
theorem d_M_addState_113 : decode M_M_addState.2.1 113 = .ok (.aload_n 0, 1) := by decide +kernel
theorem d_M_addState_114 : decode M_M_addState.2.1 114 = .ok (.getfield 27, 3) := by decide +kernel
theorem d_M_addState_117 : decode M_M_addState.2.1 117 = .ok (.iload 4, 2) := by decide +kernel
theorem d_M_addState_119 : decode M_M_addState.2.1 119 = .ok (.aload_n 0, 1) := by decide +kernel
theorem d_M_addState_120 : decode M_M_addState.2.1 120 = .ok (.getfield 27, 3) := by decide +kernel
theorem d_M_addState_123 : decode M_M_addState.2.1 123 = .ok (.iload 4, 2) := by decide +kernel
theorem d_M_addState_125 : decode M_M_addState.2.1 125 = .ok (.laload, 1) := by decide +kernel
theorem d_M_addState_126 : decode M_M_addState.2.1 126 = .ok (.aload_n 0, 1) := by decide +kernel
theorem d_M_addState_127 : decode M_M_addState.2.1 127 = .ok (.getfield 31, 3) := by decide +kernel
theorem d_M_addState_130 : decode M_M_addState.2.1 130 = .ok (.iload 4, 2) := by decide +kernel
theorem d_M_addState_132 : decode M_M_addState.2.1 132 = .ok (.laload, 1) := by decide +kernel
theorem d_M_addState_133 : decode M_M_addState.2.1 133 = .ok (.ladd, 1) := by decide +kernel
theorem d_M_addState_134 : decode M_M_addState.2.1 134 = .ok (.lastore, 1) := by decide +kernel
theorem d_M_addState_135 : decode M_M_addState.2.1 135 = .ok (.iinc 4 (1), 3) := by decide +kernel
theorem d_M_addState_138 : decode M_M_addState.2.1 138 = .ok (.goto (-33), 3) := by decide +kernel
theorem d_M_addState_141 : decode M_M_addState.2.1 141 = .ok (.return_, 1) := by decide +kernel
