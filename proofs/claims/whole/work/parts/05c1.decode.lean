theorem d_A_init_0 : decode M_A_init.2.1 0 = .ok (.aload_n 0, 1) := by decide +kernel
theorem d_A_init_1 : decode M_A_init.2.1 1 = .ok (.invokespecial 1, 3) := by decide +kernel
theorem d_A_init_4 : decode M_A_init.2.1 4 = .ok (.aload_n 0, 1) := by decide +kernel
theorem d_A_init_5 : decode M_A_init.2.1 5 = .ok (.new 7, 3) := by decide +kernel
theorem d_A_init_8 : decode M_A_init.2.1 8 = .ok (.dup, 1) := by decide +kernel
theorem d_A_init_9 : decode M_A_init.2.1 9 = .ok (.invokespecial 9, 3) := by decide +kernel
theorem d_A_init_12 : decode M_A_init.2.1 12 = .ok (.putfield 10, 3) := by decide +kernel
theorem d_A_init_15 : decode M_A_init.2.1 15 = .ok (.aload_n 0, 1) := by decide +kernel
theorem d_A_init_16 : decode M_A_init.2.1 16 = .ok (.new 7, 3) := by decide +kernel
theorem d_A_init_19 : decode M_A_init.2.1 19 = .ok (.dup, 1) := by decide +kernel
theorem d_A_init_20 : decode M_A_init.2.1 20 = .ok (.invokespecial 9, 3) := by decide +kernel
theorem d_A_init_23 : decode M_A_init.2.1 23 = .ok (.putfield 16, 3) := by decide +kernel
theorem d_A_init_26 : decode M_A_init.2.1 26 = .ok (.aload_n 0, 1) := by decide +kernel
theorem d_A_init_27 : decode M_A_init.2.1 27 = .ok (.new 7, 3) := by decide +kernel
theorem d_A_init_30 : decode M_A_init.2.1 30 = .ok (.dup, 1) := by decide +kernel
theorem d_A_init_31 : decode M_A_init.2.1 31 = .ok (.invokespecial 9, 3) := by decide +kernel
theorem d_A_init_34 : decode M_A_init.2.1 34 = .ok (.putfield 19, 3) := by decide +kernel
theorem d_A_init_37 : decode M_A_init.2.1 37 = .ok (.aload_n 0, 1) := by decide +kernel
theorem d_A_init_38 : decode M_A_init.2.1 38 = .ok (.new 22, 3) := by decide +kernel
theorem d_A_init_41 : decode M_A_init.2.1 41 = .ok (.dup, 1) := by decide +kernel
theorem d_A_init_42 : decode M_A_init.2.1 42 = .ok (.invokespecial 24, 3) := by decide +kernel
theorem d_A_init_45 : decode M_A_init.2.1 45 = .ok (.putfield 25, 3) := by decide +kernel
theorem d_A_init_48 : decode M_A_init.2.1 48 = .ok (.aload_n 0, 1) := by decide +kernel
theorem d_A_init_49 : decode M_A_init.2.1 49 = .ok (.new 29, 3) := by decide +kernel
theorem d_A_init_52 : decode M_A_init.2.1 52 = .ok (.dup, 1) := by decide +kernel
theorem d_A_init_53 : decode M_A_init.2.1 53 = .ok (.invokespecial 31, 3) := by decide +kernel
theorem d_A_init_56 : decode M_A_init.2.1 56 = .ok (.putfield 32, 3) := by decide +kernel
theorem d_A_init_59 : decode M_A_init.2.1 59 = .ok (.aload_n 0, 1) := by decide +kernel
theorem d_A_init_60 : decode M_A_init.2.1 60 = .ok (.new 36, 3) := by decide +kernel
theorem d_A_init_63 : decode M_A_init.2.1 63 = .ok (.dup, 1) := by decide +kernel
theorem d_A_init_64 : decode M_A_init.2.1 64 = .ok (.invokespecial 38, 3) := by decide +kernel
theorem d_A_init_67 : decode M_A_init.2.1 67 = .ok (.putfield 39, 3) := by decide +kernel
theorem d_A_init_70 : decode M_A_init.2.1 70 = .ok (.aload_n 0, 1) := by decide +kernel
theorem d_A_init_71 : decode M_A_init.2.1 71 = .ok (.bipush (8), 2) := by decide +kernel
theorem d_A_init_73 : decode M_A_init.2.1 73 = .ok (.newarray .int, 2) := by decide +kernel
theorem d_A_init_75 : decode M_A_init.2.1 75 = .ok (.putfield 43, 3) := by decide +kernel
theorem d_A_init_78 : decode M_A_init.2.1 78 = .ok (.aload_n 0, 1) := by decide +kernel
theorem d_A_init_79 : decode M_A_init.2.1 79 = .ok (.iconst (5), 1) := by decide +kernel
theorem d_A_init_80 : decode M_A_init.2.1 80 = .ok (.newarray .int, 2) := by decide +kernel
theorem d_A_init_82 : decode M_A_init.2.1 82 = .ok (.putfield 47, 3) := by decide +kernel
theorem d_A_init_85 : decode M_A_init.2.1 85 = .ok (.aload_n 0, 1) := by decide +kernel
theorem d_A_init_86 : decode M_A_init.2.1 86 = .ok (.iconst (0), 1) := by decide +kernel
theorem d_A_init_87 : decode M_A_init.2.1 87 = .ok (.putfield 50, 3) := by decide +kernel
theorem d_A_init_90 : decode M_A_init.2.1 90 = .ok (.aload_n 0, 1) := by decide +kernel
theorem d_A_init_91 : decode M_A_init.2.1 91 = .ok (.iconst (1), 1) := by decide +kernel
theorem d_A_init_92 : decode M_A_init.2.1 92 = .ok (.putfield 54, 3) := by decide +kernel
theorem d_A_init_95 : decode M_A_init.2.1 95 = .ok (.return_, 1) := by decide +kernel
theorem d_A_cross_0 : decode M_A_cross.2.1 0 = .ok (.aload_n 0, 1) := by decide +kernel
theorem d_A_cross_1 : decode M_A_cross.2.1 1 = .ok (.getfield 10, 3) := by decide +kernel
theorem d_A_cross_4 : decode M_A_cross.2.1 4 = .ok (.invokevirtual 57, 3) := by decide +kernel
theorem d_A_cross_7 : decode M_A_cross.2.1 7 = .ok (.ifCond .ne (32), 3) := by decide +kernel
theorem d_A_cross_10 : decode M_A_cross.2.1 10 = .ok (.iload_n 1, 1) := by decide +kernel
theorem d_A_cross_11 : decode M_A_cross.2.1 11 = .ok (.invokestatic 61, 3) := by decide +kernel
theorem d_A_cross_14 : decode M_A_cross.2.1 14 = .ok (.ifCond .eq (25), 3) := by decide +kernel
theorem d_A_cross_17 : decode M_A_cross.2.1 17 = .ok (.iload_n 2, 1) := by decide +kernel
theorem d_A_cross_18 : decode M_A_cross.2.1 18 = .ok (.invokestatic 61, 3) := by decide +kernel
theorem d_A_cross_21 : decode M_A_cross.2.1 21 = .ok (.ifCond .eq (18), 3) := by decide +kernel
theorem d_A_cross_24 : decode M_A_cross.2.1 24 = .ok (.iload_n 3, 1) := by decide +kernel
theorem d_A_cross_25 : decode M_A_cross.2.1 25 = .ok (.invokestatic 61, 3) := by decide +kernel
theorem d_A_cross_28 : decode M_A_cross.2.1 28 = .ok (.ifCond .eq (11), 3) := by decide +kernel
theorem d_A_cross_31 : decode M_A_cross.2.1 31 = .ok (.iload 4, 2) := by decide +kernel
theorem d_A_cross_33 : decode M_A_cross.2.1 33 = .ok (.invokestatic 61, 3) := by decide +kernel
theorem d_A_cross_36 : decode M_A_cross.2.1 36 = .ok (.ifCond .ne (5), 3) := by decide +kernel
theorem d_A_cross_39 : decode M_A_cross.2.1 39 = .ok (.iconst (0), 1) := by decide +kernel
theorem d_A_cross_40 : decode M_A_cross.2.1 40 = .ok (.ireturn, 1) := by decide +kernel
theorem d_A_cross_41 : decode M_A_cross.2.1 41 = .ok (.aload_n 0, 1) := by decide +kernel
theorem d_A_cross_42 : decode M_A_cross.2.1 42 = .ok (.getfield 10, 3) := by decide +kernel
theorem d_A_cross_45 : decode M_A_cross.2.1 45 = .ok (.iload_n 1, 1) := by decide +kernel
theorem d_A_cross_46 : decode M_A_cross.2.1 46 = .ok (.iload_n 2, 1) := by decide +kernel
theorem d_A_cross_47 : decode M_A_cross.2.1 47 = .ok (.iload_n 3, 1) := by decide +kernel
theorem d_A_cross_48 : decode M_A_cross.2.1 48 = .ok (.iload 4, 2) := by decide +kernel
theorem d_A_cross_50 : decode M_A_cross.2.1 50 = .ok (.iload 5, 2) := by decide +kernel
theorem d_A_cross_52 : decode M_A_cross.2.1 52 = .ok (.invokevirtual 65, 3) := by decide +kernel
theorem d_A_cross_55 : decode M_A_cross.2.1 55 = .ok (.iconst (1), 1) := by decide +kernel
theorem d_A_cross_56 : decode M_A_cross.2.1 56 = .ok (.ireturn, 1) := by decide +kernel
theorem d_A_drop_0 : decode M_A_drop.2.1 0 = .ok (.aload_n 0, 1) := by decide +kernel
theorem d_A_drop_1 : decode M_A_drop.2.1 1 = .ok (.getfield 10, 3) := by decide +kernel
theorem d_A_drop_4 : decode M_A_drop.2.1 4 = .ok (.aload_n 0, 1) := by decide +kernel
theorem d_A_drop_5 : decode M_A_drop.2.1 5 = .ok (.getfield 10, 3) := by decide +kernel
theorem d_A_drop_8 : decode M_A_drop.2.1 8 = .ok (.invokevirtual 69, 3) := by decide +kernel
theorem d_A_drop_11 : decode M_A_drop.2.1 11 = .ok (.iconst (1), 1) := by decide +kernel
theorem d_A_drop_12 : decode M_A_drop.2.1 12 = .ok (.isub, 1) := by decide +kernel
theorem d_A_drop_13 : decode M_A_drop.2.1 13 = .ok (.invokevirtual 73, 3) := by decide +kernel
theorem d_A_drop_16 : decode M_A_drop.2.1 16 = .ok (.aload_n 0, 1) := by decide +kernel
theorem d_A_drop_17 : decode M_A_drop.2.1 17 = .ok (.getfield 10, 3) := by decide +kernel
theorem d_A_drop_20 : decode M_A_drop.2.1 20 = .ok (.invokevirtual 69, 3) := by decide +kernel
theorem d_A_drop_23 : decode M_A_drop.2.1 23 = .ok (.ireturn, 1) := by decide +kernel
theorem d_A_take_0 : decode M_A_take.2.1 0 = .ok (.iload_n 1, 1) := by decide +kernel
theorem d_A_take_1 : decode M_A_take.2.1 1 = .ok (.ifCond .lt (22), 3) := by decide +kernel
theorem d_A_take_4 : decode M_A_take.2.1 4 = .ok (.iload_n 1, 1) := by decide +kernel
theorem d_A_take_5 : decode M_A_take.2.1 5 = .ok (.iconst (4), 1) := by decide +kernel
theorem d_A_take_6 : decode M_A_take.2.1 6 = .ok (.if_icmp .gt (17), 3) := by decide +kernel
theorem d_A_take_9 : decode M_A_take.2.1 9 = .ok (.iload_n 1, 1) := by decide +kernel
theorem d_A_take_10 : decode M_A_take.2.1 10 = .ok (.ifCond .ne (15), 3) := by decide +kernel
theorem d_A_take_13 : decode M_A_take.2.1 13 = .ok (.aload_n 0, 1) := by decide +kernel
theorem d_A_take_14 : decode M_A_take.2.1 14 = .ok (.getfield 10, 3) := by decide +kernel
theorem d_A_take_17 : decode M_A_take.2.1 17 = .ok (.invokevirtual 69, 3) := by decide +kernel
theorem d_A_take_20 : decode M_A_take.2.1 20 = .ok (.ifCond .ne (5), 3) := by decide +kernel
theorem d_A_take_23 : decode M_A_take.2.1 23 = .ok (.iconst (1), 1) := by decide +kernel
theorem d_A_take_24 : decode M_A_take.2.1 24 = .ok (.ireturn, 1) := by decide +kernel
theorem d_A_take_25 : decode M_A_take.2.1 25 = .ok (.aload_n 0, 1) := by decide +kernel
theorem d_A_take_26 : decode M_A_take.2.1 26 = .ok (.getfield 25, 3) := by decide +kernel
theorem d_A_take_29 : decode M_A_take.2.1 29 = .ok (.aload_n 0, 1) := by decide +kernel
theorem d_A_take_30 : decode M_A_take.2.1 30 = .ok (.getfield 10, 3) := by decide +kernel
theorem d_A_take_33 : decode M_A_take.2.1 33 = .ok (.invokevirtual 77, 3) := by decide +kernel
theorem d_A_take_36 : decode M_A_take.2.1 36 = .ok (.ifCond .ne (5), 3) := by decide +kernel
theorem d_A_take_39 : decode M_A_take.2.1 39 = .ok (.iconst (2), 1) := by decide +kernel
theorem d_A_take_40 : decode M_A_take.2.1 40 = .ok (.ireturn, 1) := by decide +kernel
theorem d_A_take_41 : decode M_A_take.2.1 41 = .ok (.aload_n 0, 1) := by decide +kernel
theorem d_A_take_42 : decode M_A_take.2.1 42 = .ok (.getfield 25, 3) := by decide +kernel
theorem d_A_take_45 : decode M_A_take.2.1 45 = .ok (.aload_n 0, 1) := by decide +kernel
theorem d_A_take_46 : decode M_A_take.2.1 46 = .ok (.getfield 10, 3) := by decide +kernel
theorem d_A_take_49 : decode M_A_take.2.1 49 = .ok (.invokevirtual 81, 3) := by decide +kernel
theorem d_A_take_52 : decode M_A_take.2.1 52 = .ok (.ifCond .ne (5), 3) := by decide +kernel
theorem d_A_take_55 : decode M_A_take.2.1 55 = .ok (.iconst (3), 1) := by decide +kernel
theorem d_A_take_56 : decode M_A_take.2.1 56 = .ok (.ireturn, 1) := by decide +kernel
theorem d_A_take_57 : decode M_A_take.2.1 57 = .ok (.aload_n 0, 1) := by decide +kernel
theorem d_A_take_58 : decode M_A_take.2.1 58 = .ok (.getfield 16, 3) := by decide +kernel
theorem d_A_take_61 : decode M_A_take.2.1 61 = .ok (.aload_n 0, 1) := by decide +kernel
theorem d_A_take_62 : decode M_A_take.2.1 62 = .ok (.getfield 10, 3) := by decide +kernel
theorem d_A_take_65 : decode M_A_take.2.1 65 = .ok (.invokevirtual 84, 3) := by decide +kernel
theorem d_A_take_68 : decode M_A_take.2.1 68 = .ok (.aload_n 0, 1) := by decide +kernel
theorem d_A_take_69 : decode M_A_take.2.1 69 = .ok (.iload_n 1, 1) := by decide +kernel
theorem d_A_take_70 : decode M_A_take.2.1 70 = .ok (.putfield 54, 3) := by decide +kernel
theorem d_A_take_73 : decode M_A_take.2.1 73 = .ok (.aload_n 0, 1) := by decide +kernel
theorem d_A_take_74 : decode M_A_take.2.1 74 = .ok (.getfield 10, 3) := by decide +kernel
theorem d_A_take_77 : decode M_A_take.2.1 77 = .ok (.invokevirtual 88, 3) := by decide +kernel
theorem d_A_take_80 : decode M_A_take.2.1 80 = .ok (.iconst (0), 1) := by decide +kernel
theorem d_A_take_81 : decode M_A_take.2.1 81 = .ok (.ireturn, 1) := by decide +kernel
theorem d_A_isEdge_0 : decode M_A_isEdge.2.1 0 = .ok (.iload_n 0, 1) := by decide +kernel
theorem d_A_isEdge_1 : decode M_A_isEdge.2.1 1 = .ok (.iconst (1), 1) := by decide +kernel
theorem d_A_isEdge_2 : decode M_A_isEdge.2.1 2 = .ok (.if_icmp .lt (13), 3) := by decide +kernel
theorem d_A_isEdge_5 : decode M_A_isEdge.2.1 5 = .ok (.iload_n 0, 1) := by decide +kernel
theorem d_A_isEdge_6 : decode M_A_isEdge.2.1 6 = .ok (.bipush (32), 2) := by decide +kernel
theorem d_A_isEdge_8 : decode M_A_isEdge.2.1 8 = .ok (.if_icmp .gt (7), 3) := by decide +kernel
theorem d_A_isEdge_11 : decode M_A_isEdge.2.1 11 = .ok (.iconst (1), 1) := by decide +kernel
theorem d_A_isEdge_12 : decode M_A_isEdge.2.1 12 = .ok (.goto (4), 3) := by decide +kernel
theorem d_A_isEdge_15 : decode M_A_isEdge.2.1 15 = .ok (.iconst (0), 1) := by decide +kernel
theorem d_A_isEdge_16 : decode M_A_isEdge.2.1 16 = .ok (.ireturn, 1) := by decide +kernel
theorem d_A_letter_0 : decode M_A_letter.2.1 0 = .ok (.iload_n 1, 1) := by decide +kernel
theorem d_A_letter_1 : decode M_A_letter.2.1 1 = .ok (.ifCond .eq (18), 3) := by decide +kernel
theorem d_A_letter_4 : decode M_A_letter.2.1 4 = .ok (.iload_n 1, 1) := by decide +kernel
theorem d_A_letter_5 : decode M_A_letter.2.1 5 = .ok (.bipush (-3), 2) := by decide +kernel
theorem d_A_letter_7 : decode M_A_letter.2.1 7 = .ok (.if_icmp .lt (12), 3) := by decide +kernel
theorem d_A_letter_10 : decode M_A_letter.2.1 10 = .ok (.iload_n 1, 1) := by decide +kernel
theorem d_A_letter_11 : decode M_A_letter.2.1 11 = .ok (.iconst (3), 1) := by decide +kernel
theorem d_A_letter_12 : decode M_A_letter.2.1 12 = .ok (.if_icmp .gt (7), 3) := by decide +kernel
theorem d_A_letter_15 : decode M_A_letter.2.1 15 = .ok (.iconst (1), 1) := by decide +kernel
theorem d_A_letter_16 : decode M_A_letter.2.1 16 = .ok (.goto (4), 3) := by decide +kernel
theorem d_A_letter_19 : decode M_A_letter.2.1 19 = .ok (.iconst (0), 1) := by decide +kernel
theorem d_A_letter_20 : decode M_A_letter.2.1 20 = .ok (.istore_n 2, 1) := by decide +kernel
theorem d_A_letter_21 : decode M_A_letter.2.1 21 = .ok (.iload_n 2, 1) := by decide +kernel
theorem d_A_letter_22 : decode M_A_letter.2.1 22 = .ok (.ifCond .eq (12), 3) := by decide +kernel
theorem d_A_letter_25 : decode M_A_letter.2.1 25 = .ok (.aload_n 0, 1) := by decide +kernel
theorem d_A_letter_26 : decode M_A_letter.2.1 26 = .ok (.getfield 50, 3) := by decide +kernel
theorem d_A_letter_29 : decode M_A_letter.2.1 29 = .ok (.bipush (8), 2) := by decide +kernel
theorem d_A_letter_31 : decode M_A_letter.2.1 31 = .ok (.if_icmp .lt (5), 3) := by decide +kernel
theorem d_A_letter_34 : decode M_A_letter.2.1 34 = .ok (.iconst (0), 1) := by decide +kernel
theorem d_A_letter_35 : decode M_A_letter.2.1 35 = .ok (.ireturn, 1) := by decide +kernel
theorem d_A_letter_36 : decode M_A_letter.2.1 36 = .ok (.aload_n 0, 1) := by decide +kernel
theorem d_A_letter_37 : decode M_A_letter.2.1 37 = .ok (.getfield 43, 3) := by decide +kernel
theorem d_A_letter_40 : decode M_A_letter.2.1 40 = .ok (.aload_n 0, 1) := by decide +kernel
theorem d_A_letter_41 : decode M_A_letter.2.1 41 = .ok (.getfield 50, 3) := by decide +kernel
theorem d_A_letter_44 : decode M_A_letter.2.1 44 = .ok (.iload_n 1, 1) := by decide +kernel
theorem d_A_letter_45 : decode M_A_letter.2.1 45 = .ok (.iastore, 1) := by decide +kernel
theorem d_A_letter_46 : decode M_A_letter.2.1 46 = .ok (.aload_n 0, 1) := by decide +kernel
theorem d_A_letter_47 : decode M_A_letter.2.1 47 = .ok (.dup, 1) := by decide +kernel
theorem d_A_letter_48 : decode M_A_letter.2.1 48 = .ok (.getfield 50, 3) := by decide +kernel
theorem d_A_letter_51 : decode M_A_letter.2.1 51 = .ok (.iconst (1), 1) := by decide +kernel
theorem d_A_letter_52 : decode M_A_letter.2.1 52 = .ok (.iadd, 1) := by decide +kernel
theorem d_A_letter_53 : decode M_A_letter.2.1 53 = .ok (.putfield 50, 3) := by decide +kernel
theorem d_A_letter_56 : decode M_A_letter.2.1 56 = .ok (.iconst (1), 1) := by decide +kernel
theorem d_A_letter_57 : decode M_A_letter.2.1 57 = .ok (.ireturn, 1) := by decide +kernel
theorem d_A_braid_0 : decode M_A_braid.2.1 0 = .ok (.iload_n 1, 1) := by decide +kernel
theorem d_A_braid_1 : decode M_A_braid.2.1 1 = .ok (.iconst (1), 1) := by decide +kernel
theorem d_A_braid_2 : decode M_A_braid.2.1 2 = .ok (.if_icmp .lt (16), 3) := by decide +kernel
theorem d_A_braid_5 : decode M_A_braid.2.1 5 = .ok (.iload_n 1, 1) := by decide +kernel
theorem d_A_braid_6 : decode M_A_braid.2.1 6 = .ok (.iconst (4), 1) := by decide +kernel
theorem d_A_braid_7 : decode M_A_braid.2.1 7 = .ok (.if_icmp .gt (11), 3) := by decide +kernel
theorem d_A_braid_10 : decode M_A_braid.2.1 10 = .ok (.aload_n 0, 1) := by decide +kernel
theorem d_A_braid_11 : decode M_A_braid.2.1 11 = .ok (.iload_n 1, 1) := by decide +kernel
theorem d_A_braid_12 : decode M_A_braid.2.1 12 = .ok (.invokevirtual 91, 3) := by decide +kernel
theorem d_A_braid_15 : decode M_A_braid.2.1 15 = .ok (.ifCond .ne (5), 3) := by decide +kernel
theorem d_A_braid_18 : decode M_A_braid.2.1 18 = .ok (.iconst (0), 1) := by decide +kernel
theorem d_A_braid_19 : decode M_A_braid.2.1 19 = .ok (.ireturn, 1) := by decide +kernel
theorem d_A_braid_20 : decode M_A_braid.2.1 20 = .ok (.aload_n 0, 1) := by decide +kernel
theorem d_A_braid_21 : decode M_A_braid.2.1 21 = .ok (.getfield 16, 3) := by decide +kernel
theorem d_A_braid_24 : decode M_A_braid.2.1 24 = .ok (.invokevirtual 88, 3) := by decide +kernel
theorem d_A_braid_27 : decode M_A_braid.2.1 27 = .ok (.aload_n 0, 1) := by decide +kernel
theorem d_A_braid_28 : decode M_A_braid.2.1 28 = .ok (.iconst (0), 1) := by decide +kernel
theorem d_A_braid_29 : decode M_A_braid.2.1 29 = .ok (.putfield 54, 3) := by decide +kernel
theorem d_A_braid_32 : decode M_A_braid.2.1 32 = .ok (.iconst (1), 1) := by decide +kernel
theorem d_A_braid_33 : decode M_A_braid.2.1 33 = .ok (.istore_n 2, 1) := by decide +kernel
theorem d_A_braid_34 : decode M_A_braid.2.1 34 = .ok (.iload_n 2, 1) := by decide +kernel
theorem d_A_braid_35 : decode M_A_braid.2.1 35 = .ok (.iload_n 1, 1) := by decide +kernel
theorem d_A_braid_36 : decode M_A_braid.2.1 36 = .ok (.if_icmp .gt (16), 3) := by decide +kernel
theorem d_A_braid_39 : decode M_A_braid.2.1 39 = .ok (.aload_n 0, 1) := by decide +kernel
theorem d_A_braid_40 : decode M_A_braid.2.1 40 = .ok (.getfield 47, 3) := by decide +kernel
theorem d_A_braid_43 : decode M_A_braid.2.1 43 = .ok (.iload_n 2, 1) := by decide +kernel
theorem d_A_braid_44 : decode M_A_braid.2.1 44 = .ok (.iload_n 2, 1) := by decide +kernel
theorem d_A_braid_45 : decode M_A_braid.2.1 45 = .ok (.iastore, 1) := by decide +kernel
theorem d_A_braid_46 : decode M_A_braid.2.1 46 = .ok (.iinc 2 (1), 3) := by decide +kernel
theorem d_A_braid_49 : decode M_A_braid.2.1 49 = .ok (.goto (-15), 3) := by decide +kernel
theorem d_A_braid_52 : decode M_A_braid.2.1 52 = .ok (.iconst (0), 1) := by decide +kernel
theorem d_A_braid_53 : decode M_A_braid.2.1 53 = .ok (.istore_n 2, 1) := by decide +kernel
theorem d_A_braid_54 : decode M_A_braid.2.1 54 = .ok (.iload_n 2, 1) := by decide +kernel
theorem d_A_braid_55 : decode M_A_braid.2.1 55 = .ok (.aload_n 0, 1) := by decide +kernel
theorem d_A_braid_56 : decode M_A_braid.2.1 56 = .ok (.getfield 50, 3) := by decide +kernel
theorem d_A_braid_59 : decode M_A_braid.2.1 59 = .ok (.if_icmp .ge (26), 3) := by decide +kernel
theorem d_A_braid_62 : decode M_A_braid.2.1 62 = .ok (.aload_n 0, 1) := by decide +kernel
theorem d_A_braid_63 : decode M_A_braid.2.1 63 = .ok (.aload_n 0, 1) := by decide +kernel
theorem d_A_braid_64 : decode M_A_braid.2.1 64 = .ok (.getfield 43, 3) := by decide +kernel
theorem d_A_braid_67 : decode M_A_braid.2.1 67 = .ok (.iload_n 2, 1) := by decide +kernel
theorem d_A_braid_68 : decode M_A_braid.2.1 68 = .ok (.iaload, 1) := by decide +kernel
theorem d_A_braid_69 : decode M_A_braid.2.1 69 = .ok (.iload_n 1, 1) := by decide +kernel
theorem d_A_braid_70 : decode M_A_braid.2.1 70 = .ok (.iconst (1), 1) := by decide +kernel
theorem d_A_braid_71 : decode M_A_braid.2.1 71 = .ok (.iadd, 1) := by decide +kernel
theorem d_A_braid_72 : decode M_A_braid.2.1 72 = .ok (.iconst (2), 1) := by decide +kernel
theorem d_A_braid_73 : decode M_A_braid.2.1 73 = .ok (.iload_n 2, 1) := by decide +kernel
theorem d_A_braid_74 : decode M_A_braid.2.1 74 = .ok (.imul, 1) := by decide +kernel
theorem d_A_braid_75 : decode M_A_braid.2.1 75 = .ok (.iadd, 1) := by decide +kernel
theorem d_A_braid_76 : decode M_A_braid.2.1 76 = .ok (.invokevirtual 94, 3) := by decide +kernel
theorem d_A_braid_79 : decode M_A_braid.2.1 79 = .ok (.iinc 2 (1), 3) := by decide +kernel
theorem d_A_braid_82 : decode M_A_braid.2.1 82 = .ok (.goto (-28), 3) := by decide +kernel
theorem d_A_braid_85 : decode M_A_braid.2.1 85 = .ok (.iconst (1), 1) := by decide +kernel
theorem d_A_braid_86 : decode M_A_braid.2.1 86 = .ok (.istore_n 2, 1) := by decide +kernel
theorem d_A_braid_87 : decode M_A_braid.2.1 87 = .ok (.iload_n 2, 1) := by decide +kernel
theorem d_A_braid_88 : decode M_A_braid.2.1 88 = .ok (.iload_n 1, 1) := by decide +kernel
theorem d_A_braid_89 : decode M_A_braid.2.1 89 = .ok (.if_icmp .gt (14), 3) := by decide +kernel
theorem d_A_braid_92 : decode M_A_braid.2.1 92 = .ok (.aload_n 0, 1) := by decide +kernel
theorem d_A_braid_93 : decode M_A_braid.2.1 93 = .ok (.iload_n 2, 1) := by decide +kernel
theorem d_A_braid_94 : decode M_A_braid.2.1 94 = .ok (.invokevirtual 98, 3) := by decide +kernel
theorem d_A_braid_97 : decode M_A_braid.2.1 97 = .ok (.iinc 2 (1), 3) := by decide +kernel
theorem d_A_braid_100 : decode M_A_braid.2.1 100 = .ok (.goto (-13), 3) := by decide +kernel
theorem d_A_braid_103 : decode M_A_braid.2.1 103 = .ok (.aload_n 0, 1) := by decide +kernel
theorem d_A_braid_104 : decode M_A_braid.2.1 104 = .ok (.iconst (0), 1) := by decide +kernel
theorem d_A_braid_105 : decode M_A_braid.2.1 105 = .ok (.putfield 50, 3) := by decide +kernel
theorem d_A_braid_108 : decode M_A_braid.2.1 108 = .ok (.iconst (1), 1) := by decide +kernel
theorem d_A_braid_109 : decode M_A_braid.2.1 109 = .ok (.ireturn, 1) := by decide +kernel
theorem d_A_wordIsBelow_0 : decode M_A_wordIsBelow.2.1 0 = .ok (.iconst (0), 1) := by decide +kernel
theorem d_A_wordIsBelow_1 : decode M_A_wordIsBelow.2.1 1 = .ok (.istore_n 2, 1) := by decide +kernel
theorem d_A_wordIsBelow_2 : decode M_A_wordIsBelow.2.1 2 = .ok (.iload_n 2, 1) := by decide +kernel
theorem d_A_wordIsBelow_3 : decode M_A_wordIsBelow.2.1 3 = .ok (.aload_n 0, 1) := by decide +kernel
theorem d_A_wordIsBelow_4 : decode M_A_wordIsBelow.2.1 4 = .ok (.getfield 50, 3) := by decide +kernel
theorem d_A_wordIsBelow_7 : decode M_A_wordIsBelow.2.1 7 = .ok (.if_icmp .ge (24), 3) := by decide +kernel
theorem d_A_wordIsBelow_10 : decode M_A_wordIsBelow.2.1 10 = .ok (.aload_n 0, 1) := by decide +kernel
theorem d_A_wordIsBelow_11 : decode M_A_wordIsBelow.2.1 11 = .ok (.getfield 43, 3) := by decide +kernel
theorem d_A_wordIsBelow_14 : decode M_A_wordIsBelow.2.1 14 = .ok (.iload_n 2, 1) := by decide +kernel
theorem d_A_wordIsBelow_15 : decode M_A_wordIsBelow.2.1 15 = .ok (.iaload, 1) := by decide +kernel
theorem d_A_wordIsBelow_16 : decode M_A_wordIsBelow.2.1 16 = .ok (.invokestatic 101, 3) := by decide +kernel
theorem d_A_wordIsBelow_19 : decode M_A_wordIsBelow.2.1 19 = .ok (.iload_n 1, 1) := by decide +kernel
theorem d_A_wordIsBelow_20 : decode M_A_wordIsBelow.2.1 20 = .ok (.if_icmp .lt (5), 3) := by decide +kernel
theorem d_A_wordIsBelow_23 : decode M_A_wordIsBelow.2.1 23 = .ok (.iconst (0), 1) := by decide +kernel
theorem d_A_wordIsBelow_24 : decode M_A_wordIsBelow.2.1 24 = .ok (.ireturn, 1) := by decide +kernel
theorem d_A_wordIsBelow_25 : decode M_A_wordIsBelow.2.1 25 = .ok (.iinc 2 (1), 3) := by decide +kernel
theorem d_A_wordIsBelow_28 : decode M_A_wordIsBelow.2.1 28 = .ok (.goto (-26), 3) := by decide +kernel
theorem d_A_wordIsBelow_31 : decode M_A_wordIsBelow.2.1 31 = .ok (.iconst (1), 1) := by decide +kernel
theorem d_A_wordIsBelow_32 : decode M_A_wordIsBelow.2.1 32 = .ok (.ireturn, 1) := by decide +kernel
theorem d_A_weave_0 : decode M_A_weave.2.1 0 = .ok (.iload_n 1, 1) := by decide +kernel
theorem d_A_weave_1 : decode M_A_weave.2.1 1 = .ok (.invokestatic 101, 3) := by decide +kernel
theorem d_A_weave_4 : decode M_A_weave.2.1 4 = .ok (.istore_n 3, 1) := by decide +kernel
theorem d_A_weave_5 : decode M_A_weave.2.1 5 = .ok (.aload_n 0, 1) := by decide +kernel
theorem d_A_weave_6 : decode M_A_weave.2.1 6 = .ok (.getfield 47, 3) := by decide +kernel
theorem d_A_weave_9 : decode M_A_weave.2.1 9 = .ok (.iload_n 3, 1) := by decide +kernel
theorem d_A_weave_10 : decode M_A_weave.2.1 10 = .ok (.iaload, 1) := by decide +kernel
theorem d_A_weave_11 : decode M_A_weave.2.1 11 = .ok (.istore 4, 2) := by decide +kernel
theorem d_A_weave_13 : decode M_A_weave.2.1 13 = .ok (.aload_n 0, 1) := by decide +kernel
theorem d_A_weave_14 : decode M_A_weave.2.1 14 = .ok (.getfield 47, 3) := by decide +kernel
theorem d_A_weave_17 : decode M_A_weave.2.1 17 = .ok (.iload_n 3, 1) := by decide +kernel
theorem d_A_weave_18 : decode M_A_weave.2.1 18 = .ok (.iconst (1), 1) := by decide +kernel
theorem d_A_weave_19 : decode M_A_weave.2.1 19 = .ok (.iadd, 1) := by decide +kernel
theorem d_A_weave_20 : decode M_A_weave.2.1 20 = .ok (.iaload, 1) := by decide +kernel
theorem d_A_weave_21 : decode M_A_weave.2.1 21 = .ok (.istore 5, 2) := by decide +kernel
theorem d_A_weave_23 : decode M_A_weave.2.1 23 = .ok (.iload_n 2, 1) := by decide +kernel
theorem d_A_weave_24 : decode M_A_weave.2.1 24 = .ok (.iconst (1), 1) := by decide +kernel
theorem d_A_weave_25 : decode M_A_weave.2.1 25 = .ok (.iadd, 1) := by decide +kernel
theorem d_A_weave_26 : decode M_A_weave.2.1 26 = .ok (.istore 6, 2) := by decide +kernel
theorem d_A_weave_28 : decode M_A_weave.2.1 28 = .ok (.iload_n 1, 1) := by decide +kernel
theorem d_A_weave_29 : decode M_A_weave.2.1 29 = .ok (.ifCond .le (21), 3) := by decide +kernel
theorem d_A_weave_32 : decode M_A_weave.2.1 32 = .ok (.aload_n 0, 1) := by decide +kernel
theorem d_A_weave_33 : decode M_A_weave.2.1 33 = .ok (.getfield 16, 3) := by decide +kernel
theorem d_A_weave_36 : decode M_A_weave.2.1 36 = .ok (.iload 5, 2) := by decide +kernel
theorem d_A_weave_38 : decode M_A_weave.2.1 38 = .ok (.iload 6, 2) := by decide +kernel
theorem d_A_weave_40 : decode M_A_weave.2.1 40 = .ok (.iload_n 2, 1) := by decide +kernel
theorem d_A_weave_41 : decode M_A_weave.2.1 41 = .ok (.iload 4, 2) := by decide +kernel
theorem d_A_weave_43 : decode M_A_weave.2.1 43 = .ok (.iconst (1), 1) := by decide +kernel
theorem d_A_weave_44 : decode M_A_weave.2.1 44 = .ok (.invokevirtual 65, 3) := by decide +kernel
theorem d_A_weave_47 : decode M_A_weave.2.1 47 = .ok (.goto (18), 3) := by decide +kernel
theorem d_A_weave_50 : decode M_A_weave.2.1 50 = .ok (.aload_n 0, 1) := by decide +kernel
theorem d_A_weave_51 : decode M_A_weave.2.1 51 = .ok (.getfield 16, 3) := by decide +kernel
theorem d_A_weave_54 : decode M_A_weave.2.1 54 = .ok (.iload 4, 2) := by decide +kernel
theorem d_A_weave_56 : decode M_A_weave.2.1 56 = .ok (.iload 5, 2) := by decide +kernel
theorem d_A_weave_58 : decode M_A_weave.2.1 58 = .ok (.iload 6, 2) := by decide +kernel
theorem d_A_weave_60 : decode M_A_weave.2.1 60 = .ok (.iload_n 2, 1) := by decide +kernel
theorem d_A_weave_61 : decode M_A_weave.2.1 61 = .ok (.iconst (0), 1) := by decide +kernel
theorem d_A_weave_62 : decode M_A_weave.2.1 62 = .ok (.invokevirtual 65, 3) := by decide +kernel
theorem d_A_weave_65 : decode M_A_weave.2.1 65 = .ok (.aload_n 0, 1) := by decide +kernel
theorem d_A_weave_66 : decode M_A_weave.2.1 66 = .ok (.getfield 47, 3) := by decide +kernel
theorem d_A_weave_69 : decode M_A_weave.2.1 69 = .ok (.iload_n 3, 1) := by decide +kernel
theorem d_A_weave_70 : decode M_A_weave.2.1 70 = .ok (.iload_n 2, 1) := by decide +kernel
theorem d_A_weave_71 : decode M_A_weave.2.1 71 = .ok (.iastore, 1) := by decide +kernel
theorem d_A_weave_72 : decode M_A_weave.2.1 72 = .ok (.aload_n 0, 1) := by decide +kernel
theorem d_A_weave_73 : decode M_A_weave.2.1 73 = .ok (.getfield 47, 3) := by decide +kernel
theorem d_A_weave_76 : decode M_A_weave.2.1 76 = .ok (.iload_n 3, 1) := by decide +kernel
theorem d_A_weave_77 : decode M_A_weave.2.1 77 = .ok (.iconst (1), 1) := by decide +kernel
theorem d_A_weave_78 : decode M_A_weave.2.1 78 = .ok (.iadd, 1) := by decide +kernel
theorem d_A_weave_79 : decode M_A_weave.2.1 79 = .ok (.iload 6, 2) := by decide +kernel
theorem d_A_weave_81 : decode M_A_weave.2.1 81 = .ok (.iastore, 1) := by decide +kernel
theorem d_A_weave_82 : decode M_A_weave.2.1 82 = .ok (.return_, 1) := by decide +kernel
theorem d_A_closePlace_0 : decode M_A_closePlace.2.1 0 = .ok (.aload_n 0, 1) := by decide +kernel
theorem d_A_closePlace_1 : decode M_A_closePlace.2.1 1 = .ok (.getfield 47, 3) := by decide +kernel
theorem d_A_closePlace_4 : decode M_A_closePlace.2.1 4 = .ok (.iload_n 1, 1) := by decide +kernel
theorem d_A_closePlace_5 : decode M_A_closePlace.2.1 5 = .ok (.iaload, 1) := by decide +kernel
theorem d_A_closePlace_6 : decode M_A_closePlace.2.1 6 = .ok (.iload_n 1, 1) := by decide +kernel
theorem d_A_closePlace_7 : decode M_A_closePlace.2.1 7 = .ok (.if_icmp .ne (16), 3) := by decide +kernel
theorem d_A_closePlace_10 : decode M_A_closePlace.2.1 10 = .ok (.aload_n 0, 1) := by decide +kernel
theorem d_A_closePlace_11 : decode M_A_closePlace.2.1 11 = .ok (.dup, 1) := by decide +kernel
theorem d_A_closePlace_12 : decode M_A_closePlace.2.1 12 = .ok (.getfield 54, 3) := by decide +kernel
theorem d_A_closePlace_15 : decode M_A_closePlace.2.1 15 = .ok (.iconst (1), 1) := by decide +kernel
theorem d_A_closePlace_16 : decode M_A_closePlace.2.1 16 = .ok (.iadd, 1) := by decide +kernel
theorem d_A_closePlace_17 : decode M_A_closePlace.2.1 17 = .ok (.putfield 54, 3) := by decide +kernel
theorem d_A_closePlace_20 : decode M_A_closePlace.2.1 20 = .ok (.goto (17), 3) := by decide +kernel
theorem d_A_closePlace_23 : decode M_A_closePlace.2.1 23 = .ok (.aload_n 0, 1) := by decide +kernel
theorem d_A_closePlace_24 : decode M_A_closePlace.2.1 24 = .ok (.getfield 16, 3) := by decide +kernel
theorem d_A_closePlace_27 : decode M_A_closePlace.2.1 27 = .ok (.aload_n 0, 1) := by decide +kernel
theorem d_A_closePlace_28 : decode M_A_closePlace.2.1 28 = .ok (.getfield 47, 3) := by decide +kernel
theorem d_A_closePlace_31 : decode M_A_closePlace.2.1 31 = .ok (.iload_n 1, 1) := by decide +kernel
theorem d_A_closePlace_32 : decode M_A_closePlace.2.1 32 = .ok (.iaload, 1) := by decide +kernel
theorem d_A_closePlace_33 : decode M_A_closePlace.2.1 33 = .ok (.iload_n 1, 1) := by decide +kernel
theorem d_A_closePlace_34 : decode M_A_closePlace.2.1 34 = .ok (.invokevirtual 107, 3) := by decide +kernel
theorem d_A_closePlace_37 : decode M_A_closePlace.2.1 37 = .ok (.return_, 1) := by decide +kernel
theorem d_A_count_0 : decode M_A_count.2.1 0 = .ok (.iload_n 1, 1) := by decide +kernel
theorem d_A_count_1 : decode M_A_count.2.1 1 = .ok (.tableswitch (101) (0) (5) #[39, 47, 52, 69, 77, 89], 39) := by decide +kernel
theorem d_A_count_40 : decode M_A_count.2.1 40 = .ok (.aload_n 0, 1) := by decide +kernel
theorem d_A_count_41 : decode M_A_count.2.1 41 = .ok (.getfield 16, 3) := by decide +kernel
theorem d_A_count_44 : decode M_A_count.2.1 44 = .ok (.invokevirtual 69, 3) := by decide +kernel
theorem d_A_count_47 : decode M_A_count.2.1 47 = .ok (.ireturn, 1) := by decide +kernel
theorem d_A_count_48 : decode M_A_count.2.1 48 = .ok (.aload_n 0, 1) := by decide +kernel
theorem d_A_count_49 : decode M_A_count.2.1 49 = .ok (.getfield 54, 3) := by decide +kernel
theorem d_A_count_52 : decode M_A_count.2.1 52 = .ok (.ireturn, 1) := by decide +kernel
theorem d_A_count_53 : decode M_A_count.2.1 53 = .ok (.aload_n 0, 1) := by decide +kernel
theorem d_A_count_54 : decode M_A_count.2.1 54 = .ok (.getfield 25, 3) := by decide +kernel
theorem d_A_count_57 : decode M_A_count.2.1 57 = .ok (.aload_n 0, 1) := by decide +kernel
theorem d_A_count_58 : decode M_A_count.2.1 58 = .ok (.getfield 16, 3) := by decide +kernel
theorem d_A_count_61 : decode M_A_count.2.1 61 = .ok (.invokevirtual 110, 3) := by decide +kernel
theorem d_A_count_64 : decode M_A_count.2.1 64 = .ok (.aload_n 0, 1) := by decide +kernel
theorem d_A_count_65 : decode M_A_count.2.1 65 = .ok (.getfield 54, 3) := by decide +kernel
theorem d_A_count_68 : decode M_A_count.2.1 68 = .ok (.iadd, 1) := by decide +kernel
theorem d_A_count_69 : decode M_A_count.2.1 69 = .ok (.ireturn, 1) := by decide +kernel
theorem d_A_count_70 : decode M_A_count.2.1 70 = .ok (.aload_n 0, 1) := by decide +kernel
theorem d_A_count_71 : decode M_A_count.2.1 71 = .ok (.getfield 16, 3) := by decide +kernel
theorem d_A_count_74 : decode M_A_count.2.1 74 = .ok (.invokevirtual 114, 3) := by decide +kernel
theorem d_A_count_77 : decode M_A_count.2.1 77 = .ok (.ireturn, 1) := by decide +kernel
theorem d_A_count_78 : decode M_A_count.2.1 78 = .ok (.aload_n 0, 1) := by decide +kernel
theorem d_A_count_79 : decode M_A_count.2.1 79 = .ok (.getfield 25, 3) := by decide +kernel
theorem d_A_count_82 : decode M_A_count.2.1 82 = .ok (.aload_n 0, 1) := by decide +kernel
theorem d_A_count_83 : decode M_A_count.2.1 83 = .ok (.getfield 16, 3) := by decide +kernel
theorem d_A_count_86 : decode M_A_count.2.1 86 = .ok (.invokevirtual 117, 3) := by decide +kernel
theorem d_A_count_89 : decode M_A_count.2.1 89 = .ok (.ireturn, 1) := by decide +kernel
theorem d_A_count_90 : decode M_A_count.2.1 90 = .ok (.aload_n 0, 1) := by decide +kernel
theorem d_A_count_91 : decode M_A_count.2.1 91 = .ok (.getfield 25, 3) := by decide +kernel
theorem d_A_count_94 : decode M_A_count.2.1 94 = .ok (.aload_n 0, 1) := by decide +kernel
theorem d_A_count_95 : decode M_A_count.2.1 95 = .ok (.getfield 16, 3) := by decide +kernel
theorem d_A_count_98 : decode M_A_count.2.1 98 = .ok (.invokevirtual 120, 3) := by decide +kernel
theorem d_A_count_101 : decode M_A_count.2.1 101 = .ok (.ireturn, 1) := by decide +kernel
theorem d_A_count_102 : decode M_A_count.2.1 102 = .ok (.bipush (-100), 2) := by decide +kernel
theorem d_A_count_104 : decode M_A_count.2.1 104 = .ok (.ireturn, 1) := by decide +kernel
theorem d_A_end_0 : decode M_A_end.2.1 0 = .ok (.aload_n 0, 1) := by decide +kernel
theorem d_A_end_1 : decode M_A_end.2.1 1 = .ok (.getfield 16, 3) := by decide +kernel
theorem d_A_end_4 : decode M_A_end.2.1 4 = .ok (.iload_n 1, 1) := by decide +kernel
theorem d_A_end_5 : decode M_A_end.2.1 5 = .ok (.invokevirtual 123, 3) := by decide +kernel
theorem d_A_end_8 : decode M_A_end.2.1 8 = .ok (.ifCond .eq (12), 3) := by decide +kernel
theorem d_A_end_11 : decode M_A_end.2.1 11 = .ok (.iload_n 2, 1) := by decide +kernel
theorem d_A_end_12 : decode M_A_end.2.1 12 = .ok (.ifCond .lt (8), 3) := by decide +kernel
theorem d_A_end_15 : decode M_A_end.2.1 15 = .ok (.iload_n 2, 1) := by decide +kernel
theorem d_A_end_16 : decode M_A_end.2.1 16 = .ok (.iconst (4), 1) := by decide +kernel
theorem d_A_end_17 : decode M_A_end.2.1 17 = .ok (.if_icmp .le (6), 3) := by decide +kernel
theorem d_A_end_20 : decode M_A_end.2.1 20 = .ok (.bipush (-100), 2) := by decide +kernel
theorem d_A_end_22 : decode M_A_end.2.1 22 = .ok (.ireturn, 1) := by decide +kernel
theorem d_A_end_23 : decode M_A_end.2.1 23 = .ok (.iload_n 2, 1) := by decide +kernel
theorem d_A_end_24 : decode M_A_end.2.1 24 = .ok (.iconst (4), 1) := by decide +kernel
theorem d_A_end_25 : decode M_A_end.2.1 25 = .ok (.if_icmp .ne (20), 3) := by decide +kernel
theorem d_A_end_28 : decode M_A_end.2.1 28 = .ok (.aload_n 0, 1) := by decide +kernel
theorem d_A_end_29 : decode M_A_end.2.1 29 = .ok (.getfield 16, 3) := by decide +kernel
theorem d_A_end_32 : decode M_A_end.2.1 32 = .ok (.iload_n 1, 1) := by decide +kernel
theorem d_A_end_33 : decode M_A_end.2.1 33 = .ok (.invokevirtual 126, 3) := by decide +kernel
theorem d_A_end_36 : decode M_A_end.2.1 36 = .ok (.ifCond .eq (7), 3) := by decide +kernel
theorem d_A_end_39 : decode M_A_end.2.1 39 = .ok (.iconst (1), 1) := by decide +kernel
theorem d_A_end_40 : decode M_A_end.2.1 40 = .ok (.goto (4), 3) := by decide +kernel
theorem d_A_end_43 : decode M_A_end.2.1 43 = .ok (.iconst (-1), 1) := by decide +kernel
theorem d_A_end_44 : decode M_A_end.2.1 44 = .ok (.ireturn, 1) := by decide +kernel
theorem d_A_end_45 : decode M_A_end.2.1 45 = .ok (.aload_n 0, 1) := by decide +kernel
theorem d_A_end_46 : decode M_A_end.2.1 46 = .ok (.getfield 16, 3) := by decide +kernel
theorem d_A_end_49 : decode M_A_end.2.1 49 = .ok (.iconst (4), 1) := by decide +kernel
theorem d_A_end_50 : decode M_A_end.2.1 50 = .ok (.iload_n 1, 1) := by decide +kernel
theorem d_A_end_51 : decode M_A_end.2.1 51 = .ok (.imul, 1) := by decide +kernel
theorem d_A_end_52 : decode M_A_end.2.1 52 = .ok (.iload_n 2, 1) := by decide +kernel
theorem d_A_end_53 : decode M_A_end.2.1 53 = .ok (.iadd, 1) := by decide +kernel
theorem d_A_end_54 : decode M_A_end.2.1 54 = .ok (.invokevirtual 129, 3) := by decide +kernel
theorem d_A_end_57 : decode M_A_end.2.1 57 = .ok (.ireturn, 1) := by decide +kernel
theorem d_A_first_0 : decode M_A_first.2.1 0 = .ok (.aload_n 0, 1) := by decide +kernel
theorem d_A_first_1 : decode M_A_first.2.1 1 = .ok (.getfield 16, 3) := by decide +kernel
theorem d_A_first_4 : decode M_A_first.2.1 4 = .ok (.invokevirtual 114, 3) := by decide +kernel
theorem d_A_first_7 : decode M_A_first.2.1 7 = .ok (.i2l, 1) := by decide +kernel
theorem d_A_first_8 : decode M_A_first.2.1 8 = .ok (.lstore_n 2, 1) := by decide +kernel
theorem d_A_first_9 : decode M_A_first.2.1 9 = .ok (.aload_n 0, 1) := by decide +kernel
theorem d_A_first_10 : decode M_A_first.2.1 10 = .ok (.getfield 32, 3) := by decide +kernel
theorem d_A_first_13 : decode M_A_first.2.1 13 = .ok (.aload_n 0, 1) := by decide +kernel
theorem d_A_first_14 : decode M_A_first.2.1 14 = .ok (.getfield 16, 3) := by decide +kernel
theorem d_A_first_17 : decode M_A_first.2.1 17 = .ok (.aload_n 0, 1) := by decide +kernel
theorem d_A_first_18 : decode M_A_first.2.1 18 = .ok (.getfield 54, 3) := by decide +kernel
theorem d_A_first_21 : decode M_A_first.2.1 21 = .ok (.iload_n 1, 1) := by decide +kernel
theorem d_A_first_22 : decode M_A_first.2.1 22 = .ok (.i2l, 1) := by decide +kernel
theorem d_A_first_23 : decode M_A_first.2.1 23 = .ok (.ldc2_w 132, 3) := by decide +kernel
theorem d_A_first_26 : decode M_A_first.2.1 26 = .ok (.lload_n 2, 1) := by decide +kernel
theorem d_A_first_27 : decode M_A_first.2.1 27 = .ok (.lmul, 1) := by decide +kernel
theorem d_A_first_28 : decode M_A_first.2.1 28 = .ok (.ladd, 1) := by decide +kernel
theorem d_A_first_29 : decode M_A_first.2.1 29 = .ok (.invokevirtual 134, 3) := by decide +kernel
theorem d_A_first_32 : decode M_A_first.2.1 32 = .ok (.lstore 4, 2) := by decide +kernel
theorem d_A_first_34 : decode M_A_first.2.1 34 = .ok (.lload_n 2, 1) := by decide +kernel
theorem d_A_first_35 : decode M_A_first.2.1 35 = .ok (.ldc2_w 138, 3) := by decide +kernel
theorem d_A_first_38 : decode M_A_first.2.1 38 = .ok (.lrem, 1) := by decide +kernel
theorem d_A_first_39 : decode M_A_first.2.1 39 = .ok (.lconst 0, 1) := by decide +kernel
theorem d_A_first_40 : decode M_A_first.2.1 40 = .ok (.lcmp, 1) := by decide +kernel
theorem d_A_first_41 : decode M_A_first.2.1 41 = .ok (.ifCond .ne (8), 3) := by decide +kernel
theorem d_A_first_44 : decode M_A_first.2.1 44 = .ok (.lload 4, 2) := by decide +kernel
theorem d_A_first_46 : decode M_A_first.2.1 46 = .ok (.goto (6), 3) := by decide +kernel
theorem d_A_first_49 : decode M_A_first.2.1 49 = .ok (.lload 4, 2) := by decide +kernel
theorem d_A_first_51 : decode M_A_first.2.1 51 = .ok (.lneg, 1) := by decide +kernel
theorem d_A_first_52 : decode M_A_first.2.1 52 = .ok (.lreturn, 1) := by decide +kernel
theorem d_A_second_0 : decode M_A_second.2.1 0 = .ok (.aload_n 0, 1) := by decide +kernel
theorem d_A_second_1 : decode M_A_second.2.1 1 = .ok (.getfield 39, 3) := by decide +kernel
theorem d_A_second_4 : decode M_A_second.2.1 4 = .ok (.aload_n 0, 1) := by decide +kernel
theorem d_A_second_5 : decode M_A_second.2.1 5 = .ok (.getfield 16, 3) := by decide +kernel
theorem d_A_second_8 : decode M_A_second.2.1 8 = .ok (.aload_n 0, 1) := by decide +kernel
theorem d_A_second_9 : decode M_A_second.2.1 9 = .ok (.getfield 54, 3) := by decide +kernel
theorem d_A_second_12 : decode M_A_second.2.1 12 = .ok (.iload_n 1, 1) := by decide +kernel
theorem d_A_second_13 : decode M_A_second.2.1 13 = .ok (.invokevirtual 140, 3) := by decide +kernel
theorem d_A_second_16 : decode M_A_second.2.1 16 = .ok (.lreturn, 1) := by decide +kernel
theorem d_A_twist_0 : decode M_A_twist.2.1 0 = .ok (.aload_n 0, 1) := by decide +kernel
theorem d_A_twist_1 : decode M_A_twist.2.1 1 = .ok (.getfield 16, 3) := by decide +kernel
theorem d_A_twist_4 : decode M_A_twist.2.1 4 = .ok (.invokevirtual 57, 3) := by decide +kernel
theorem d_A_twist_7 : decode M_A_twist.2.1 7 = .ok (.ifCond .ne (12), 3) := by decide +kernel
theorem d_A_twist_10 : decode M_A_twist.2.1 10 = .ok (.iload_n 2, 1) := by decide +kernel
theorem d_A_twist_11 : decode M_A_twist.2.1 11 = .ok (.ifCond .lt (8), 3) := by decide +kernel
theorem d_A_twist_14 : decode M_A_twist.2.1 14 = .ok (.iload_n 2, 1) := by decide +kernel
theorem d_A_twist_15 : decode M_A_twist.2.1 15 = .ok (.iconst (3), 1) := by decide +kernel
theorem d_A_twist_16 : decode M_A_twist.2.1 16 = .ok (.if_icmp .le (5), 3) := by decide +kernel
theorem d_A_twist_19 : decode M_A_twist.2.1 19 = .ok (.iconst (0), 1) := by decide +kernel
theorem d_A_twist_20 : decode M_A_twist.2.1 20 = .ok (.ireturn, 1) := by decide +kernel
theorem d_A_twist_21 : decode M_A_twist.2.1 21 = .ok (.aload_n 0, 1) := by decide +kernel
theorem d_A_twist_22 : decode M_A_twist.2.1 22 = .ok (.iconst (0), 1) := by decide +kernel
theorem d_A_twist_23 : decode M_A_twist.2.1 23 = .ok (.invokevirtual 143, 3) := by decide +kernel
theorem d_A_twist_26 : decode M_A_twist.2.1 26 = .ok (.istore_n 3, 1) := by decide +kernel
theorem d_A_twist_27 : decode M_A_twist.2.1 27 = .ok (.aload_n 0, 1) := by decide +kernel
theorem d_A_twist_28 : decode M_A_twist.2.1 28 = .ok (.iconst (1), 1) := by decide +kernel
theorem d_A_twist_29 : decode M_A_twist.2.1 29 = .ok (.invokevirtual 143, 3) := by decide +kernel
theorem d_A_twist_32 : decode M_A_twist.2.1 32 = .ok (.istore 4, 2) := by decide +kernel
theorem d_A_twist_34 : decode M_A_twist.2.1 34 = .ok (.iload_n 1, 1) := by decide +kernel
theorem d_A_twist_35 : decode M_A_twist.2.1 35 = .ok (.ifCond .ne (33), 3) := by decide +kernel
theorem d_A_twist_38 : decode M_A_twist.2.1 38 = .ok (.aload_n 0, 1) := by decide +kernel
theorem d_A_twist_39 : decode M_A_twist.2.1 39 = .ok (.getfield 54, 3) := by decide +kernel
theorem d_A_twist_42 : decode M_A_twist.2.1 42 = .ok (.ifCond .ne (5), 3) := by decide +kernel
theorem d_A_twist_45 : decode M_A_twist.2.1 45 = .ok (.iconst (0), 1) := by decide +kernel
theorem d_A_twist_46 : decode M_A_twist.2.1 46 = .ok (.ireturn, 1) := by decide +kernel
theorem d_A_twist_47 : decode M_A_twist.2.1 47 = .ok (.aload_n 0, 1) := by decide +kernel
theorem d_A_twist_48 : decode M_A_twist.2.1 48 = .ok (.dup, 1) := by decide +kernel
theorem d_A_twist_49 : decode M_A_twist.2.1 49 = .ok (.getfield 54, 3) := by decide +kernel
theorem d_A_twist_52 : decode M_A_twist.2.1 52 = .ok (.iconst (1), 1) := by decide +kernel
theorem d_A_twist_53 : decode M_A_twist.2.1 53 = .ok (.isub, 1) := by decide +kernel
theorem d_A_twist_54 : decode M_A_twist.2.1 54 = .ok (.putfield 54, 3) := by decide +kernel
theorem d_A_twist_57 : decode M_A_twist.2.1 57 = .ok (.aload_n 0, 1) := by decide +kernel
theorem d_A_twist_58 : decode M_A_twist.2.1 58 = .ok (.iload_n 2, 1) := by decide +kernel
theorem d_A_twist_59 : decode M_A_twist.2.1 59 = .ok (.iload_n 3, 1) := by decide +kernel
theorem d_A_twist_60 : decode M_A_twist.2.1 60 = .ok (.iload 4, 2) := by decide +kernel
theorem d_A_twist_62 : decode M_A_twist.2.1 62 = .ok (.iload_n 3, 1) := by decide +kernel
theorem d_A_twist_63 : decode M_A_twist.2.1 63 = .ok (.invokevirtual 146, 3) := by decide +kernel
theorem d_A_twist_66 : decode M_A_twist.2.1 66 = .ok (.iconst (1), 1) := by decide +kernel
theorem d_A_twist_67 : decode M_A_twist.2.1 67 = .ok (.ireturn, 1) := by decide +kernel
theorem d_A_twist_68 : decode M_A_twist.2.1 68 = .ok (.aload_n 0, 1) := by decide +kernel
theorem d_A_twist_69 : decode M_A_twist.2.1 69 = .ok (.getfield 16, 3) := by decide +kernel
theorem d_A_twist_72 : decode M_A_twist.2.1 72 = .ok (.iload_n 1, 1) := by decide +kernel
theorem d_A_twist_73 : decode M_A_twist.2.1 73 = .ok (.invokevirtual 150, 3) := by decide +kernel
theorem d_A_twist_76 : decode M_A_twist.2.1 76 = .ok (.ifCond .ne (5), 3) := by decide +kernel
theorem d_A_twist_79 : decode M_A_twist.2.1 79 = .ok (.iconst (0), 1) := by decide +kernel
theorem d_A_twist_80 : decode M_A_twist.2.1 80 = .ok (.ireturn, 1) := by decide +kernel
theorem d_A_twist_81 : decode M_A_twist.2.1 81 = .ok (.aload_n 0, 1) := by decide +kernel
theorem d_A_twist_82 : decode M_A_twist.2.1 82 = .ok (.getfield 16, 3) := by decide +kernel
theorem d_A_twist_85 : decode M_A_twist.2.1 85 = .ok (.iload 4, 2) := by decide +kernel
theorem d_A_twist_87 : decode M_A_twist.2.1 87 = .ok (.iload_n 1, 1) := by decide +kernel
theorem d_A_twist_88 : decode M_A_twist.2.1 88 = .ok (.invokevirtual 153, 3) := by decide +kernel
theorem d_A_twist_91 : decode M_A_twist.2.1 91 = .ok (.aload_n 0, 1) := by decide +kernel
theorem d_A_twist_92 : decode M_A_twist.2.1 92 = .ok (.iload_n 2, 1) := by decide +kernel
theorem d_A_twist_93 : decode M_A_twist.2.1 93 = .ok (.iload_n 1, 1) := by decide +kernel
theorem d_A_twist_94 : decode M_A_twist.2.1 94 = .ok (.iload_n 3, 1) := by decide +kernel
theorem d_A_twist_95 : decode M_A_twist.2.1 95 = .ok (.iload 4, 2) := by decide +kernel
theorem d_A_twist_97 : decode M_A_twist.2.1 97 = .ok (.invokevirtual 146, 3) := by decide +kernel
theorem d_A_twist_100 : decode M_A_twist.2.1 100 = .ok (.iconst (1), 1) := by decide +kernel
theorem d_A_twist_101 : decode M_A_twist.2.1 101 = .ok (.ireturn, 1) := by decide +kernel
theorem d_A_appendTwist_0 : decode M_A_appendTwist.2.1 0 = .ok (.iload_n 1, 1) := by decide +kernel
theorem d_A_appendTwist_1 : decode M_A_appendTwist.2.1 1 = .ok (.tableswitch (75) (0) (2) #[27, 43, 59], 27) := by decide +kernel
theorem d_A_appendTwist_28 : decode M_A_appendTwist.2.1 28 = .ok (.aload_n 0, 1) := by decide +kernel
theorem d_A_appendTwist_29 : decode M_A_appendTwist.2.1 29 = .ok (.getfield 16, 3) := by decide +kernel
theorem d_A_appendTwist_32 : decode M_A_appendTwist.2.1 32 = .ok (.iload_n 2, 1) := by decide +kernel
theorem d_A_appendTwist_33 : decode M_A_appendTwist.2.1 33 = .ok (.iload 4, 2) := by decide +kernel
theorem d_A_appendTwist_35 : decode M_A_appendTwist.2.1 35 = .ok (.iload_n 3, 1) := by decide +kernel
theorem d_A_appendTwist_36 : decode M_A_appendTwist.2.1 36 = .ok (.iload_n 3, 1) := by decide +kernel
theorem d_A_appendTwist_37 : decode M_A_appendTwist.2.1 37 = .ok (.iconst (1), 1) := by decide +kernel
theorem d_A_appendTwist_38 : decode M_A_appendTwist.2.1 38 = .ok (.invokevirtual 65, 3) := by decide +kernel
theorem d_A_appendTwist_41 : decode M_A_appendTwist.2.1 41 = .ok (.goto (48), 3) := by decide +kernel
theorem d_A_appendTwist_44 : decode M_A_appendTwist.2.1 44 = .ok (.aload_n 0, 1) := by decide +kernel
theorem d_A_appendTwist_45 : decode M_A_appendTwist.2.1 45 = .ok (.getfield 16, 3) := by decide +kernel
theorem d_A_appendTwist_48 : decode M_A_appendTwist.2.1 48 = .ok (.iload_n 2, 1) := by decide +kernel
theorem d_A_appendTwist_49 : decode M_A_appendTwist.2.1 49 = .ok (.iload_n 3, 1) := by decide +kernel
theorem d_A_appendTwist_50 : decode M_A_appendTwist.2.1 50 = .ok (.iload_n 3, 1) := by decide +kernel
theorem d_A_appendTwist_51 : decode M_A_appendTwist.2.1 51 = .ok (.iload 4, 2) := by decide +kernel
theorem d_A_appendTwist_53 : decode M_A_appendTwist.2.1 53 = .ok (.iconst (0), 1) := by decide +kernel
theorem d_A_appendTwist_54 : decode M_A_appendTwist.2.1 54 = .ok (.invokevirtual 65, 3) := by decide +kernel
theorem d_A_appendTwist_57 : decode M_A_appendTwist.2.1 57 = .ok (.goto (32), 3) := by decide +kernel
theorem d_A_appendTwist_60 : decode M_A_appendTwist.2.1 60 = .ok (.aload_n 0, 1) := by decide +kernel
theorem d_A_appendTwist_61 : decode M_A_appendTwist.2.1 61 = .ok (.getfield 16, 3) := by decide +kernel
theorem d_A_appendTwist_64 : decode M_A_appendTwist.2.1 64 = .ok (.iload_n 3, 1) := by decide +kernel
theorem d_A_appendTwist_65 : decode M_A_appendTwist.2.1 65 = .ok (.iload_n 3, 1) := by decide +kernel
theorem d_A_appendTwist_66 : decode M_A_appendTwist.2.1 66 = .ok (.iload 4, 2) := by decide +kernel
theorem d_A_appendTwist_68 : decode M_A_appendTwist.2.1 68 = .ok (.iload_n 2, 1) := by decide +kernel
theorem d_A_appendTwist_69 : decode M_A_appendTwist.2.1 69 = .ok (.iconst (1), 1) := by decide +kernel
theorem d_A_appendTwist_70 : decode M_A_appendTwist.2.1 70 = .ok (.invokevirtual 65, 3) := by decide +kernel
theorem d_A_appendTwist_73 : decode M_A_appendTwist.2.1 73 = .ok (.goto (16), 3) := by decide +kernel
theorem d_A_appendTwist_76 : decode M_A_appendTwist.2.1 76 = .ok (.aload_n 0, 1) := by decide +kernel
theorem d_A_appendTwist_77 : decode M_A_appendTwist.2.1 77 = .ok (.getfield 16, 3) := by decide +kernel
theorem d_A_appendTwist_80 : decode M_A_appendTwist.2.1 80 = .ok (.iload_n 3, 1) := by decide +kernel
theorem d_A_appendTwist_81 : decode M_A_appendTwist.2.1 81 = .ok (.iload_n 2, 1) := by decide +kernel
theorem d_A_appendTwist_82 : decode M_A_appendTwist.2.1 82 = .ok (.iload 4, 2) := by decide +kernel
theorem d_A_appendTwist_84 : decode M_A_appendTwist.2.1 84 = .ok (.iload_n 3, 1) := by decide +kernel
theorem d_A_appendTwist_85 : decode M_A_appendTwist.2.1 85 = .ok (.iconst (0), 1) := by decide +kernel
theorem d_A_appendTwist_86 : decode M_A_appendTwist.2.1 86 = .ok (.invokevirtual 65, 3) := by decide +kernel
theorem d_A_appendTwist_89 : decode M_A_appendTwist.2.1 89 = .ok (.return_, 1) := by decide +kernel
theorem d_A_untwist_0 : decode M_A_untwist.2.1 0 = .ok (.aload_n 0, 1) := by decide +kernel
theorem d_A_untwist_1 : decode M_A_untwist.2.1 1 = .ok (.iload_n 1, 1) := by decide +kernel
theorem d_A_untwist_2 : decode M_A_untwist.2.1 2 = .ok (.invokevirtual 156, 3) := by decide +kernel
theorem d_A_untwist_5 : decode M_A_untwist.2.1 5 = .ok (.istore_n 2, 1) := by decide +kernel
theorem d_A_untwist_6 : decode M_A_untwist.2.1 6 = .ok (.iload_n 2, 1) := by decide +kernel
theorem d_A_untwist_7 : decode M_A_untwist.2.1 7 = .ok (.iconst (-1), 1) := by decide +kernel
theorem d_A_untwist_8 : decode M_A_untwist.2.1 8 = .ok (.if_icmp .ne (5), 3) := by decide +kernel
theorem d_A_untwist_11 : decode M_A_untwist.2.1 11 = .ok (.iconst (0), 1) := by decide +kernel
theorem d_A_untwist_12 : decode M_A_untwist.2.1 12 = .ok (.ireturn, 1) := by decide +kernel
theorem d_A_untwist_13 : decode M_A_untwist.2.1 13 = .ok (.iload_n 2, 1) := by decide +kernel
theorem d_A_untwist_14 : decode M_A_untwist.2.1 14 = .ok (.iconst (2), 1) := by decide +kernel
theorem d_A_untwist_15 : decode M_A_untwist.2.1 15 = .ok (.invokestatic 159, 3) := by decide +kernel
theorem d_A_untwist_18 : decode M_A_untwist.2.1 18 = .ok (.istore_n 3, 1) := by decide +kernel
theorem d_A_untwist_19 : decode M_A_untwist.2.1 19 = .ok (.iload_n 2, 1) := by decide +kernel
theorem d_A_untwist_20 : decode M_A_untwist.2.1 20 = .ok (.iconst (3), 1) := by decide +kernel
theorem d_A_untwist_21 : decode M_A_untwist.2.1 21 = .ok (.invokestatic 159, 3) := by decide +kernel
theorem d_A_untwist_24 : decode M_A_untwist.2.1 24 = .ok (.istore 4, 2) := by decide +kernel
theorem d_A_untwist_26 : decode M_A_untwist.2.1 26 = .ok (.aload_n 0, 1) := by decide +kernel
theorem d_A_untwist_27 : decode M_A_untwist.2.1 27 = .ok (.getfield 16, 3) := by decide +kernel
theorem d_A_untwist_30 : decode M_A_untwist.2.1 30 = .ok (.iload_n 3, 1) := by decide +kernel
theorem d_A_untwist_31 : decode M_A_untwist.2.1 31 = .ok (.invokevirtual 163, 3) := by decide +kernel
theorem d_A_untwist_34 : decode M_A_untwist.2.1 34 = .ok (.istore 5, 2) := by decide +kernel
theorem d_A_untwist_36 : decode M_A_untwist.2.1 36 = .ok (.aload_n 0, 1) := by decide +kernel
theorem d_A_untwist_37 : decode M_A_untwist.2.1 37 = .ok (.getfield 16, 3) := by decide +kernel
theorem d_A_untwist_40 : decode M_A_untwist.2.1 40 = .ok (.iload 5, 2) := by decide +kernel
theorem d_A_untwist_42 : decode M_A_untwist.2.1 42 = .ok (.ifCond .eq (7), 3) := by decide +kernel
theorem d_A_untwist_45 : decode M_A_untwist.2.1 45 = .ok (.iload_n 3, 1) := by decide +kernel
theorem d_A_untwist_46 : decode M_A_untwist.2.1 46 = .ok (.goto (5), 3) := by decide +kernel
theorem d_A_untwist_49 : decode M_A_untwist.2.1 49 = .ok (.iload 4, 2) := by decide +kernel
theorem d_A_untwist_51 : decode M_A_untwist.2.1 51 = .ok (.invokevirtual 129, 3) := by decide +kernel
theorem d_A_untwist_54 : decode M_A_untwist.2.1 54 = .ok (.istore 6, 2) := by decide +kernel
theorem d_A_untwist_56 : decode M_A_untwist.2.1 56 = .ok (.aload_n 0, 1) := by decide +kernel
theorem d_A_untwist_57 : decode M_A_untwist.2.1 57 = .ok (.getfield 16, 3) := by decide +kernel
theorem d_A_untwist_60 : decode M_A_untwist.2.1 60 = .ok (.iload 5, 2) := by decide +kernel
theorem d_A_untwist_62 : decode M_A_untwist.2.1 62 = .ok (.ifCond .eq (8), 3) := by decide +kernel
theorem d_A_untwist_65 : decode M_A_untwist.2.1 65 = .ok (.iload 4, 2) := by decide +kernel
theorem d_A_untwist_67 : decode M_A_untwist.2.1 67 = .ok (.goto (4), 3) := by decide +kernel
theorem d_A_untwist_70 : decode M_A_untwist.2.1 70 = .ok (.iload_n 3, 1) := by decide +kernel
theorem d_A_untwist_71 : decode M_A_untwist.2.1 71 = .ok (.invokevirtual 129, 3) := by decide +kernel
theorem d_A_untwist_74 : decode M_A_untwist.2.1 74 = .ok (.istore 7, 2) := by decide +kernel
theorem d_A_untwist_76 : decode M_A_untwist.2.1 76 = .ok (.aload_n 0, 1) := by decide +kernel
theorem d_A_untwist_77 : decode M_A_untwist.2.1 77 = .ok (.getfield 16, 3) := by decide +kernel
theorem d_A_untwist_80 : decode M_A_untwist.2.1 80 = .ok (.iload_n 1, 1) := by decide +kernel
theorem d_A_untwist_81 : decode M_A_untwist.2.1 81 = .ok (.invokevirtual 73, 3) := by decide +kernel
theorem d_A_untwist_84 : decode M_A_untwist.2.1 84 = .ok (.aload_n 0, 1) := by decide +kernel
theorem d_A_untwist_85 : decode M_A_untwist.2.1 85 = .ok (.iload 6, 2) := by decide +kernel
theorem d_A_untwist_87 : decode M_A_untwist.2.1 87 = .ok (.iload 7, 2) := by decide +kernel
theorem d_A_untwist_89 : decode M_A_untwist.2.1 89 = .ok (.invokevirtual 166, 3) := by decide +kernel
theorem d_A_untwist_92 : decode M_A_untwist.2.1 92 = .ok (.iconst (1), 1) := by decide +kernel
theorem d_A_untwist_93 : decode M_A_untwist.2.1 93 = .ok (.ireturn, 1) := by decide +kernel
theorem d_A_loopEnd_0 : decode M_A_loopEnd.2.1 0 = .ok (.aload_n 0, 1) := by decide +kernel
theorem d_A_loopEnd_1 : decode M_A_loopEnd.2.1 1 = .ok (.getfield 16, 3) := by decide +kernel
theorem d_A_loopEnd_4 : decode M_A_loopEnd.2.1 4 = .ok (.iload_n 1, 1) := by decide +kernel
theorem d_A_loopEnd_5 : decode M_A_loopEnd.2.1 5 = .ok (.invokevirtual 123, 3) := by decide +kernel
theorem d_A_loopEnd_8 : decode M_A_loopEnd.2.1 8 = .ok (.ifCond .ne (5), 3) := by decide +kernel
theorem d_A_loopEnd_11 : decode M_A_loopEnd.2.1 11 = .ok (.iconst (-1), 1) := by decide +kernel
theorem d_A_loopEnd_12 : decode M_A_loopEnd.2.1 12 = .ok (.ireturn, 1) := by decide +kernel
theorem d_A_loopEnd_13 : decode M_A_loopEnd.2.1 13 = .ok (.iconst (4), 1) := by decide +kernel
theorem d_A_loopEnd_14 : decode M_A_loopEnd.2.1 14 = .ok (.iload_n 1, 1) := by decide +kernel
theorem d_A_loopEnd_15 : decode M_A_loopEnd.2.1 15 = .ok (.imul, 1) := by decide +kernel
theorem d_A_loopEnd_16 : decode M_A_loopEnd.2.1 16 = .ok (.istore_n 2, 1) := by decide +kernel
theorem d_A_loopEnd_17 : decode M_A_loopEnd.2.1 17 = .ok (.iload_n 2, 1) := by decide +kernel
theorem d_A_loopEnd_18 : decode M_A_loopEnd.2.1 18 = .ok (.iconst (4), 1) := by decide +kernel
theorem d_A_loopEnd_19 : decode M_A_loopEnd.2.1 19 = .ok (.iload_n 1, 1) := by decide +kernel
theorem d_A_loopEnd_20 : decode M_A_loopEnd.2.1 20 = .ok (.imul, 1) := by decide +kernel
theorem d_A_loopEnd_21 : decode M_A_loopEnd.2.1 21 = .ok (.iconst (4), 1) := by decide +kernel
theorem d_A_loopEnd_22 : decode M_A_loopEnd.2.1 22 = .ok (.iadd, 1) := by decide +kernel
theorem d_A_loopEnd_23 : decode M_A_loopEnd.2.1 23 = .ok (.if_icmp .ge (34), 3) := by decide +kernel
theorem d_A_loopEnd_26 : decode M_A_loopEnd.2.1 26 = .ok (.aload_n 0, 1) := by decide +kernel
theorem d_A_loopEnd_27 : decode M_A_loopEnd.2.1 27 = .ok (.getfield 16, 3) := by decide +kernel
theorem d_A_loopEnd_30 : decode M_A_loopEnd.2.1 30 = .ok (.iload_n 2, 1) := by decide +kernel
theorem d_A_loopEnd_31 : decode M_A_loopEnd.2.1 31 = .ok (.invokevirtual 129, 3) := by decide +kernel
theorem d_A_loopEnd_34 : decode M_A_loopEnd.2.1 34 = .ok (.aload_n 0, 1) := by decide +kernel
theorem d_A_loopEnd_35 : decode M_A_loopEnd.2.1 35 = .ok (.getfield 16, 3) := by decide +kernel
theorem d_A_loopEnd_38 : decode M_A_loopEnd.2.1 38 = .ok (.iload_n 2, 1) := by decide +kernel
theorem d_A_loopEnd_39 : decode M_A_loopEnd.2.1 39 = .ok (.iconst (1), 1) := by decide +kernel
theorem d_A_loopEnd_40 : decode M_A_loopEnd.2.1 40 = .ok (.invokestatic 159, 3) := by decide +kernel
theorem d_A_loopEnd_43 : decode M_A_loopEnd.2.1 43 = .ok (.invokevirtual 129, 3) := by decide +kernel
theorem d_A_loopEnd_46 : decode M_A_loopEnd.2.1 46 = .ok (.if_icmp .ne (5), 3) := by decide +kernel
theorem d_A_loopEnd_49 : decode M_A_loopEnd.2.1 49 = .ok (.iload_n 2, 1) := by decide +kernel
theorem d_A_loopEnd_50 : decode M_A_loopEnd.2.1 50 = .ok (.ireturn, 1) := by decide +kernel
theorem d_A_loopEnd_51 : decode M_A_loopEnd.2.1 51 = .ok (.iinc 2 (1), 3) := by decide +kernel
theorem d_A_loopEnd_54 : decode M_A_loopEnd.2.1 54 = .ok (.goto (-37), 3) := by decide +kernel
theorem d_A_loopEnd_57 : decode M_A_loopEnd.2.1 57 = .ok (.iconst (-1), 1) := by decide +kernel
theorem d_A_loopEnd_58 : decode M_A_loopEnd.2.1 58 = .ok (.ireturn, 1) := by decide +kernel
theorem d_A_poke_0 : decode M_A_poke.2.1 0 = .ok (.aload_n 0, 1) := by decide +kernel
theorem d_A_poke_1 : decode M_A_poke.2.1 1 = .ok (.getfield 16, 3) := by decide +kernel
theorem d_A_poke_4 : decode M_A_poke.2.1 4 = .ok (.invokevirtual 69, 3) := by decide +kernel
theorem d_A_poke_7 : decode M_A_poke.2.1 7 = .ok (.bipush (6), 2) := by decide +kernel
theorem d_A_poke_9 : decode M_A_poke.2.1 9 = .ok (.if_icmp .gt (8), 3) := by decide +kernel
theorem d_A_poke_12 : decode M_A_poke.2.1 12 = .ok (.iload_n 1, 1) := by decide +kernel
theorem d_A_poke_13 : decode M_A_poke.2.1 13 = .ok (.iload_n 3, 1) := by decide +kernel
theorem d_A_poke_14 : decode M_A_poke.2.1 14 = .ok (.if_icmp .ne (5), 3) := by decide +kernel
theorem d_A_poke_17 : decode M_A_poke.2.1 17 = .ok (.iconst (0), 1) := by decide +kernel
theorem d_A_poke_18 : decode M_A_poke.2.1 18 = .ok (.ireturn, 1) := by decide +kernel
theorem d_A_poke_19 : decode M_A_poke.2.1 19 = .ok (.aload_n 0, 1) := by decide +kernel
theorem d_A_poke_20 : decode M_A_poke.2.1 20 = .ok (.getfield 16, 3) := by decide +kernel
theorem d_A_poke_23 : decode M_A_poke.2.1 23 = .ok (.iload_n 1, 1) := by decide +kernel
theorem d_A_poke_24 : decode M_A_poke.2.1 24 = .ok (.invokevirtual 150, 3) := by decide +kernel
theorem d_A_poke_27 : decode M_A_poke.2.1 27 = .ok (.ifCond .eq (14), 3) := by decide +kernel
theorem d_A_poke_30 : decode M_A_poke.2.1 30 = .ok (.aload_n 0, 1) := by decide +kernel
theorem d_A_poke_31 : decode M_A_poke.2.1 31 = .ok (.getfield 16, 3) := by decide +kernel
theorem d_A_poke_34 : decode M_A_poke.2.1 34 = .ok (.iload_n 3, 1) := by decide +kernel
theorem d_A_poke_35 : decode M_A_poke.2.1 35 = .ok (.invokevirtual 150, 3) := by decide +kernel
theorem d_A_poke_38 : decode M_A_poke.2.1 38 = .ok (.ifCond .ne (5), 3) := by decide +kernel
theorem d_A_poke_41 : decode M_A_poke.2.1 41 = .ok (.iconst (0), 1) := by decide +kernel
theorem d_A_poke_42 : decode M_A_poke.2.1 42 = .ok (.ireturn, 1) := by decide +kernel
theorem d_A_poke_43 : decode M_A_poke.2.1 43 = .ok (.aload_n 0, 1) := by decide +kernel
theorem d_A_poke_44 : decode M_A_poke.2.1 44 = .ok (.getfield 25, 3) := by decide +kernel
theorem d_A_poke_47 : decode M_A_poke.2.1 47 = .ok (.aload_n 0, 1) := by decide +kernel
theorem d_A_poke_48 : decode M_A_poke.2.1 48 = .ok (.getfield 16, 3) := by decide +kernel
theorem d_A_poke_51 : decode M_A_poke.2.1 51 = .ok (.aload_n 0, 1) := by decide +kernel
theorem d_A_poke_52 : decode M_A_poke.2.1 52 = .ok (.getfield 16, 3) := by decide +kernel
theorem d_A_poke_55 : decode M_A_poke.2.1 55 = .ok (.iload_n 1, 1) := by decide +kernel
theorem d_A_poke_56 : decode M_A_poke.2.1 56 = .ok (.iload_n 2, 1) := by decide +kernel
theorem d_A_poke_57 : decode M_A_poke.2.1 57 = .ok (.invokevirtual 169, 3) := by decide +kernel
theorem d_A_poke_60 : decode M_A_poke.2.1 60 = .ok (.aload_n 0, 1) := by decide +kernel
theorem d_A_poke_61 : decode M_A_poke.2.1 61 = .ok (.getfield 16, 3) := by decide +kernel
theorem d_A_poke_64 : decode M_A_poke.2.1 64 = .ok (.iload_n 3, 1) := by decide +kernel
theorem d_A_poke_65 : decode M_A_poke.2.1 65 = .ok (.iload 4, 2) := by decide +kernel
theorem d_A_poke_67 : decode M_A_poke.2.1 67 = .ok (.invokevirtual 169, 3) := by decide +kernel
theorem d_A_poke_70 : decode M_A_poke.2.1 70 = .ok (.invokevirtual 173, 3) := by decide +kernel
theorem d_A_poke_73 : decode M_A_poke.2.1 73 = .ok (.ifCond .ne (5), 3) := by decide +kernel
theorem d_A_poke_76 : decode M_A_poke.2.1 76 = .ok (.iconst (0), 1) := by decide +kernel
theorem d_A_poke_77 : decode M_A_poke.2.1 77 = .ok (.ireturn, 1) := by decide +kernel
theorem d_A_poke_78 : decode M_A_poke.2.1 78 = .ok (.aload_n 0, 1) := by decide +kernel
theorem d_A_poke_79 : decode M_A_poke.2.1 79 = .ok (.iconst (0), 1) := by decide +kernel
theorem d_A_poke_80 : decode M_A_poke.2.1 80 = .ok (.invokevirtual 143, 3) := by decide +kernel
theorem d_A_poke_83 : decode M_A_poke.2.1 83 = .ok (.istore 5, 2) := by decide +kernel
theorem d_A_poke_85 : decode M_A_poke.2.1 85 = .ok (.aload_n 0, 1) := by decide +kernel
theorem d_A_poke_86 : decode M_A_poke.2.1 86 = .ok (.iconst (1), 1) := by decide +kernel
theorem d_A_poke_87 : decode M_A_poke.2.1 87 = .ok (.invokevirtual 143, 3) := by decide +kernel
theorem d_A_poke_90 : decode M_A_poke.2.1 90 = .ok (.istore 6, 2) := by decide +kernel
theorem d_A_poke_92 : decode M_A_poke.2.1 92 = .ok (.aload_n 0, 1) := by decide +kernel
theorem d_A_poke_93 : decode M_A_poke.2.1 93 = .ok (.iconst (2), 1) := by decide +kernel
theorem d_A_poke_94 : decode M_A_poke.2.1 94 = .ok (.invokevirtual 143, 3) := by decide +kernel
theorem d_A_poke_97 : decode M_A_poke.2.1 97 = .ok (.istore 7, 2) := by decide +kernel
theorem d_A_poke_99 : decode M_A_poke.2.1 99 = .ok (.aload_n 0, 1) := by decide +kernel
theorem d_A_poke_100 : decode M_A_poke.2.1 100 = .ok (.iconst (3), 1) := by decide +kernel
theorem d_A_poke_101 : decode M_A_poke.2.1 101 = .ok (.invokevirtual 143, 3) := by decide +kernel
theorem d_A_poke_104 : decode M_A_poke.2.1 104 = .ok (.istore 8, 2) := by decide +kernel
theorem d_A_poke_106 : decode M_A_poke.2.1 106 = .ok (.aload_n 0, 1) := by decide +kernel
theorem d_A_poke_107 : decode M_A_poke.2.1 107 = .ok (.getfield 16, 3) := by decide +kernel
theorem d_A_poke_110 : decode M_A_poke.2.1 110 = .ok (.iload 6, 2) := by decide +kernel
theorem d_A_poke_112 : decode M_A_poke.2.1 112 = .ok (.iload_n 1, 1) := by decide +kernel
theorem d_A_poke_113 : decode M_A_poke.2.1 113 = .ok (.invokevirtual 153, 3) := by decide +kernel
theorem d_A_poke_116 : decode M_A_poke.2.1 116 = .ok (.aload_n 0, 1) := by decide +kernel
theorem d_A_poke_117 : decode M_A_poke.2.1 117 = .ok (.getfield 16, 3) := by decide +kernel
theorem d_A_poke_120 : decode M_A_poke.2.1 120 = .ok (.iload 8, 2) := by decide +kernel
theorem d_A_poke_122 : decode M_A_poke.2.1 122 = .ok (.iload_n 3, 1) := by decide +kernel
theorem d_A_poke_123 : decode M_A_poke.2.1 123 = .ok (.invokevirtual 153, 3) := by decide +kernel
theorem d_A_poke_126 : decode M_A_poke.2.1 126 = .ok (.iload_n 2, 1) := by decide +kernel
theorem d_A_poke_127 : decode M_A_poke.2.1 127 = .ok (.ifCond .eq (41), 3) := by decide +kernel
theorem d_A_poke_130 : decode M_A_poke.2.1 130 = .ok (.iload 4, 2) := by decide +kernel
theorem d_A_poke_132 : decode M_A_poke.2.1 132 = .ok (.ifCond .eq (36), 3) := by decide +kernel
theorem d_A_poke_135 : decode M_A_poke.2.1 135 = .ok (.aload_n 0, 1) := by decide +kernel
theorem d_A_poke_136 : decode M_A_poke.2.1 136 = .ok (.getfield 16, 3) := by decide +kernel
theorem d_A_poke_139 : decode M_A_poke.2.1 139 = .ok (.iload 7, 2) := by decide +kernel
theorem d_A_poke_141 : decode M_A_poke.2.1 141 = .ok (.iload_n 1, 1) := by decide +kernel
theorem d_A_poke_142 : decode M_A_poke.2.1 142 = .ok (.iload 8, 2) := by decide +kernel
theorem d_A_poke_144 : decode M_A_poke.2.1 144 = .ok (.iload 5, 2) := by decide +kernel
theorem d_A_poke_146 : decode M_A_poke.2.1 146 = .ok (.iconst (0), 1) := by decide +kernel
theorem d_A_poke_147 : decode M_A_poke.2.1 147 = .ok (.invokevirtual 65, 3) := by decide +kernel
theorem d_A_poke_150 : decode M_A_poke.2.1 150 = .ok (.aload_n 0, 1) := by decide +kernel
theorem d_A_poke_151 : decode M_A_poke.2.1 151 = .ok (.getfield 16, 3) := by decide +kernel
theorem d_A_poke_154 : decode M_A_poke.2.1 154 = .ok (.iload_n 3, 1) := by decide +kernel
theorem d_A_poke_155 : decode M_A_poke.2.1 155 = .ok (.iload 6, 2) := by decide +kernel
theorem d_A_poke_157 : decode M_A_poke.2.1 157 = .ok (.iload 7, 2) := by decide +kernel
theorem d_A_poke_159 : decode M_A_poke.2.1 159 = .ok (.iload 5, 2) := by decide +kernel
theorem d_A_poke_161 : decode M_A_poke.2.1 161 = .ok (.iconst (1), 1) := by decide +kernel
theorem d_A_poke_162 : decode M_A_poke.2.1 162 = .ok (.invokevirtual 65, 3) := by decide +kernel
theorem d_A_poke_165 : decode M_A_poke.2.1 165 = .ok (.goto (108), 3) := by decide +kernel
theorem d_A_poke_168 : decode M_A_poke.2.1 168 = .ok (.iload_n 2, 1) := by decide +kernel
theorem d_A_poke_169 : decode M_A_poke.2.1 169 = .ok (.ifCond .eq (36), 3) := by decide +kernel
theorem d_A_poke_172 : decode M_A_poke.2.1 172 = .ok (.aload_n 0, 1) := by decide +kernel
theorem d_A_poke_173 : decode M_A_poke.2.1 173 = .ok (.getfield 16, 3) := by decide +kernel
theorem d_A_poke_176 : decode M_A_poke.2.1 176 = .ok (.iload_n 3, 1) := by decide +kernel
theorem d_A_poke_177 : decode M_A_poke.2.1 177 = .ok (.iload 5, 2) := by decide +kernel
theorem d_A_poke_179 : decode M_A_poke.2.1 179 = .ok (.iload 7, 2) := by decide +kernel
theorem d_A_poke_181 : decode M_A_poke.2.1 181 = .ok (.iload_n 1, 1) := by decide +kernel
theorem d_A_poke_182 : decode M_A_poke.2.1 182 = .ok (.iconst (1), 1) := by decide +kernel
theorem d_A_poke_183 : decode M_A_poke.2.1 183 = .ok (.invokevirtual 65, 3) := by decide +kernel
theorem d_A_poke_186 : decode M_A_poke.2.1 186 = .ok (.aload_n 0, 1) := by decide +kernel
theorem d_A_poke_187 : decode M_A_poke.2.1 187 = .ok (.getfield 16, 3) := by decide +kernel
theorem d_A_poke_190 : decode M_A_poke.2.1 190 = .ok (.iload 7, 2) := by decide +kernel
theorem d_A_poke_192 : decode M_A_poke.2.1 192 = .ok (.iload 5, 2) := by decide +kernel
theorem d_A_poke_194 : decode M_A_poke.2.1 194 = .ok (.iload 8, 2) := by decide +kernel
theorem d_A_poke_196 : decode M_A_poke.2.1 196 = .ok (.iload 6, 2) := by decide +kernel
theorem d_A_poke_198 : decode M_A_poke.2.1 198 = .ok (.iconst (0), 1) := by decide +kernel
theorem d_A_poke_199 : decode M_A_poke.2.1 199 = .ok (.invokevirtual 65, 3) := by decide +kernel
theorem d_A_poke_202 : decode M_A_poke.2.1 202 = .ok (.goto (71), 3) := by decide +kernel
theorem d_A_poke_205 : decode M_A_poke.2.1 205 = .ok (.iload 4, 2) := by decide +kernel
theorem d_A_poke_207 : decode M_A_poke.2.1 207 = .ok (.ifCond .eq (36), 3) := by decide +kernel
theorem d_A_poke_210 : decode M_A_poke.2.1 210 = .ok (.aload_n 0, 1) := by decide +kernel
theorem d_A_poke_211 : decode M_A_poke.2.1 211 = .ok (.getfield 16, 3) := by decide +kernel
theorem d_A_poke_214 : decode M_A_poke.2.1 214 = .ok (.iload_n 3, 1) := by decide +kernel
theorem d_A_poke_215 : decode M_A_poke.2.1 215 = .ok (.iload_n 1, 1) := by decide +kernel
theorem d_A_poke_216 : decode M_A_poke.2.1 216 = .ok (.iload 7, 2) := by decide +kernel
theorem d_A_poke_218 : decode M_A_poke.2.1 218 = .ok (.iload 5, 2) := by decide +kernel
theorem d_A_poke_220 : decode M_A_poke.2.1 220 = .ok (.iconst (0), 1) := by decide +kernel
theorem d_A_poke_221 : decode M_A_poke.2.1 221 = .ok (.invokevirtual 65, 3) := by decide +kernel
theorem d_A_poke_224 : decode M_A_poke.2.1 224 = .ok (.aload_n 0, 1) := by decide +kernel
theorem d_A_poke_225 : decode M_A_poke.2.1 225 = .ok (.getfield 16, 3) := by decide +kernel
theorem d_A_poke_228 : decode M_A_poke.2.1 228 = .ok (.iload 7, 2) := by decide +kernel
theorem d_A_poke_230 : decode M_A_poke.2.1 230 = .ok (.iload 6, 2) := by decide +kernel
theorem d_A_poke_232 : decode M_A_poke.2.1 232 = .ok (.iload 8, 2) := by decide +kernel
theorem d_A_poke_234 : decode M_A_poke.2.1 234 = .ok (.iload 5, 2) := by decide +kernel
theorem d_A_poke_236 : decode M_A_poke.2.1 236 = .ok (.iconst (1), 1) := by decide +kernel
theorem d_A_poke_237 : decode M_A_poke.2.1 237 = .ok (.invokevirtual 65, 3) := by decide +kernel
theorem d_A_poke_240 : decode M_A_poke.2.1 240 = .ok (.goto (33), 3) := by decide +kernel
theorem d_A_poke_243 : decode M_A_poke.2.1 243 = .ok (.aload_n 0, 1) := by decide +kernel
theorem d_A_poke_244 : decode M_A_poke.2.1 244 = .ok (.getfield 16, 3) := by decide +kernel
theorem d_A_poke_247 : decode M_A_poke.2.1 247 = .ok (.iload 7, 2) := by decide +kernel
theorem d_A_poke_249 : decode M_A_poke.2.1 249 = .ok (.iload 5, 2) := by decide +kernel
theorem d_A_poke_251 : decode M_A_poke.2.1 251 = .ok (.iload 8, 2) := by decide +kernel
theorem d_A_poke_253 : decode M_A_poke.2.1 253 = .ok (.iload_n 1, 1) := by decide +kernel
theorem d_A_poke_254 : decode M_A_poke.2.1 254 = .ok (.iconst (1), 1) := by decide +kernel
theorem d_A_poke_255 : decode M_A_poke.2.1 255 = .ok (.invokevirtual 65, 3) := by decide +kernel
theorem d_A_poke_258 : decode M_A_poke.2.1 258 = .ok (.aload_n 0, 1) := by decide +kernel
theorem d_A_poke_259 : decode M_A_poke.2.1 259 = .ok (.getfield 16, 3) := by decide +kernel
theorem d_A_poke_262 : decode M_A_poke.2.1 262 = .ok (.iload_n 3, 1) := by decide +kernel
theorem d_A_poke_263 : decode M_A_poke.2.1 263 = .ok (.iload 5, 2) := by decide +kernel
theorem d_A_poke_265 : decode M_A_poke.2.1 265 = .ok (.iload 7, 2) := by decide +kernel
theorem d_A_poke_267 : decode M_A_poke.2.1 267 = .ok (.iload 6, 2) := by decide +kernel
theorem d_A_poke_269 : decode M_A_poke.2.1 269 = .ok (.iconst (0), 1) := by decide +kernel
theorem d_A_poke_270 : decode M_A_poke.2.1 270 = .ok (.invokevirtual 65, 3) := by decide +kernel
theorem d_A_poke_273 : decode M_A_poke.2.1 273 = .ok (.iconst (1), 1) := by decide +kernel
theorem d_A_poke_274 : decode M_A_poke.2.1 274 = .ok (.ireturn, 1) := by decide +kernel
theorem d_A_unpoke_0 : decode M_A_unpoke.2.1 0 = .ok (.iload_n 1, 1) := by decide +kernel
theorem d_A_unpoke_1 : decode M_A_unpoke.2.1 1 = .ok (.iload_n 2, 1) := by decide +kernel
theorem d_A_unpoke_2 : decode M_A_unpoke.2.1 2 = .ok (.if_icmp .eq (25), 3) := by decide +kernel
theorem d_A_unpoke_5 : decode M_A_unpoke.2.1 5 = .ok (.aload_n 0, 1) := by decide +kernel
theorem d_A_unpoke_6 : decode M_A_unpoke.2.1 6 = .ok (.getfield 16, 3) := by decide +kernel
theorem d_A_unpoke_9 : decode M_A_unpoke.2.1 9 = .ok (.iload_n 1, 1) := by decide +kernel
theorem d_A_unpoke_10 : decode M_A_unpoke.2.1 10 = .ok (.invokevirtual 123, 3) := by decide +kernel
theorem d_A_unpoke_13 : decode M_A_unpoke.2.1 13 = .ok (.ifCond .eq (14), 3) := by decide +kernel
theorem d_A_unpoke_16 : decode M_A_unpoke.2.1 16 = .ok (.aload_n 0, 1) := by decide +kernel
theorem d_A_unpoke_17 : decode M_A_unpoke.2.1 17 = .ok (.getfield 16, 3) := by decide +kernel
theorem d_A_unpoke_20 : decode M_A_unpoke.2.1 20 = .ok (.iload_n 2, 1) := by decide +kernel
theorem d_A_unpoke_21 : decode M_A_unpoke.2.1 21 = .ok (.invokevirtual 123, 3) := by decide +kernel
theorem d_A_unpoke_24 : decode M_A_unpoke.2.1 24 = .ok (.ifCond .ne (5), 3) := by decide +kernel
theorem d_A_unpoke_27 : decode M_A_unpoke.2.1 27 = .ok (.iconst (0), 1) := by decide +kernel
theorem d_A_unpoke_28 : decode M_A_unpoke.2.1 28 = .ok (.ireturn, 1) := by decide +kernel
theorem d_A_unpoke_29 : decode M_A_unpoke.2.1 29 = .ok (.iconst (4), 1) := by decide +kernel
theorem d_A_unpoke_30 : decode M_A_unpoke.2.1 30 = .ok (.iload_n 1, 1) := by decide +kernel
theorem d_A_unpoke_31 : decode M_A_unpoke.2.1 31 = .ok (.imul, 1) := by decide +kernel
theorem d_A_unpoke_32 : decode M_A_unpoke.2.1 32 = .ok (.istore_n 3, 1) := by decide +kernel
theorem d_A_unpoke_33 : decode M_A_unpoke.2.1 33 = .ok (.iload_n 3, 1) := by decide +kernel
theorem d_A_unpoke_34 : decode M_A_unpoke.2.1 34 = .ok (.iconst (4), 1) := by decide +kernel
theorem d_A_unpoke_35 : decode M_A_unpoke.2.1 35 = .ok (.iload_n 1, 1) := by decide +kernel
theorem d_A_unpoke_36 : decode M_A_unpoke.2.1 36 = .ok (.imul, 1) := by decide +kernel
theorem d_A_unpoke_37 : decode M_A_unpoke.2.1 37 = .ok (.iconst (4), 1) := by decide +kernel
theorem d_A_unpoke_38 : decode M_A_unpoke.2.1 38 = .ok (.iadd, 1) := by decide +kernel
theorem d_A_unpoke_39 : decode M_A_unpoke.2.1 39 = .ok (.if_icmp .ge (33), 3) := by decide +kernel
theorem d_A_unpoke_42 : decode M_A_unpoke.2.1 42 = .ok (.aload_n 0, 1) := by decide +kernel
theorem d_A_unpoke_43 : decode M_A_unpoke.2.1 43 = .ok (.iload_n 3, 1) := by decide +kernel
theorem d_A_unpoke_44 : decode M_A_unpoke.2.1 44 = .ok (.iload_n 2, 1) := by decide +kernel
theorem d_A_unpoke_45 : decode M_A_unpoke.2.1 45 = .ok (.invokevirtual 177, 3) := by decide +kernel
theorem d_A_unpoke_48 : decode M_A_unpoke.2.1 48 = .ok (.ifCond .eq (18), 3) := by decide +kernel
theorem d_A_unpoke_51 : decode M_A_unpoke.2.1 51 = .ok (.aload_n 0, 1) := by decide +kernel
theorem d_A_unpoke_52 : decode M_A_unpoke.2.1 52 = .ok (.iload_n 3, 1) := by decide +kernel
theorem d_A_unpoke_53 : decode M_A_unpoke.2.1 53 = .ok (.aload_n 0, 1) := by decide +kernel
theorem d_A_unpoke_54 : decode M_A_unpoke.2.1 54 = .ok (.getfield 16, 3) := by decide +kernel
theorem d_A_unpoke_57 : decode M_A_unpoke.2.1 57 = .ok (.iload_n 3, 1) := by decide +kernel
theorem d_A_unpoke_58 : decode M_A_unpoke.2.1 58 = .ok (.invokevirtual 181, 3) := by decide +kernel
theorem d_A_unpoke_61 : decode M_A_unpoke.2.1 61 = .ok (.invokevirtual 184, 3) := by decide +kernel
theorem d_A_unpoke_64 : decode M_A_unpoke.2.1 64 = .ok (.iconst (1), 1) := by decide +kernel
theorem d_A_unpoke_65 : decode M_A_unpoke.2.1 65 = .ok (.ireturn, 1) := by decide +kernel
theorem d_A_unpoke_66 : decode M_A_unpoke.2.1 66 = .ok (.iinc 3 (1), 3) := by decide +kernel
theorem d_A_unpoke_69 : decode M_A_unpoke.2.1 69 = .ok (.goto (-36), 3) := by decide +kernel
theorem d_A_unpoke_72 : decode M_A_unpoke.2.1 72 = .ok (.iconst (0), 1) := by decide +kernel
theorem d_A_unpoke_73 : decode M_A_unpoke.2.1 73 = .ok (.ireturn, 1) := by decide +kernel
theorem d_A_isPokedFace_0 : decode M_A_isPokedFace.2.1 0 = .ok (.aload_n 0, 1) := by decide +kernel
theorem d_A_isPokedFace_1 : decode M_A_isPokedFace.2.1 1 = .ok (.getfield 16, 3) := by decide +kernel
theorem d_A_isPokedFace_4 : decode M_A_isPokedFace.2.1 4 = .ok (.iload_n 1, 1) := by decide +kernel
theorem d_A_isPokedFace_5 : decode M_A_isPokedFace.2.1 5 = .ok (.invokevirtual 181, 3) := by decide +kernel
theorem d_A_isPokedFace_8 : decode M_A_isPokedFace.2.1 8 = .ok (.istore_n 3, 1) := by decide +kernel
theorem d_A_isPokedFace_9 : decode M_A_isPokedFace.2.1 9 = .ok (.iload_n 3, 1) := by decide +kernel
theorem d_A_isPokedFace_10 : decode M_A_isPokedFace.2.1 10 = .ok (.invokestatic 187, 3) := by decide +kernel
theorem d_A_isPokedFace_13 : decode M_A_isPokedFace.2.1 13 = .ok (.iload_n 2, 1) := by decide +kernel
theorem d_A_isPokedFace_14 : decode M_A_isPokedFace.2.1 14 = .ok (.if_icmp .ne (15), 3) := by decide +kernel
theorem d_A_isPokedFace_17 : decode M_A_isPokedFace.2.1 17 = .ok (.aload_n 0, 1) := by decide +kernel
theorem d_A_isPokedFace_18 : decode M_A_isPokedFace.2.1 18 = .ok (.getfield 16, 3) := by decide +kernel
theorem d_A_isPokedFace_21 : decode M_A_isPokedFace.2.1 21 = .ok (.iload_n 3, 1) := by decide +kernel
theorem d_A_isPokedFace_22 : decode M_A_isPokedFace.2.1 22 = .ok (.invokevirtual 181, 3) := by decide +kernel
theorem d_A_isPokedFace_25 : decode M_A_isPokedFace.2.1 25 = .ok (.iload_n 1, 1) := by decide +kernel
theorem d_A_isPokedFace_26 : decode M_A_isPokedFace.2.1 26 = .ok (.if_icmp .eq (5), 3) := by decide +kernel
theorem d_A_isPokedFace_29 : decode M_A_isPokedFace.2.1 29 = .ok (.iconst (0), 1) := by decide +kernel
theorem d_A_isPokedFace_30 : decode M_A_isPokedFace.2.1 30 = .ok (.ireturn, 1) := by decide +kernel
theorem d_A_isPokedFace_31 : decode M_A_isPokedFace.2.1 31 = .ok (.iload_n 1, 1) := by decide +kernel
theorem d_A_isPokedFace_32 : decode M_A_isPokedFace.2.1 32 = .ok (.invokestatic 190, 3) := by decide +kernel
theorem d_A_isPokedFace_35 : decode M_A_isPokedFace.2.1 35 = .ok (.aload_n 0, 1) := by decide +kernel
theorem d_A_isPokedFace_36 : decode M_A_isPokedFace.2.1 36 = .ok (.getfield 16, 3) := by decide +kernel
theorem d_A_isPokedFace_39 : decode M_A_isPokedFace.2.1 39 = .ok (.iload_n 1, 1) := by decide +kernel
theorem d_A_isPokedFace_40 : decode M_A_isPokedFace.2.1 40 = .ok (.invokevirtual 193, 3) := by decide +kernel
theorem d_A_isPokedFace_43 : decode M_A_isPokedFace.2.1 43 = .ok (.invokestatic 190, 3) := by decide +kernel
theorem d_A_isPokedFace_46 : decode M_A_isPokedFace.2.1 46 = .ok (.if_icmp .ne (7), 3) := by decide +kernel
theorem d_A_isPokedFace_49 : decode M_A_isPokedFace.2.1 49 = .ok (.iconst (1), 1) := by decide +kernel
theorem d_A_isPokedFace_50 : decode M_A_isPokedFace.2.1 50 = .ok (.goto (4), 3) := by decide +kernel
theorem d_A_isPokedFace_53 : decode M_A_isPokedFace.2.1 53 = .ok (.iconst (0), 1) := by decide +kernel
theorem d_A_isPokedFace_54 : decode M_A_isPokedFace.2.1 54 = .ok (.ireturn, 1) := by decide +kernel
theorem d_A_pullApart_0 : decode M_A_pullApart.2.1 0 = .ok (.iload_n 1, 1) := by decide +kernel
theorem d_A_pullApart_1 : decode M_A_pullApart.2.1 1 = .ok (.invokestatic 190, 3) := by decide +kernel
theorem d_A_pullApart_4 : decode M_A_pullApart.2.1 4 = .ok (.ifCond .eq (7), 3) := by decide +kernel
theorem d_A_pullApart_7 : decode M_A_pullApart.2.1 7 = .ok (.iload_n 1, 1) := by decide +kernel
theorem d_A_pullApart_8 : decode M_A_pullApart.2.1 8 = .ok (.goto (4), 3) := by decide +kernel
theorem d_A_pullApart_11 : decode M_A_pullApart.2.1 11 = .ok (.iload_n 2, 1) := by decide +kernel
theorem d_A_pullApart_12 : decode M_A_pullApart.2.1 12 = .ok (.istore_n 3, 1) := by decide +kernel
theorem d_A_pullApart_13 : decode M_A_pullApart.2.1 13 = .ok (.iload_n 1, 1) := by decide +kernel
theorem d_A_pullApart_14 : decode M_A_pullApart.2.1 14 = .ok (.invokestatic 190, 3) := by decide +kernel
theorem d_A_pullApart_17 : decode M_A_pullApart.2.1 17 = .ok (.ifCond .eq (7), 3) := by decide +kernel
theorem d_A_pullApart_20 : decode M_A_pullApart.2.1 20 = .ok (.iload_n 2, 1) := by decide +kernel
theorem d_A_pullApart_21 : decode M_A_pullApart.2.1 21 = .ok (.goto (4), 3) := by decide +kernel
theorem d_A_pullApart_24 : decode M_A_pullApart.2.1 24 = .ok (.iload_n 1, 1) := by decide +kernel
theorem d_A_pullApart_25 : decode M_A_pullApart.2.1 25 = .ok (.istore 4, 2) := by decide +kernel
theorem d_A_pullApart_27 : decode M_A_pullApart.2.1 27 = .ok (.aload_n 0, 1) := by decide +kernel
theorem d_A_pullApart_28 : decode M_A_pullApart.2.1 28 = .ok (.getfield 16, 3) := by decide +kernel
theorem d_A_pullApart_31 : decode M_A_pullApart.2.1 31 = .ok (.iload_n 3, 1) := by decide +kernel
theorem d_A_pullApart_32 : decode M_A_pullApart.2.1 32 = .ok (.invokevirtual 196, 3) := by decide +kernel
theorem d_A_pullApart_35 : decode M_A_pullApart.2.1 35 = .ok (.istore 5, 2) := by decide +kernel
theorem d_A_pullApart_37 : decode M_A_pullApart.2.1 37 = .ok (.aload_n 0, 1) := by decide +kernel
theorem d_A_pullApart_38 : decode M_A_pullApart.2.1 38 = .ok (.getfield 16, 3) := by decide +kernel
theorem d_A_pullApart_41 : decode M_A_pullApart.2.1 41 = .ok (.iload_n 3, 1) := by decide +kernel
theorem d_A_pullApart_42 : decode M_A_pullApart.2.1 42 = .ok (.invokevirtual 199, 3) := by decide +kernel
theorem d_A_pullApart_45 : decode M_A_pullApart.2.1 45 = .ok (.istore 6, 2) := by decide +kernel
theorem d_A_pullApart_47 : decode M_A_pullApart.2.1 47 = .ok (.aload_n 0, 1) := by decide +kernel
theorem d_A_pullApart_48 : decode M_A_pullApart.2.1 48 = .ok (.getfield 16, 3) := by decide +kernel
theorem d_A_pullApart_51 : decode M_A_pullApart.2.1 51 = .ok (.iload 4, 2) := by decide +kernel
theorem d_A_pullApart_53 : decode M_A_pullApart.2.1 53 = .ok (.invokevirtual 196, 3) := by decide +kernel
theorem d_A_pullApart_56 : decode M_A_pullApart.2.1 56 = .ok (.istore 7, 2) := by decide +kernel
theorem d_A_pullApart_58 : decode M_A_pullApart.2.1 58 = .ok (.aload_n 0, 1) := by decide +kernel
theorem d_A_pullApart_59 : decode M_A_pullApart.2.1 59 = .ok (.getfield 16, 3) := by decide +kernel
theorem d_A_pullApart_62 : decode M_A_pullApart.2.1 62 = .ok (.iload 4, 2) := by decide +kernel
theorem d_A_pullApart_64 : decode M_A_pullApart.2.1 64 = .ok (.invokevirtual 199, 3) := by decide +kernel
theorem d_A_pullApart_67 : decode M_A_pullApart.2.1 67 = .ok (.istore 8, 2) := by decide +kernel
theorem d_A_pullApart_69 : decode M_A_pullApart.2.1 69 = .ok (.aload_n 0, 1) := by decide +kernel
theorem d_A_pullApart_70 : decode M_A_pullApart.2.1 70 = .ok (.getfield 16, 3) := by decide +kernel
theorem d_A_pullApart_73 : decode M_A_pullApart.2.1 73 = .ok (.iload_n 1, 1) := by decide +kernel
theorem d_A_pullApart_74 : decode M_A_pullApart.2.1 74 = .ok (.invokestatic 187, 3) := by decide +kernel
theorem d_A_pullApart_77 : decode M_A_pullApart.2.1 77 = .ok (.iload_n 2, 1) := by decide +kernel
theorem d_A_pullApart_78 : decode M_A_pullApart.2.1 78 = .ok (.invokestatic 187, 3) := by decide +kernel
theorem d_A_pullApart_81 : decode M_A_pullApart.2.1 81 = .ok (.invokestatic 202, 3) := by decide +kernel
theorem d_A_pullApart_84 : decode M_A_pullApart.2.1 84 = .ok (.invokevirtual 73, 3) := by decide +kernel
theorem d_A_pullApart_87 : decode M_A_pullApart.2.1 87 = .ok (.aload_n 0, 1) := by decide +kernel
theorem d_A_pullApart_88 : decode M_A_pullApart.2.1 88 = .ok (.getfield 16, 3) := by decide +kernel
theorem d_A_pullApart_91 : decode M_A_pullApart.2.1 91 = .ok (.iload_n 1, 1) := by decide +kernel
theorem d_A_pullApart_92 : decode M_A_pullApart.2.1 92 = .ok (.invokestatic 187, 3) := by decide +kernel
theorem d_A_pullApart_95 : decode M_A_pullApart.2.1 95 = .ok (.iload_n 2, 1) := by decide +kernel
theorem d_A_pullApart_96 : decode M_A_pullApart.2.1 96 = .ok (.invokestatic 187, 3) := by decide +kernel
theorem d_A_pullApart_99 : decode M_A_pullApart.2.1 99 = .ok (.invokestatic 205, 3) := by decide +kernel
theorem d_A_pullApart_102 : decode M_A_pullApart.2.1 102 = .ok (.invokevirtual 73, 3) := by decide +kernel
theorem d_A_pullApart_105 : decode M_A_pullApart.2.1 105 = .ok (.aload_n 0, 1) := by decide +kernel
theorem d_A_pullApart_106 : decode M_A_pullApart.2.1 106 = .ok (.iload 5, 2) := by decide +kernel
theorem d_A_pullApart_108 : decode M_A_pullApart.2.1 108 = .ok (.iload 6, 2) := by decide +kernel
theorem d_A_pullApart_110 : decode M_A_pullApart.2.1 110 = .ok (.invokevirtual 166, 3) := by decide +kernel
theorem d_A_pullApart_113 : decode M_A_pullApart.2.1 113 = .ok (.aload_n 0, 1) := by decide +kernel
theorem d_A_pullApart_114 : decode M_A_pullApart.2.1 114 = .ok (.iload 7, 2) := by decide +kernel
theorem d_A_pullApart_116 : decode M_A_pullApart.2.1 116 = .ok (.iload 6, 2) := by decide +kernel
theorem d_A_pullApart_118 : decode M_A_pullApart.2.1 118 = .ok (.if_icmp .ne (8), 3) := by decide +kernel
theorem d_A_pullApart_121 : decode M_A_pullApart.2.1 121 = .ok (.iload 5, 2) := by decide +kernel
theorem d_A_pullApart_123 : decode M_A_pullApart.2.1 123 = .ok (.goto (5), 3) := by decide +kernel
theorem d_A_pullApart_126 : decode M_A_pullApart.2.1 126 = .ok (.iload 7, 2) := by decide +kernel
theorem d_A_pullApart_128 : decode M_A_pullApart.2.1 128 = .ok (.iload 8, 2) := by decide +kernel
theorem d_A_pullApart_130 : decode M_A_pullApart.2.1 130 = .ok (.iload 6, 2) := by decide +kernel
theorem d_A_pullApart_132 : decode M_A_pullApart.2.1 132 = .ok (.if_icmp .ne (8), 3) := by decide +kernel
theorem d_A_pullApart_135 : decode M_A_pullApart.2.1 135 = .ok (.iload 5, 2) := by decide +kernel
theorem d_A_pullApart_137 : decode M_A_pullApart.2.1 137 = .ok (.goto (5), 3) := by decide +kernel
theorem d_A_pullApart_140 : decode M_A_pullApart.2.1 140 = .ok (.iload 8, 2) := by decide +kernel
theorem d_A_pullApart_142 : decode M_A_pullApart.2.1 142 = .ok (.invokevirtual 166, 3) := by decide +kernel
theorem d_A_pullApart_145 : decode M_A_pullApart.2.1 145 = .ok (.return_, 1) := by decide +kernel
theorem d_A_slide_0 : decode M_A_slide.2.1 0 = .ok (.iload_n 1, 1) := by decide +kernel
theorem d_A_slide_1 : decode M_A_slide.2.1 1 = .ok (.iload_n 2, 1) := by decide +kernel
theorem d_A_slide_2 : decode M_A_slide.2.1 2 = .ok (.if_icmp .eq (13), 3) := by decide +kernel
theorem d_A_slide_5 : decode M_A_slide.2.1 5 = .ok (.iload_n 2, 1) := by decide +kernel
theorem d_A_slide_6 : decode M_A_slide.2.1 6 = .ok (.iload_n 3, 1) := by decide +kernel
theorem d_A_slide_7 : decode M_A_slide.2.1 7 = .ok (.if_icmp .eq (8), 3) := by decide +kernel
theorem d_A_slide_10 : decode M_A_slide.2.1 10 = .ok (.iload_n 1, 1) := by decide +kernel
theorem d_A_slide_11 : decode M_A_slide.2.1 11 = .ok (.iload_n 3, 1) := by decide +kernel
theorem d_A_slide_12 : decode M_A_slide.2.1 12 = .ok (.if_icmp .ne (5), 3) := by decide +kernel
theorem d_A_slide_15 : decode M_A_slide.2.1 15 = .ok (.iconst (0), 1) := by decide +kernel
theorem d_A_slide_16 : decode M_A_slide.2.1 16 = .ok (.ireturn, 1) := by decide +kernel
theorem d_A_slide_17 : decode M_A_slide.2.1 17 = .ok (.aload_n 0, 1) := by decide +kernel
theorem d_A_slide_18 : decode M_A_slide.2.1 18 = .ok (.getfield 16, 3) := by decide +kernel
theorem d_A_slide_21 : decode M_A_slide.2.1 21 = .ok (.iload_n 1, 1) := by decide +kernel
theorem d_A_slide_22 : decode M_A_slide.2.1 22 = .ok (.invokevirtual 123, 3) := by decide +kernel
theorem d_A_slide_25 : decode M_A_slide.2.1 25 = .ok (.ifCond .eq (25), 3) := by decide +kernel
theorem d_A_slide_28 : decode M_A_slide.2.1 28 = .ok (.aload_n 0, 1) := by decide +kernel
theorem d_A_slide_29 : decode M_A_slide.2.1 29 = .ok (.getfield 16, 3) := by decide +kernel
theorem d_A_slide_32 : decode M_A_slide.2.1 32 = .ok (.iload_n 2, 1) := by decide +kernel
theorem d_A_slide_33 : decode M_A_slide.2.1 33 = .ok (.invokevirtual 123, 3) := by decide +kernel
theorem d_A_slide_36 : decode M_A_slide.2.1 36 = .ok (.ifCond .eq (14), 3) := by decide +kernel
theorem d_A_slide_39 : decode M_A_slide.2.1 39 = .ok (.aload_n 0, 1) := by decide +kernel
theorem d_A_slide_40 : decode M_A_slide.2.1 40 = .ok (.getfield 16, 3) := by decide +kernel
theorem d_A_slide_43 : decode M_A_slide.2.1 43 = .ok (.iload_n 3, 1) := by decide +kernel
theorem d_A_slide_44 : decode M_A_slide.2.1 44 = .ok (.invokevirtual 123, 3) := by decide +kernel
theorem d_A_slide_47 : decode M_A_slide.2.1 47 = .ok (.ifCond .ne (5), 3) := by decide +kernel
theorem d_A_slide_50 : decode M_A_slide.2.1 50 = .ok (.iconst (0), 1) := by decide +kernel
theorem d_A_slide_51 : decode M_A_slide.2.1 51 = .ok (.ireturn, 1) := by decide +kernel
theorem d_A_slide_52 : decode M_A_slide.2.1 52 = .ok (.iconst (4), 1) := by decide +kernel
theorem d_A_slide_53 : decode M_A_slide.2.1 53 = .ok (.iload_n 1, 1) := by decide +kernel
theorem d_A_slide_54 : decode M_A_slide.2.1 54 = .ok (.imul, 1) := by decide +kernel
theorem d_A_slide_55 : decode M_A_slide.2.1 55 = .ok (.istore 4, 2) := by decide +kernel
theorem d_A_slide_57 : decode M_A_slide.2.1 57 = .ok (.iload 4, 2) := by decide +kernel
theorem d_A_slide_59 : decode M_A_slide.2.1 59 = .ok (.iconst (4), 1) := by decide +kernel
theorem d_A_slide_60 : decode M_A_slide.2.1 60 = .ok (.iload_n 1, 1) := by decide +kernel
theorem d_A_slide_61 : decode M_A_slide.2.1 61 = .ok (.imul, 1) := by decide +kernel
theorem d_A_slide_62 : decode M_A_slide.2.1 62 = .ok (.iconst (4), 1) := by decide +kernel
theorem d_A_slide_63 : decode M_A_slide.2.1 63 = .ok (.iadd, 1) := by decide +kernel
theorem d_A_slide_64 : decode M_A_slide.2.1 64 = .ok (.if_icmp .ge (28), 3) := by decide +kernel
theorem d_A_slide_67 : decode M_A_slide.2.1 67 = .ok (.aload_n 0, 1) := by decide +kernel
theorem d_A_slide_68 : decode M_A_slide.2.1 68 = .ok (.iload 4, 2) := by decide +kernel
theorem d_A_slide_70 : decode M_A_slide.2.1 70 = .ok (.iload_n 2, 1) := by decide +kernel
theorem d_A_slide_71 : decode M_A_slide.2.1 71 = .ok (.iload_n 3, 1) := by decide +kernel
theorem d_A_slide_72 : decode M_A_slide.2.1 72 = .ok (.invokevirtual 208, 3) := by decide +kernel
theorem d_A_slide_75 : decode M_A_slide.2.1 75 = .ok (.ifCond .eq (11), 3) := by decide +kernel
theorem d_A_slide_78 : decode M_A_slide.2.1 78 = .ok (.aload_n 0, 1) := by decide +kernel
theorem d_A_slide_79 : decode M_A_slide.2.1 79 = .ok (.iload 4, 2) := by decide +kernel
theorem d_A_slide_81 : decode M_A_slide.2.1 81 = .ok (.invokevirtual 212, 3) := by decide +kernel
theorem d_A_slide_84 : decode M_A_slide.2.1 84 = .ok (.iconst (1), 1) := by decide +kernel
theorem d_A_slide_85 : decode M_A_slide.2.1 85 = .ok (.ireturn, 1) := by decide +kernel
theorem d_A_slide_86 : decode M_A_slide.2.1 86 = .ok (.iinc 4 (1), 3) := by decide +kernel
theorem d_A_slide_89 : decode M_A_slide.2.1 89 = .ok (.goto (-32), 3) := by decide +kernel
theorem d_A_slide_92 : decode M_A_slide.2.1 92 = .ok (.iconst (0), 1) := by decide +kernel
theorem d_A_slide_93 : decode M_A_slide.2.1 93 = .ok (.ireturn, 1) := by decide +kernel
theorem d_A_isSlidingFace_0 : decode M_A_isSlidingFace.2.1 0 = .ok (.aload_n 0, 1) := by decide +kernel
theorem d_A_isSlidingFace_1 : decode M_A_isSlidingFace.2.1 1 = .ok (.getfield 16, 3) := by decide +kernel
theorem d_A_isSlidingFace_4 : decode M_A_isSlidingFace.2.1 4 = .ok (.iload_n 1, 1) := by decide +kernel
theorem d_A_isSlidingFace_5 : decode M_A_isSlidingFace.2.1 5 = .ok (.invokevirtual 181, 3) := by decide +kernel
theorem d_A_isSlidingFace_8 : decode M_A_isSlidingFace.2.1 8 = .ok (.istore 4, 2) := by decide +kernel
theorem d_A_isSlidingFace_10 : decode M_A_isSlidingFace.2.1 10 = .ok (.aload_n 0, 1) := by decide +kernel
theorem d_A_isSlidingFace_11 : decode M_A_isSlidingFace.2.1 11 = .ok (.getfield 16, 3) := by decide +kernel
theorem d_A_isSlidingFace_14 : decode M_A_isSlidingFace.2.1 14 = .ok (.iload 4, 2) := by decide +kernel
theorem d_A_isSlidingFace_16 : decode M_A_isSlidingFace.2.1 16 = .ok (.invokevirtual 181, 3) := by decide +kernel
theorem d_A_isSlidingFace_19 : decode M_A_isSlidingFace.2.1 19 = .ok (.istore 5, 2) := by decide +kernel
theorem d_A_isSlidingFace_21 : decode M_A_isSlidingFace.2.1 21 = .ok (.aload_n 0, 1) := by decide +kernel
theorem d_A_isSlidingFace_22 : decode M_A_isSlidingFace.2.1 22 = .ok (.getfield 16, 3) := by decide +kernel
theorem d_A_isSlidingFace_25 : decode M_A_isSlidingFace.2.1 25 = .ok (.iload 5, 2) := by decide +kernel
theorem d_A_isSlidingFace_27 : decode M_A_isSlidingFace.2.1 27 = .ok (.invokevirtual 181, 3) := by decide +kernel
theorem d_A_isSlidingFace_30 : decode M_A_isSlidingFace.2.1 30 = .ok (.iload_n 1, 1) := by decide +kernel
theorem d_A_isSlidingFace_31 : decode M_A_isSlidingFace.2.1 31 = .ok (.if_icmp .eq (5), 3) := by decide +kernel
theorem d_A_isSlidingFace_34 : decode M_A_isSlidingFace.2.1 34 = .ok (.iconst (0), 1) := by decide +kernel
theorem d_A_isSlidingFace_35 : decode M_A_isSlidingFace.2.1 35 = .ok (.ireturn, 1) := by decide +kernel
theorem d_A_isSlidingFace_36 : decode M_A_isSlidingFace.2.1 36 = .ok (.iload 4, 2) := by decide +kernel
theorem d_A_isSlidingFace_38 : decode M_A_isSlidingFace.2.1 38 = .ok (.invokestatic 187, 3) := by decide +kernel
theorem d_A_isSlidingFace_41 : decode M_A_isSlidingFace.2.1 41 = .ok (.iload_n 2, 1) := by decide +kernel
theorem d_A_isSlidingFace_42 : decode M_A_isSlidingFace.2.1 42 = .ok (.if_icmp .ne (16), 3) := by decide +kernel
theorem d_A_isSlidingFace_45 : decode M_A_isSlidingFace.2.1 45 = .ok (.iload 5, 2) := by decide +kernel
theorem d_A_isSlidingFace_47 : decode M_A_isSlidingFace.2.1 47 = .ok (.invokestatic 187, 3) := by decide +kernel
theorem d_A_isSlidingFace_50 : decode M_A_isSlidingFace.2.1 50 = .ok (.iload_n 3, 1) := by decide +kernel
theorem d_A_isSlidingFace_51 : decode M_A_isSlidingFace.2.1 51 = .ok (.if_icmp .ne (7), 3) := by decide +kernel
theorem d_A_isSlidingFace_54 : decode M_A_isSlidingFace.2.1 54 = .ok (.iconst (1), 1) := by decide +kernel
theorem d_A_isSlidingFace_55 : decode M_A_isSlidingFace.2.1 55 = .ok (.goto (4), 3) := by decide +kernel
theorem d_A_isSlidingFace_58 : decode M_A_isSlidingFace.2.1 58 = .ok (.iconst (0), 1) := by decide +kernel
theorem d_A_isSlidingFace_59 : decode M_A_isSlidingFace.2.1 59 = .ok (.istore 6, 2) := by decide +kernel
theorem d_A_isSlidingFace_61 : decode M_A_isSlidingFace.2.1 61 = .ok (.iload 4, 2) := by decide +kernel
theorem d_A_isSlidingFace_63 : decode M_A_isSlidingFace.2.1 63 = .ok (.invokestatic 187, 3) := by decide +kernel
theorem d_A_isSlidingFace_66 : decode M_A_isSlidingFace.2.1 66 = .ok (.iload_n 3, 1) := by decide +kernel
theorem d_A_isSlidingFace_67 : decode M_A_isSlidingFace.2.1 67 = .ok (.if_icmp .ne (16), 3) := by decide +kernel
theorem d_A_isSlidingFace_70 : decode M_A_isSlidingFace.2.1 70 = .ok (.iload 5, 2) := by decide +kernel
theorem d_A_isSlidingFace_72 : decode M_A_isSlidingFace.2.1 72 = .ok (.invokestatic 187, 3) := by decide +kernel
theorem d_A_isSlidingFace_75 : decode M_A_isSlidingFace.2.1 75 = .ok (.iload_n 2, 1) := by decide +kernel
theorem d_A_isSlidingFace_76 : decode M_A_isSlidingFace.2.1 76 = .ok (.if_icmp .ne (7), 3) := by decide +kernel
theorem d_A_isSlidingFace_79 : decode M_A_isSlidingFace.2.1 79 = .ok (.iconst (1), 1) := by decide +kernel
theorem d_A_isSlidingFace_80 : decode M_A_isSlidingFace.2.1 80 = .ok (.goto (4), 3) := by decide +kernel
theorem d_A_isSlidingFace_83 : decode M_A_isSlidingFace.2.1 83 = .ok (.iconst (0), 1) := by decide +kernel
theorem d_A_isSlidingFace_84 : decode M_A_isSlidingFace.2.1 84 = .ok (.istore 7, 2) := by decide +kernel
theorem d_A_isSlidingFace_86 : decode M_A_isSlidingFace.2.1 86 = .ok (.iload 6, 2) := by decide +kernel
theorem d_A_isSlidingFace_88 : decode M_A_isSlidingFace.2.1 88 = .ok (.ifCond .ne (10), 3) := by decide +kernel
theorem d_A_isSlidingFace_91 : decode M_A_isSlidingFace.2.1 91 = .ok (.iload 7, 2) := by decide +kernel
theorem d_A_isSlidingFace_93 : decode M_A_isSlidingFace.2.1 93 = .ok (.ifCond .ne (5), 3) := by decide +kernel
theorem d_A_isSlidingFace_96 : decode M_A_isSlidingFace.2.1 96 = .ok (.iconst (0), 1) := by decide +kernel
theorem d_A_isSlidingFace_97 : decode M_A_isSlidingFace.2.1 97 = .ok (.ireturn, 1) := by decide +kernel
theorem d_A_isSlidingFace_98 : decode M_A_isSlidingFace.2.1 98 = .ok (.aload_n 0, 1) := by decide +kernel
theorem d_A_isSlidingFace_99 : decode M_A_isSlidingFace.2.1 99 = .ok (.iload_n 1, 1) := by decide +kernel
theorem d_A_isSlidingFace_100 : decode M_A_isSlidingFace.2.1 100 = .ok (.invokevirtual 215, 3) := by decide +kernel
theorem d_A_isSlidingFace_103 : decode M_A_isSlidingFace.2.1 103 = .ok (.ifCond .ne (21), 3) := by decide +kernel
theorem d_A_isSlidingFace_106 : decode M_A_isSlidingFace.2.1 106 = .ok (.aload_n 0, 1) := by decide +kernel
theorem d_A_isSlidingFace_107 : decode M_A_isSlidingFace.2.1 107 = .ok (.iload 4, 2) := by decide +kernel
theorem d_A_isSlidingFace_109 : decode M_A_isSlidingFace.2.1 109 = .ok (.invokevirtual 215, 3) := by decide +kernel
theorem d_A_isSlidingFace_112 : decode M_A_isSlidingFace.2.1 112 = .ok (.ifCond .ne (12), 3) := by decide +kernel
theorem d_A_isSlidingFace_115 : decode M_A_isSlidingFace.2.1 115 = .ok (.aload_n 0, 1) := by decide +kernel
theorem d_A_isSlidingFace_116 : decode M_A_isSlidingFace.2.1 116 = .ok (.iload 5, 2) := by decide +kernel
theorem d_A_isSlidingFace_118 : decode M_A_isSlidingFace.2.1 118 = .ok (.invokevirtual 215, 3) := by decide +kernel
theorem d_A_isSlidingFace_121 : decode M_A_isSlidingFace.2.1 121 = .ok (.ifCond .eq (7), 3) := by decide +kernel
theorem d_A_isSlidingFace_124 : decode M_A_isSlidingFace.2.1 124 = .ok (.iconst (1), 1) := by decide +kernel
theorem d_A_isSlidingFace_125 : decode M_A_isSlidingFace.2.1 125 = .ok (.goto (4), 3) := by decide +kernel
theorem d_A_isSlidingFace_128 : decode M_A_isSlidingFace.2.1 128 = .ok (.iconst (0), 1) := by decide +kernel
theorem d_A_isSlidingFace_129 : decode M_A_isSlidingFace.2.1 129 = .ok (.ireturn, 1) := by decide +kernel
theorem d_A_isUpperEdge_0 : decode M_A_isUpperEdge.2.1 0 = .ok (.iload_n 1, 1) := by decide +kernel
theorem d_A_isUpperEdge_1 : decode M_A_isUpperEdge.2.1 1 = .ok (.invokestatic 190, 3) := by decide +kernel
theorem d_A_isUpperEdge_4 : decode M_A_isUpperEdge.2.1 4 = .ok (.ifCond .eq (21), 3) := by decide +kernel
theorem d_A_isUpperEdge_7 : decode M_A_isUpperEdge.2.1 7 = .ok (.aload_n 0, 1) := by decide +kernel
theorem d_A_isUpperEdge_8 : decode M_A_isUpperEdge.2.1 8 = .ok (.getfield 16, 3) := by decide +kernel
theorem d_A_isUpperEdge_11 : decode M_A_isUpperEdge.2.1 11 = .ok (.iload_n 1, 1) := by decide +kernel
theorem d_A_isUpperEdge_12 : decode M_A_isUpperEdge.2.1 12 = .ok (.invokevirtual 193, 3) := by decide +kernel
theorem d_A_isUpperEdge_15 : decode M_A_isUpperEdge.2.1 15 = .ok (.invokestatic 190, 3) := by decide +kernel
theorem d_A_isUpperEdge_18 : decode M_A_isUpperEdge.2.1 18 = .ok (.ifCond .eq (7), 3) := by decide +kernel
theorem d_A_isUpperEdge_21 : decode M_A_isUpperEdge.2.1 21 = .ok (.iconst (1), 1) := by decide +kernel
theorem d_A_isUpperEdge_22 : decode M_A_isUpperEdge.2.1 22 = .ok (.goto (4), 3) := by decide +kernel
theorem d_A_isUpperEdge_25 : decode M_A_isUpperEdge.2.1 25 = .ok (.iconst (0), 1) := by decide +kernel
theorem d_A_isUpperEdge_26 : decode M_A_isUpperEdge.2.1 26 = .ok (.ireturn, 1) := by decide +kernel
theorem d_A_slideFace_0 : decode M_A_slideFace.2.1 0 = .ok (.aload_n 0, 1) := by decide +kernel
theorem d_A_slideFace_1 : decode M_A_slideFace.2.1 1 = .ok (.getfield 19, 3) := by decide +kernel
theorem d_A_slideFace_4 : decode M_A_slideFace.2.1 4 = .ok (.aload_n 0, 1) := by decide +kernel
theorem d_A_slideFace_5 : decode M_A_slideFace.2.1 5 = .ok (.getfield 16, 3) := by decide +kernel
theorem d_A_slideFace_8 : decode M_A_slideFace.2.1 8 = .ok (.invokevirtual 84, 3) := by decide +kernel
theorem d_A_slideFace_11 : decode M_A_slideFace.2.1 11 = .ok (.aload_n 0, 1) := by decide +kernel
theorem d_A_slideFace_12 : decode M_A_slideFace.2.1 12 = .ok (.getfield 19, 3) := by decide +kernel
theorem d_A_slideFace_15 : decode M_A_slideFace.2.1 15 = .ok (.iload_n 1, 1) := by decide +kernel
theorem d_A_slideFace_16 : decode M_A_slideFace.2.1 16 = .ok (.invokevirtual 181, 3) := by decide +kernel
theorem d_A_slideFace_19 : decode M_A_slideFace.2.1 19 = .ok (.istore_n 2, 1) := by decide +kernel
theorem d_A_slideFace_20 : decode M_A_slideFace.2.1 20 = .ok (.aload_n 0, 1) := by decide +kernel
theorem d_A_slideFace_21 : decode M_A_slideFace.2.1 21 = .ok (.iload_n 1, 1) := by decide +kernel
theorem d_A_slideFace_22 : decode M_A_slideFace.2.1 22 = .ok (.invokevirtual 218, 3) := by decide +kernel
theorem d_A_slideFace_25 : decode M_A_slideFace.2.1 25 = .ok (.aload_n 0, 1) := by decide +kernel
theorem d_A_slideFace_26 : decode M_A_slideFace.2.1 26 = .ok (.iload_n 2, 1) := by decide +kernel
theorem d_A_slideFace_27 : decode M_A_slideFace.2.1 27 = .ok (.invokevirtual 218, 3) := by decide +kernel
theorem d_A_slideFace_30 : decode M_A_slideFace.2.1 30 = .ok (.aload_n 0, 1) := by decide +kernel
theorem d_A_slideFace_31 : decode M_A_slideFace.2.1 31 = .ok (.aload_n 0, 1) := by decide +kernel
theorem d_A_slideFace_32 : decode M_A_slideFace.2.1 32 = .ok (.getfield 19, 3) := by decide +kernel
theorem d_A_slideFace_35 : decode M_A_slideFace.2.1 35 = .ok (.iload_n 2, 1) := by decide +kernel
theorem d_A_slideFace_36 : decode M_A_slideFace.2.1 36 = .ok (.invokevirtual 181, 3) := by decide +kernel
theorem d_A_slideFace_39 : decode M_A_slideFace.2.1 39 = .ok (.invokevirtual 218, 3) := by decide +kernel
theorem d_A_slideFace_42 : decode M_A_slideFace.2.1 42 = .ok (.return_, 1) := by decide +kernel
