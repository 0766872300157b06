theorem d_W_init_0 : decode c_W_init 0 = .ok (.aload_n 0, 1) := by decide +kernel
theorem d_W_init_1 : decode c_W_init 1 = .ok (.invokespecial 1, 3) := by decide +kernel
theorem d_W_init_4 : decode c_W_init 4 = .ok (.aload_n 0, 1) := by decide +kernel
theorem d_W_init_5 : decode c_W_init 5 = .ok (.new 7, 3) := by decide +kernel
theorem d_W_init_8 : decode c_W_init 8 = .ok (.dup, 1) := by decide +kernel
theorem d_W_init_9 : decode c_W_init 9 = .ok (.invokespecial 9, 3) := by decide +kernel
theorem d_W_init_12 : decode c_W_init 12 = .ok (.putfield 10, 3) := by decide +kernel
theorem d_W_init_15 : decode c_W_init 15 = .ok (.aload_n 0, 1) := by decide +kernel
theorem d_W_init_16 : decode c_W_init 16 = .ok (.new 16, 3) := by decide +kernel
theorem d_W_init_19 : decode c_W_init 19 = .ok (.dup, 1) := by decide +kernel
theorem d_W_init_20 : decode c_W_init 20 = .ok (.invokespecial 18, 3) := by decide +kernel
theorem d_W_init_23 : decode c_W_init 23 = .ok (.putfield 19, 3) := by decide +kernel
theorem d_W_init_26 : decode c_W_init 26 = .ok (.aload_n 0, 1) := by decide +kernel
theorem d_W_init_27 : decode c_W_init 27 = .ok (.iconst 0, 1) := by decide +kernel
theorem d_W_init_28 : decode c_W_init 28 = .ok (.putfield 23, 3) := by decide +kernel
theorem d_W_init_31 : decode c_W_init 31 = .ok (.aload_n 0, 1) := by decide +kernel
theorem d_W_init_32 : decode c_W_init 32 = .ok (.iconst 0, 1) := by decide +kernel
theorem d_W_init_33 : decode c_W_init 33 = .ok (.putfield 27, 3) := by decide +kernel
theorem d_W_init_36 : decode c_W_init 36 = .ok (.aload_n 0, 1) := by decide +kernel
theorem d_W_init_37 : decode c_W_init 37 = .ok (.lconst 0, 1) := by decide +kernel
theorem d_W_init_38 : decode c_W_init 38 = .ok (.putfield 30, 3) := by decide +kernel
theorem d_W_init_41 : decode c_W_init 41 = .ok (.aload_n 0, 1) := by decide +kernel
theorem d_W_init_42 : decode c_W_init 42 = .ok (.lconst 0, 1) := by decide +kernel
theorem d_W_init_43 : decode c_W_init 43 = .ok (.putfield 34, 3) := by decide +kernel
theorem d_W_init_46 : decode c_W_init 46 = .ok (.aload_n 0, 1) := by decide +kernel
theorem d_W_init_47 : decode c_W_init 47 = .ok (.iconst 0, 1) := by decide +kernel
theorem d_W_init_48 : decode c_W_init 48 = .ok (.putfield 37, 3) := by decide +kernel
theorem d_W_init_51 : decode c_W_init 51 = .ok (.aload_n 0, 1) := by decide +kernel
theorem d_W_init_52 : decode c_W_init 52 = .ok (.iconst 0, 1) := by decide +kernel
theorem d_W_init_53 : decode c_W_init 53 = .ok (.putfield 40, 3) := by decide +kernel
theorem d_W_init_56 : decode c_W_init 56 = .ok (.aload_n 0, 1) := by decide +kernel
theorem d_W_init_57 : decode c_W_init 57 = .ok (.iconst 0, 1) := by decide +kernel
theorem d_W_init_58 : decode c_W_init 58 = .ok (.putfield 43, 3) := by decide +kernel
theorem d_W_init_61 : decode c_W_init 61 = .ok (.aload_n 0, 1) := by decide +kernel
theorem d_W_init_62 : decode c_W_init 62 = .ok (.iconst 0, 1) := by decide +kernel
theorem d_W_init_63 : decode c_W_init 63 = .ok (.putfield 46, 3) := by decide +kernel
theorem d_W_init_66 : decode c_W_init 66 = .ok (.return_, 1) := by decide +kernel
theorem d_W_part_0 : decode c_W_part 0 = .ok (.iload_n 1, 1) := by decide +kernel
theorem d_W_part_1 : decode c_W_part 1 = .ok (.i2l, 1) := by decide +kernel
theorem d_W_part_2 : decode c_W_part 2 = .ok (.lconst 0, 1) := by decide +kernel
theorem d_W_part_3 : decode c_W_part 3 = .ok (.ldc2_w 49, 3) := by decide +kernel
theorem d_W_part_6 : decode c_W_part 6 = .ok (.invokestatic 51, 3) := by decide +kernel
theorem d_W_part_9 : decode c_W_part 9 = .ok (.ifCond .eq 27, 3) := by decide +kernel
theorem d_W_part_12 : decode c_W_part 12 = .ok (.iload_n 2, 1) := by decide +kernel
theorem d_W_part_13 : decode c_W_part 13 = .ok (.i2l, 1) := by decide +kernel
theorem d_W_part_14 : decode c_W_part 14 = .ok (.iload_n 1, 1) := by decide +kernel
theorem d_W_part_15 : decode c_W_part 15 = .ok (.i2l, 1) := by decide +kernel
theorem d_W_part_16 : decode c_W_part 16 = .ok (.ldc2_w 49, 3) := by decide +kernel
theorem d_W_part_19 : decode c_W_part 19 = .ok (.invokestatic 51, 3) := by decide +kernel
theorem d_W_part_22 : decode c_W_part 22 = .ok (.ifCond .eq 14, 3) := by decide +kernel
theorem d_W_part_25 : decode c_W_part 25 = .ok (.lload_n 3, 1) := by decide +kernel
theorem d_W_part_26 : decode c_W_part 26 = .ok (.lconst 0, 1) := by decide +kernel
theorem d_W_part_27 : decode c_W_part 27 = .ok (.ldc2_w 55, 3) := by decide +kernel
theorem d_W_part_30 : decode c_W_part 30 = .ok (.invokestatic 51, 3) := by decide +kernel
theorem d_W_part_33 : decode c_W_part 33 = .ok (.ifCond .ne 6, 3) := by decide +kernel
theorem d_W_part_36 : decode c_W_part 36 = .ok (.bipush (-2), 2) := by decide +kernel
theorem d_W_part_38 : decode c_W_part 38 = .ok (.ireturn, 1) := by decide +kernel
theorem d_W_part_39 : decode c_W_part 39 = .ok (.aload_n 0, 1) := by decide +kernel
theorem d_W_part_40 : decode c_W_part 40 = .ok (.getfield 10, 3) := by decide +kernel
theorem d_W_part_43 : decode c_W_part 43 = .ok (.invokevirtual 57, 3) := by decide +kernel
theorem d_W_part_46 : decode c_W_part 46 = .ok (.bipush 20, 2) := by decide +kernel
theorem d_W_part_48 : decode c_W_part 48 = .ok (.if_icmp .lt 6, 3) := by decide +kernel
theorem d_W_part_51 : decode c_W_part 51 = .ok (.bipush (-4), 2) := by decide +kernel
theorem d_W_part_53 : decode c_W_part 53 = .ok (.ireturn, 1) := by decide +kernel
theorem d_W_part_54 : decode c_W_part 54 = .ok (.lload_n 3, 1) := by decide +kernel
theorem d_W_part_55 : decode c_W_part 55 = .ok (.lconst 0, 1) := by decide +kernel
theorem d_W_part_56 : decode c_W_part 56 = .ok (.lcmp, 1) := by decide +kernel
theorem d_W_part_57 : decode c_W_part 57 = .ok (.ifCond .ne 13, 3) := by decide +kernel
theorem d_W_part_60 : decode c_W_part 60 = .ok (.new 61, 3) := by decide +kernel
theorem d_W_part_63 : decode c_W_part 63 = .ok (.dup, 1) := by decide +kernel
theorem d_W_part_64 : decode c_W_part 64 = .ok (.ldc 63, 2) := by decide +kernel
theorem d_W_part_66 : decode c_W_part 66 = .ok (.invokespecial 65, 3) := by decide +kernel
theorem d_W_part_69 : decode c_W_part 69 = .ok (.athrow, 1) := by decide +kernel
theorem d_W_part_70 : decode c_W_part 70 = .ok (.aload_n 0, 1) := by decide +kernel
theorem d_W_part_71 : decode c_W_part 71 = .ok (.getfield 10, 3) := by decide +kernel
theorem d_W_part_74 : decode c_W_part 74 = .ok (.new 68, 3) := by decide +kernel
theorem d_W_part_77 : decode c_W_part 77 = .ok (.dup, 1) := by decide +kernel
theorem d_W_part_78 : decode c_W_part 78 = .ok (.iload_n 1, 1) := by decide +kernel
theorem d_W_part_79 : decode c_W_part 79 = .ok (.iload_n 2, 1) := by decide +kernel
theorem d_W_part_80 : decode c_W_part 80 = .ok (.lload_n 3, 1) := by decide +kernel
theorem d_W_part_81 : decode c_W_part 81 = .ok (.invokespecial 70, 3) := by decide +kernel
theorem d_W_part_84 : decode c_W_part 84 = .ok (.invokevirtual 73, 3) := by decide +kernel
theorem d_W_part_87 : decode c_W_part 87 = .ok (.pop, 1) := by decide +kernel
theorem d_W_part_88 : decode c_W_part 88 = .ok (.aload_n 0, 1) := by decide +kernel
theorem d_W_part_89 : decode c_W_part 89 = .ok (.getfield 10, 3) := by decide +kernel
theorem d_W_part_92 : decode c_W_part 92 = .ok (.invokevirtual 57, 3) := by decide +kernel
theorem d_W_part_95 : decode c_W_part 95 = .ok (.ireturn, 1) := by decide +kernel
theorem d_W_edge_0 : decode c_W_edge 0 = .ok (.aload_n 0, 1) := by decide +kernel
theorem d_W_edge_1 : decode c_W_edge 1 = .ok (.iload_n 1, 1) := by decide +kernel
theorem d_W_edge_2 : decode c_W_edge 2 = .ok (.invokevirtual 77, 3) := by decide +kernel
theorem d_W_edge_5 : decode c_W_edge 5 = .ok (.astore 4, 2) := by decide +kernel
theorem d_W_edge_7 : decode c_W_edge 7 = .ok (.aload 4, 2) := by decide +kernel
theorem d_W_edge_9 : decode c_W_edge 9 = .ok (.ifnonnull 5, 3) := by decide +kernel
theorem d_W_edge_12 : decode c_W_edge 12 = .ok (.iconst (-1), 1) := by decide +kernel
theorem d_W_edge_13 : decode c_W_edge 13 = .ok (.ireturn, 1) := by decide +kernel
theorem d_W_edge_14 : decode c_W_edge 14 = .ok (.iload_n 2, 1) := by decide +kernel
theorem d_W_edge_15 : decode c_W_edge 15 = .ok (.ifCond .eq 10, 3) := by decide +kernel
theorem d_W_edge_18 : decode c_W_edge 18 = .ok (.iload_n 2, 1) := by decide +kernel
theorem d_W_edge_19 : decode c_W_edge 19 = .ok (.invokestatic 81, 3) := by decide +kernel
theorem d_W_edge_22 : decode c_W_edge 22 = .ok (.ifCond .eq 10, 3) := by decide +kernel
theorem d_W_edge_25 : decode c_W_edge 25 = .ok (.iload_n 3, 1) := by decide +kernel
theorem d_W_edge_26 : decode c_W_edge 26 = .ok (.invokestatic 81, 3) := by decide +kernel
theorem d_W_edge_29 : decode c_W_edge 29 = .ok (.ifCond .ne 6, 3) := by decide +kernel
theorem d_W_edge_32 : decode c_W_edge 32 = .ok (.bipush (-2), 2) := by decide +kernel
theorem d_W_edge_34 : decode c_W_edge 34 = .ok (.ireturn, 1) := by decide +kernel
theorem d_W_edge_35 : decode c_W_edge 35 = .ok (.aload 4, 2) := by decide +kernel
theorem d_W_edge_37 : decode c_W_edge 37 = .ok (.aload_n 0, 1) := by decide +kernel
theorem d_W_edge_38 : decode c_W_edge 38 = .ok (.getfield 23, 3) := by decide +kernel
theorem d_W_edge_41 : decode c_W_edge 41 = .ok (.iload_n 2, 1) := by decide +kernel
theorem d_W_edge_42 : decode c_W_edge 42 = .ok (.iload_n 3, 1) := by decide +kernel
theorem d_W_edge_43 : decode c_W_edge 43 = .ok (.invokevirtual 85, 3) := by decide +kernel
theorem d_W_edge_46 : decode c_W_edge 46 = .ok (.ifCond .eq 7, 3) := by decide +kernel
theorem d_W_edge_49 : decode c_W_edge 49 = .ok (.iconst 1, 1) := by decide +kernel
theorem d_W_edge_50 : decode c_W_edge 50 = .ok (.goto 4, 3) := by decide +kernel
theorem d_W_edge_53 : decode c_W_edge 53 = .ok (.iconst 0, 1) := by decide +kernel
theorem d_W_edge_54 : decode c_W_edge 54 = .ok (.ireturn, 1) := by decide +kernel
theorem d_W_deadline_0 : decode c_W_deadline 0 = .ok (.aload_n 0, 1) := by decide +kernel
theorem d_W_deadline_1 : decode c_W_deadline 1 = .ok (.iload_n 1, 1) := by decide +kernel
theorem d_W_deadline_2 : decode c_W_deadline 2 = .ok (.invokevirtual 77, 3) := by decide +kernel
theorem d_W_deadline_5 : decode c_W_deadline 5 = .ok (.astore 8, 2) := by decide +kernel
theorem d_W_deadline_7 : decode c_W_deadline 7 = .ok (.aload 8, 2) := by decide +kernel
theorem d_W_deadline_9 : decode c_W_deadline 9 = .ok (.ifnonnull 5, 3) := by decide +kernel
theorem d_W_deadline_12 : decode c_W_deadline 12 = .ok (.iconst (-1), 1) := by decide +kernel
theorem d_W_deadline_13 : decode c_W_deadline 13 = .ok (.ireturn, 1) := by decide +kernel
theorem d_W_deadline_14 : decode c_W_deadline 14 = .ok (.iload_n 2, 1) := by decide +kernel
theorem d_W_deadline_15 : decode c_W_deadline 15 = .ok (.invokestatic 81, 3) := by decide +kernel
theorem d_W_deadline_18 : decode c_W_deadline 18 = .ok (.ifCond .eq 35, 3) := by decide +kernel
theorem d_W_deadline_21 : decode c_W_deadline 21 = .ok (.iload_n 3, 1) := by decide +kernel
theorem d_W_deadline_22 : decode c_W_deadline 22 = .ok (.invokestatic 81, 3) := by decide +kernel
theorem d_W_deadline_25 : decode c_W_deadline 25 = .ok (.ifCond .eq 28, 3) := by decide +kernel
theorem d_W_deadline_28 : decode c_W_deadline 28 = .ok (.lload 4, 2) := by decide +kernel
theorem d_W_deadline_30 : decode c_W_deadline 30 = .ok (.lconst 0, 1) := by decide +kernel
theorem d_W_deadline_31 : decode c_W_deadline 31 = .ok (.ldc2_w 89, 3) := by decide +kernel
theorem d_W_deadline_34 : decode c_W_deadline 34 = .ok (.invokestatic 51, 3) := by decide +kernel
theorem d_W_deadline_37 : decode c_W_deadline 37 = .ok (.ifCond .eq 16, 3) := by decide +kernel
theorem d_W_deadline_40 : decode c_W_deadline 40 = .ok (.lload 6, 2) := by decide +kernel
theorem d_W_deadline_42 : decode c_W_deadline 42 = .ok (.lload 4, 2) := by decide +kernel
theorem d_W_deadline_44 : decode c_W_deadline 44 = .ok (.ldc2_w 89, 3) := by decide +kernel
theorem d_W_deadline_47 : decode c_W_deadline 47 = .ok (.invokestatic 51, 3) := by decide +kernel
theorem d_W_deadline_50 : decode c_W_deadline 50 = .ok (.ifCond .ne 6, 3) := by decide +kernel
theorem d_W_deadline_53 : decode c_W_deadline 53 = .ok (.bipush (-2), 2) := by decide +kernel
theorem d_W_deadline_55 : decode c_W_deadline 55 = .ok (.ireturn, 1) := by decide +kernel
theorem d_W_deadline_56 : decode c_W_deadline 56 = .ok (.aload 8, 2) := by decide +kernel
theorem d_W_deadline_58 : decode c_W_deadline 58 = .ok (.getfield 91, 3) := by decide +kernel
theorem d_W_deadline_61 : decode c_W_deadline 61 = .ok (.invokevirtual 57, 3) := by decide +kernel
theorem d_W_deadline_64 : decode c_W_deadline 64 = .ok (.bipush 10, 2) := by decide +kernel
theorem d_W_deadline_66 : decode c_W_deadline 66 = .ok (.if_icmp .lt 6, 3) := by decide +kernel
theorem d_W_deadline_69 : decode c_W_deadline 69 = .ok (.bipush (-4), 2) := by decide +kernel
theorem d_W_deadline_71 : decode c_W_deadline 71 = .ok (.ireturn, 1) := by decide +kernel
theorem d_W_deadline_72 : decode c_W_deadline 72 = .ok (.aload 8, 2) := by decide +kernel
theorem d_W_deadline_74 : decode c_W_deadline 74 = .ok (.getfield 91, 3) := by decide +kernel
theorem d_W_deadline_77 : decode c_W_deadline 77 = .ok (.new 94, 3) := by decide +kernel
theorem d_W_deadline_80 : decode c_W_deadline 80 = .ok (.dup, 1) := by decide +kernel
theorem d_W_deadline_81 : decode c_W_deadline 81 = .ok (.aload_n 0, 1) := by decide +kernel
theorem d_W_deadline_82 : decode c_W_deadline 82 = .ok (.getfield 23, 3) := by decide +kernel
theorem d_W_deadline_85 : decode c_W_deadline 85 = .ok (.iload_n 2, 1) := by decide +kernel
theorem d_W_deadline_86 : decode c_W_deadline 86 = .ok (.iload_n 3, 1) := by decide +kernel
theorem d_W_deadline_87 : decode c_W_deadline 87 = .ok (.lload 4, 2) := by decide +kernel
theorem d_W_deadline_89 : decode c_W_deadline 89 = .ok (.lload 6, 2) := by decide +kernel
theorem d_W_deadline_91 : decode c_W_deadline 91 = .ok (.invokespecial 96, 3) := by decide +kernel
theorem d_W_deadline_94 : decode c_W_deadline 94 = .ok (.invokevirtual 73, 3) := by decide +kernel
theorem d_W_deadline_97 : decode c_W_deadline 97 = .ok (.pop, 1) := by decide +kernel
theorem d_W_deadline_98 : decode c_W_deadline 98 = .ok (.aload 8, 2) := by decide +kernel
theorem d_W_deadline_100 : decode c_W_deadline 100 = .ok (.getfield 91, 3) := by decide +kernel
theorem d_W_deadline_103 : decode c_W_deadline 103 = .ok (.invokevirtual 57, 3) := by decide +kernel
theorem d_W_deadline_106 : decode c_W_deadline 106 = .ok (.ireturn, 1) := by decide +kernel
theorem d_W_point_0 : decode c_W_point 0 = .ok (.aload_n 0, 1) := by decide +kernel
theorem d_W_point_1 : decode c_W_point 1 = .ok (.iload_n 1, 1) := by decide +kernel
theorem d_W_point_2 : decode c_W_point 2 = .ok (.invokevirtual 77, 3) := by decide +kernel
theorem d_W_point_5 : decode c_W_point 5 = .ok (.astore 5, 2) := by decide +kernel
theorem d_W_point_7 : decode c_W_point 7 = .ok (.aload 5, 2) := by decide +kernel
theorem d_W_point_9 : decode c_W_point 9 = .ok (.ifnonnull 5, 3) := by decide +kernel
theorem d_W_point_12 : decode c_W_point 12 = .ok (.iconst (-1), 1) := by decide +kernel
theorem d_W_point_13 : decode c_W_point 13 = .ok (.ireturn, 1) := by decide +kernel
theorem d_W_point_14 : decode c_W_point 14 = .ok (.iload_n 2, 1) := by decide +kernel
theorem d_W_point_15 : decode c_W_point 15 = .ok (.invokestatic 81, 3) := by decide +kernel
theorem d_W_point_18 : decode c_W_point 18 = .ok (.ifCond .eq 11, 3) := by decide +kernel
theorem d_W_point_21 : decode c_W_point 21 = .ok (.aload_n 0, 1) := by decide +kernel
theorem d_W_point_22 : decode c_W_point 22 = .ok (.lload_n 3, 1) := by decide +kernel
theorem d_W_point_23 : decode c_W_point 23 = .ok (.invokevirtual 99, 3) := by decide +kernel
theorem d_W_point_26 : decode c_W_point 26 = .ok (.ifCond .ne 6, 3) := by decide +kernel
theorem d_W_point_29 : decode c_W_point 29 = .ok (.bipush (-2), 2) := by decide +kernel
theorem d_W_point_31 : decode c_W_point 31 = .ok (.ireturn, 1) := by decide +kernel
theorem d_W_point_32 : decode c_W_point 32 = .ok (.aload_n 0, 1) := by decide +kernel
theorem d_W_point_33 : decode c_W_point 33 = .ok (.lload_n 3, 1) := by decide +kernel
theorem d_W_point_34 : decode c_W_point 34 = .ok (.putfield 30, 3) := by decide +kernel
theorem d_W_point_37 : decode c_W_point 37 = .ok (.aload 5, 2) := by decide +kernel
theorem d_W_point_39 : decode c_W_point 39 = .ok (.aload_n 0, 1) := by decide +kernel
theorem d_W_point_40 : decode c_W_point 40 = .ok (.getfield 23, 3) := by decide +kernel
theorem d_W_point_43 : decode c_W_point 43 = .ok (.iload_n 2, 1) := by decide +kernel
theorem d_W_point_44 : decode c_W_point 44 = .ok (.lload_n 3, 1) := by decide +kernel
theorem d_W_point_45 : decode c_W_point 45 = .ok (.invokevirtual 103, 3) := by decide +kernel
theorem d_W_point_48 : decode c_W_point 48 = .ok (.aload 5, 2) := by decide +kernel
theorem d_W_point_50 : decode c_W_point 50 = .ok (.getfield 106, 3) := by decide +kernel
theorem d_W_point_53 : decode c_W_point 53 = .ok (.ireturn, 1) := by decide +kernel
theorem d_W_cycle_0 : decode c_W_cycle 0 = .ok (.aload_n 0, 1) := by decide +kernel
theorem d_W_cycle_1 : decode c_W_cycle 1 = .ok (.lload_n 1, 1) := by decide +kernel
theorem d_W_cycle_2 : decode c_W_cycle 2 = .ok (.invokevirtual 99, 3) := by decide +kernel
theorem d_W_cycle_5 : decode c_W_cycle 5 = .ok (.ifCond .ne 6, 3) := by decide +kernel
theorem d_W_cycle_8 : decode c_W_cycle 8 = .ok (.bipush (-2), 2) := by decide +kernel
theorem d_W_cycle_10 : decode c_W_cycle 10 = .ok (.ireturn, 1) := by decide +kernel
theorem d_W_cycle_11 : decode c_W_cycle 11 = .ok (.aload_n 0, 1) := by decide +kernel
theorem d_W_cycle_12 : decode c_W_cycle 12 = .ok (.lload_n 1, 1) := by decide +kernel
theorem d_W_cycle_13 : decode c_W_cycle 13 = .ok (.putfield 30, 3) := by decide +kernel
theorem d_W_cycle_16 : decode c_W_cycle 16 = .ok (.aload_n 0, 1) := by decide +kernel
theorem d_W_cycle_17 : decode c_W_cycle 17 = .ok (.dup, 1) := by decide +kernel
theorem d_W_cycle_18 : decode c_W_cycle 18 = .ok (.getfield 27, 3) := by decide +kernel
theorem d_W_cycle_21 : decode c_W_cycle 21 = .ok (.iconst 1, 1) := by decide +kernel
theorem d_W_cycle_22 : decode c_W_cycle 22 = .ok (.iadd, 1) := by decide +kernel
theorem d_W_cycle_23 : decode c_W_cycle 23 = .ok (.putfield 27, 3) := by decide +kernel
theorem d_W_cycle_26 : decode c_W_cycle 26 = .ok (.iconst 0, 1) := by decide +kernel
theorem d_W_cycle_27 : decode c_W_cycle 27 = .ok (.istore_n 3, 1) := by decide +kernel
theorem d_W_cycle_28 : decode c_W_cycle 28 = .ok (.iload_n 3, 1) := by decide +kernel
theorem d_W_cycle_29 : decode c_W_cycle 29 = .ok (.aload_n 0, 1) := by decide +kernel
theorem d_W_cycle_30 : decode c_W_cycle 30 = .ok (.getfield 10, 3) := by decide +kernel
theorem d_W_cycle_33 : decode c_W_cycle 33 = .ok (.invokevirtual 57, 3) := by decide +kernel
theorem d_W_cycle_36 : decode c_W_cycle 36 = .ok (.if_icmp .ge 28, 3) := by decide +kernel
theorem d_W_cycle_39 : decode c_W_cycle 39 = .ok (.aload_n 0, 1) := by decide +kernel
theorem d_W_cycle_40 : decode c_W_cycle 40 = .ok (.getfield 10, 3) := by decide +kernel
theorem d_W_cycle_43 : decode c_W_cycle 43 = .ok (.iload_n 3, 1) := by decide +kernel
theorem d_W_cycle_44 : decode c_W_cycle 44 = .ok (.invokevirtual 109, 3) := by decide +kernel
theorem d_W_cycle_47 : decode c_W_cycle 47 = .ok (.checkcast 68, 3) := by decide +kernel
theorem d_W_cycle_50 : decode c_W_cycle 50 = .ok (.aload_n 0, 1) := by decide +kernel
theorem d_W_cycle_51 : decode c_W_cycle 51 = .ok (.getfield 27, 3) := by decide +kernel
theorem d_W_cycle_54 : decode c_W_cycle 54 = .ok (.lload_n 1, 1) := by decide +kernel
theorem d_W_cycle_55 : decode c_W_cycle 55 = .ok (.invokevirtual 113, 3) := by decide +kernel
theorem d_W_cycle_58 : decode c_W_cycle 58 = .ok (.iinc 3 1, 3) := by decide +kernel
theorem d_W_cycle_61 : decode c_W_cycle 61 = .ok (.goto (-33), 3) := by decide +kernel
theorem d_W_cycle_64 : decode c_W_cycle 64 = .ok (.aload_n 0, 1) := by decide +kernel
theorem d_W_cycle_65 : decode c_W_cycle 65 = .ok (.invokevirtual 117, 3) := by decide +kernel
theorem d_W_cycle_68 : decode c_W_cycle 68 = .ok (.istore_n 3, 1) := by decide +kernel
theorem d_W_cycle_69 : decode c_W_cycle 69 = .ok (.aload_n 0, 1) := by decide +kernel
theorem d_W_cycle_70 : decode c_W_cycle 70 = .ok (.iload_n 3, 1) := by decide +kernel
theorem d_W_cycle_71 : decode c_W_cycle 71 = .ok (.iconst 2, 1) := by decide +kernel
theorem d_W_cycle_72 : decode c_W_cycle 72 = .ok (.if_icmp .ne 12, 3) := by decide +kernel
theorem d_W_cycle_75 : decode c_W_cycle 75 = .ok (.aload_n 0, 1) := by decide +kernel
theorem d_W_cycle_76 : decode c_W_cycle 76 = .ok (.getfield 40, 3) := by decide +kernel
theorem d_W_cycle_79 : decode c_W_cycle 79 = .ok (.iconst 1, 1) := by decide +kernel
theorem d_W_cycle_80 : decode c_W_cycle 80 = .ok (.iadd, 1) := by decide +kernel
theorem d_W_cycle_81 : decode c_W_cycle 81 = .ok (.goto 4, 3) := by decide +kernel
theorem d_W_cycle_84 : decode c_W_cycle 84 = .ok (.iconst 0, 1) := by decide +kernel
theorem d_W_cycle_85 : decode c_W_cycle 85 = .ok (.putfield 40, 3) := by decide +kernel
theorem d_W_cycle_88 : decode c_W_cycle 88 = .ok (.aload_n 0, 1) := by decide +kernel
theorem d_W_cycle_89 : decode c_W_cycle 89 = .ok (.getfield 40, 3) := by decide +kernel
theorem d_W_cycle_92 : decode c_W_cycle 92 = .ok (.aload_n 0, 1) := by decide +kernel
theorem d_W_cycle_93 : decode c_W_cycle 93 = .ok (.getfield 37, 3) := by decide +kernel
theorem d_W_cycle_96 : decode c_W_cycle 96 = .ok (.if_icmp .le 10, 3) := by decide +kernel
theorem d_W_cycle_99 : decode c_W_cycle 99 = .ok (.aload_n 0, 1) := by decide +kernel
theorem d_W_cycle_100 : decode c_W_cycle 100 = .ok (.iconst 1, 1) := by decide +kernel
theorem d_W_cycle_101 : decode c_W_cycle 101 = .ok (.invokevirtual 120, 3) := by decide +kernel
theorem d_W_cycle_104 : decode c_W_cycle 104 = .ok (.iconst 3, 1) := by decide +kernel
theorem d_W_cycle_105 : decode c_W_cycle 105 = .ok (.ireturn, 1) := by decide +kernel
theorem d_W_cycle_106 : decode c_W_cycle 106 = .ok (.iload_n 3, 1) := by decide +kernel
theorem d_W_cycle_107 : decode c_W_cycle 107 = .ok (.ireturn, 1) := by decide +kernel
theorem d_W_tolerance_0 : decode c_W_tolerance 0 = .ok (.aload_n 0, 1) := by decide +kernel
theorem d_W_tolerance_1 : decode c_W_tolerance 1 = .ok (.iload_n 1, 1) := by decide +kernel
theorem d_W_tolerance_2 : decode c_W_tolerance 2 = .ok (.invokevirtual 77, 3) := by decide +kernel
theorem d_W_tolerance_5 : decode c_W_tolerance 5 = .ok (.astore_n 3, 1) := by decide +kernel
theorem d_W_tolerance_6 : decode c_W_tolerance 6 = .ok (.aload_n 3, 1) := by decide +kernel
theorem d_W_tolerance_7 : decode c_W_tolerance 7 = .ok (.ifnonnull 9, 3) := by decide +kernel
theorem d_W_tolerance_10 : decode c_W_tolerance 10 = .ok (.iload_n 1, 1) := by decide +kernel
theorem d_W_tolerance_11 : decode c_W_tolerance 11 = .ok (.ifCond .eq 5, 3) := by decide +kernel
theorem d_W_tolerance_14 : decode c_W_tolerance 14 = .ok (.iconst (-1), 1) := by decide +kernel
theorem d_W_tolerance_15 : decode c_W_tolerance 15 = .ok (.ireturn, 1) := by decide +kernel
theorem d_W_tolerance_16 : decode c_W_tolerance 16 = .ok (.iload_n 2, 1) := by decide +kernel
theorem d_W_tolerance_17 : decode c_W_tolerance 17 = .ok (.i2l, 1) := by decide +kernel
theorem d_W_tolerance_18 : decode c_W_tolerance 18 = .ok (.lconst 0, 1) := by decide +kernel
theorem d_W_tolerance_19 : decode c_W_tolerance 19 = .ok (.ldc2_w 55, 3) := by decide +kernel
theorem d_W_tolerance_22 : decode c_W_tolerance 22 = .ok (.invokestatic 51, 3) := by decide +kernel
theorem d_W_tolerance_25 : decode c_W_tolerance 25 = .ok (.ifCond .ne 6, 3) := by decide +kernel
theorem d_W_tolerance_28 : decode c_W_tolerance 28 = .ok (.bipush (-2), 2) := by decide +kernel
theorem d_W_tolerance_30 : decode c_W_tolerance 30 = .ok (.ireturn, 1) := by decide +kernel
theorem d_W_tolerance_31 : decode c_W_tolerance 31 = .ok (.aload_n 3, 1) := by decide +kernel
theorem d_W_tolerance_32 : decode c_W_tolerance 32 = .ok (.ifnonnull 11, 3) := by decide +kernel
theorem d_W_tolerance_35 : decode c_W_tolerance 35 = .ok (.aload_n 0, 1) := by decide +kernel
theorem d_W_tolerance_36 : decode c_W_tolerance 36 = .ok (.iload_n 2, 1) := by decide +kernel
theorem d_W_tolerance_37 : decode c_W_tolerance 37 = .ok (.putfield 37, 3) := by decide +kernel
theorem d_W_tolerance_40 : decode c_W_tolerance 40 = .ok (.goto 8, 3) := by decide +kernel
theorem d_W_tolerance_43 : decode c_W_tolerance 43 = .ok (.aload_n 3, 1) := by decide +kernel
theorem d_W_tolerance_44 : decode c_W_tolerance 44 = .ok (.iload_n 2, 1) := by decide +kernel
theorem d_W_tolerance_45 : decode c_W_tolerance 45 = .ok (.putfield 124, 3) := by decide +kernel
theorem d_W_tolerance_48 : decode c_W_tolerance 48 = .ok (.iconst 1, 1) := by decide +kernel
theorem d_W_tolerance_49 : decode c_W_tolerance 49 = .ok (.ireturn, 1) := by decide +kernel
theorem d_W_answer_0 : decode c_W_answer 0 = .ok (.iload_n 1, 1) := by decide +kernel
theorem d_W_answer_1 : decode c_W_answer 1 = .ok (.i2l, 1) := by decide +kernel
theorem d_W_answer_2 : decode c_W_answer 2 = .ok (.lconst 0, 1) := by decide +kernel
theorem d_W_answer_3 : decode c_W_answer 3 = .ok (.ldc2_w 127, 3) := by decide +kernel
theorem d_W_answer_6 : decode c_W_answer 6 = .ok (.invokestatic 51, 3) := by decide +kernel
theorem d_W_answer_9 : decode c_W_answer 9 = .ok (.ifCond .eq 12, 3) := by decide +kernel
theorem d_W_answer_12 : decode c_W_answer 12 = .ok (.aload_n 0, 1) := by decide +kernel
theorem d_W_answer_13 : decode c_W_answer 13 = .ok (.lload 4, 2) := by decide +kernel
theorem d_W_answer_15 : decode c_W_answer 15 = .ok (.invokevirtual 99, 3) := by decide +kernel
theorem d_W_answer_18 : decode c_W_answer 18 = .ok (.ifCond .ne 6, 3) := by decide +kernel
theorem d_W_answer_21 : decode c_W_answer 21 = .ok (.bipush (-2), 2) := by decide +kernel
theorem d_W_answer_23 : decode c_W_answer 23 = .ok (.ireturn, 1) := by decide +kernel
theorem d_W_answer_24 : decode c_W_answer 24 = .ok (.aload_n 0, 1) := by decide +kernel
theorem d_W_answer_25 : decode c_W_answer 25 = .ok (.lload 4, 2) := by decide +kernel
theorem d_W_answer_27 : decode c_W_answer 27 = .ok (.putfield 30, 3) := by decide +kernel
theorem d_W_answer_30 : decode c_W_answer 30 = .ok (.aload_n 0, 1) := by decide +kernel
theorem d_W_answer_31 : decode c_W_answer 31 = .ok (.getfield 19, 3) := by decide +kernel
theorem d_W_answer_34 : decode c_W_answer 34 = .ok (.iload_n 1, 1) := by decide +kernel
theorem d_W_answer_35 : decode c_W_answer 35 = .ok (.lload_n 2, 1) := by decide +kernel
theorem d_W_answer_36 : decode c_W_answer 36 = .ok (.lload 4, 2) := by decide +kernel
theorem d_W_answer_38 : decode c_W_answer 38 = .ok (.invokevirtual 129, 3) := by decide +kernel
theorem d_W_answer_41 : decode c_W_answer 41 = .ok (.ifCond .eq 15, 3) := by decide +kernel
theorem d_W_answer_44 : decode c_W_answer 44 = .ok (.aload_n 0, 1) := by decide +kernel
theorem d_W_answer_45 : decode c_W_answer 45 = .ok (.getfield 19, 3) := by decide +kernel
theorem d_W_answer_48 : decode c_W_answer 48 = .ok (.iload_n 1, 1) := by decide +kernel
theorem d_W_answer_49 : decode c_W_answer 49 = .ok (.lload 4, 2) := by decide +kernel
theorem d_W_answer_51 : decode c_W_answer 51 = .ok (.invokevirtual 133, 3) := by decide +kernel
theorem d_W_answer_54 : decode c_W_answer 54 = .ok (.iconst 1, 1) := by decide +kernel
theorem d_W_answer_55 : decode c_W_answer 55 = .ok (.ireturn, 1) := by decide +kernel
theorem d_W_answer_56 : decode c_W_answer 56 = .ok (.aload_n 0, 1) := by decide +kernel
theorem d_W_answer_57 : decode c_W_answer 57 = .ok (.getfield 19, 3) := by decide +kernel
theorem d_W_answer_60 : decode c_W_answer 60 = .ok (.lload 4, 2) := by decide +kernel
theorem d_W_answer_62 : decode c_W_answer 62 = .ok (.invokevirtual 136, 3) := by decide +kernel
theorem d_W_answer_65 : decode c_W_answer 65 = .ok (.aload_n 0, 1) := by decide +kernel
theorem d_W_answer_66 : decode c_W_answer 66 = .ok (.getfield 19, 3) := by decide +kernel
theorem d_W_answer_69 : decode c_W_answer 69 = .ok (.getfield 140, 3) := by decide +kernel
theorem d_W_answer_72 : decode c_W_answer 72 = .ok (.bipush 8, 2) := by decide +kernel
theorem d_W_answer_74 : decode c_W_answer 74 = .ok (.if_icmp .lt 8, 3) := by decide +kernel
theorem d_W_answer_77 : decode c_W_answer 77 = .ok (.aload_n 0, 1) := by decide +kernel
theorem d_W_answer_78 : decode c_W_answer 78 = .ok (.iconst 2, 1) := by decide +kernel
theorem d_W_answer_79 : decode c_W_answer 79 = .ok (.invokevirtual 120, 3) := by decide +kernel
theorem d_W_answer_82 : decode c_W_answer 82 = .ok (.iconst 0, 1) := by decide +kernel
theorem d_W_answer_83 : decode c_W_answer 83 = .ok (.ireturn, 1) := by decide +kernel
theorem d_W_mode_0 : decode c_W_mode 0 = .ok (.iload_n 1, 1) := by decide +kernel
theorem d_W_mode_1 : decode c_W_mode 1 = .ok (.i2l, 1) := by decide +kernel
theorem d_W_mode_2 : decode c_W_mode 2 = .ok (.lconst 0, 1) := by decide +kernel
theorem d_W_mode_3 : decode c_W_mode 3 = .ok (.ldc2_w 127, 3) := by decide +kernel
theorem d_W_mode_6 : decode c_W_mode 6 = .ok (.invokestatic 51, 3) := by decide +kernel
theorem d_W_mode_9 : decode c_W_mode 9 = .ok (.ifCond .ne 6, 3) := by decide +kernel
theorem d_W_mode_12 : decode c_W_mode 12 = .ok (.bipush (-2), 2) := by decide +kernel
theorem d_W_mode_14 : decode c_W_mode 14 = .ok (.ireturn, 1) := by decide +kernel
theorem d_W_mode_15 : decode c_W_mode 15 = .ok (.aload_n 0, 1) := by decide +kernel
theorem d_W_mode_16 : decode c_W_mode 16 = .ok (.getfield 23, 3) := by decide +kernel
theorem d_W_mode_19 : decode c_W_mode 19 = .ok (.istore_n 2, 1) := by decide +kernel
theorem d_W_mode_20 : decode c_W_mode 20 = .ok (.iload_n 1, 1) := by decide +kernel
theorem d_W_mode_21 : decode c_W_mode 21 = .ok (.iload_n 2, 1) := by decide +kernel
theorem d_W_mode_22 : decode c_W_mode 22 = .ok (.if_icmp .eq 41, 3) := by decide +kernel
theorem d_W_mode_25 : decode c_W_mode 25 = .ok (.aload_n 0, 1) := by decide +kernel
theorem d_W_mode_26 : decode c_W_mode 26 = .ok (.iload_n 1, 1) := by decide +kernel
theorem d_W_mode_27 : decode c_W_mode 27 = .ok (.putfield 23, 3) := by decide +kernel
theorem d_W_mode_30 : decode c_W_mode 30 = .ok (.iconst 0, 1) := by decide +kernel
theorem d_W_mode_31 : decode c_W_mode 31 = .ok (.istore_n 3, 1) := by decide +kernel
theorem d_W_mode_32 : decode c_W_mode 32 = .ok (.iload_n 3, 1) := by decide +kernel
theorem d_W_mode_33 : decode c_W_mode 33 = .ok (.aload_n 0, 1) := by decide +kernel
theorem d_W_mode_34 : decode c_W_mode 34 = .ok (.getfield 10, 3) := by decide +kernel
theorem d_W_mode_37 : decode c_W_mode 37 = .ok (.invokevirtual 57, 3) := by decide +kernel
theorem d_W_mode_40 : decode c_W_mode 40 = .ok (.if_icmp .ge 23, 3) := by decide +kernel
theorem d_W_mode_43 : decode c_W_mode 43 = .ok (.aload_n 0, 1) := by decide +kernel
theorem d_W_mode_44 : decode c_W_mode 44 = .ok (.getfield 10, 3) := by decide +kernel
theorem d_W_mode_47 : decode c_W_mode 47 = .ok (.iload_n 3, 1) := by decide +kernel
theorem d_W_mode_48 : decode c_W_mode 48 = .ok (.invokevirtual 109, 3) := by decide +kernel
theorem d_W_mode_51 : decode c_W_mode 51 = .ok (.checkcast 68, 3) := by decide +kernel
theorem d_W_mode_54 : decode c_W_mode 54 = .ok (.invokevirtual 143, 3) := by decide +kernel
theorem d_W_mode_57 : decode c_W_mode 57 = .ok (.iinc 3 1, 3) := by decide +kernel
theorem d_W_mode_60 : decode c_W_mode 60 = .ok (.goto (-28), 3) := by decide +kernel
theorem d_W_mode_63 : decode c_W_mode 63 = .ok (.iload_n 2, 1) := by decide +kernel
theorem d_W_mode_64 : decode c_W_mode 64 = .ok (.ireturn, 1) := by decide +kernel
theorem d_W_reset_0 : decode c_W_reset 0 = .ok (.iload_n 1, 1) := by decide +kernel
theorem d_W_reset_1 : decode c_W_reset 1 = .ok (.tableswitch 80 0 5 #[39, 49, 54, 59, 67, 75], 39) := by decide +kernel
theorem d_W_reset_40 : decode c_W_reset 40 = .ok (.aload_n 0, 1) := by decide +kernel
theorem d_W_reset_41 : decode c_W_reset 41 = .ok (.iconst 4, 1) := by decide +kernel
theorem d_W_reset_42 : decode c_W_reset 42 = .ok (.invokevirtual 120, 3) := by decide +kernel
theorem d_W_reset_45 : decode c_W_reset 45 = .ok (.aload_n 0, 1) := by decide +kernel
theorem d_W_reset_46 : decode c_W_reset 46 = .ok (.getfield 43, 3) := by decide +kernel
theorem d_W_reset_49 : decode c_W_reset 49 = .ok (.ireturn, 1) := by decide +kernel
theorem d_W_reset_50 : decode c_W_reset 50 = .ok (.aload_n 0, 1) := by decide +kernel
theorem d_W_reset_51 : decode c_W_reset 51 = .ok (.getfield 43, 3) := by decide +kernel
theorem d_W_reset_54 : decode c_W_reset 54 = .ok (.ireturn, 1) := by decide +kernel
theorem d_W_reset_55 : decode c_W_reset 55 = .ok (.aload_n 0, 1) := by decide +kernel
theorem d_W_reset_56 : decode c_W_reset 56 = .ok (.getfield 46, 3) := by decide +kernel
theorem d_W_reset_59 : decode c_W_reset 59 = .ok (.ireturn, 1) := by decide +kernel
theorem d_W_reset_60 : decode c_W_reset 60 = .ok (.aload_n 0, 1) := by decide +kernel
theorem d_W_reset_61 : decode c_W_reset 61 = .ok (.getfield 19, 3) := by decide +kernel
theorem d_W_reset_64 : decode c_W_reset 64 = .ok (.getfield 146, 3) := by decide +kernel
theorem d_W_reset_67 : decode c_W_reset 67 = .ok (.ireturn, 1) := by decide +kernel
theorem d_W_reset_68 : decode c_W_reset 68 = .ok (.aload_n 0, 1) := by decide +kernel
theorem d_W_reset_69 : decode c_W_reset 69 = .ok (.getfield 19, 3) := by decide +kernel
theorem d_W_reset_72 : decode c_W_reset 72 = .ok (.getfield 140, 3) := by decide +kernel
theorem d_W_reset_75 : decode c_W_reset 75 = .ok (.ireturn, 1) := by decide +kernel
theorem d_W_reset_76 : decode c_W_reset 76 = .ok (.aload_n 0, 1) := by decide +kernel
theorem d_W_reset_77 : decode c_W_reset 77 = .ok (.getfield 27, 3) := by decide +kernel
theorem d_W_reset_80 : decode c_W_reset 80 = .ok (.ireturn, 1) := by decide +kernel
theorem d_W_reset_81 : decode c_W_reset 81 = .ok (.bipush (-2), 2) := by decide +kernel
theorem d_W_reset_83 : decode c_W_reset 83 = .ok (.ireturn, 1) := by decide +kernel
theorem d_W_outer_0 : decode c_W_outer 0 = .ok (.aload_n 0, 1) := by decide +kernel
theorem d_W_outer_1 : decode c_W_outer 1 = .ok (.lload_n 1, 1) := by decide +kernel
theorem d_W_outer_2 : decode c_W_outer 2 = .ok (.invokevirtual 99, 3) := by decide +kernel
theorem d_W_outer_5 : decode c_W_outer 5 = .ok (.ifCond .ne 6, 3) := by decide +kernel
theorem d_W_outer_8 : decode c_W_outer 8 = .ok (.bipush (-2), 2) := by decide +kernel
theorem d_W_outer_10 : decode c_W_outer 10 = .ok (.ireturn, 1) := by decide +kernel
theorem d_W_outer_11 : decode c_W_outer 11 = .ok (.aload_n 0, 1) := by decide +kernel
theorem d_W_outer_12 : decode c_W_outer 12 = .ok (.lload_n 1, 1) := by decide +kernel
theorem d_W_outer_13 : decode c_W_outer 13 = .ok (.putfield 30, 3) := by decide +kernel
theorem d_W_outer_16 : decode c_W_outer 16 = .ok (.lload_n 1, 1) := by decide +kernel
theorem d_W_outer_17 : decode c_W_outer 17 = .ok (.aload_n 0, 1) := by decide +kernel
theorem d_W_outer_18 : decode c_W_outer 18 = .ok (.getfield 34, 3) := by decide +kernel
theorem d_W_outer_21 : decode c_W_outer 21 = .ok (.lsub, 1) := by decide +kernel
theorem d_W_outer_22 : decode c_W_outer 22 = .ok (.ldc2_w 55, 3) := by decide +kernel
theorem d_W_outer_25 : decode c_W_outer 25 = .ok (.lcmp, 1) := by decide +kernel
theorem d_W_outer_26 : decode c_W_outer 26 = .ok (.ifCond .le 10, 3) := by decide +kernel
theorem d_W_outer_29 : decode c_W_outer 29 = .ok (.aload_n 0, 1) := by decide +kernel
theorem d_W_outer_30 : decode c_W_outer 30 = .ok (.iconst 3, 1) := by decide +kernel
theorem d_W_outer_31 : decode c_W_outer 31 = .ok (.invokevirtual 120, 3) := by decide +kernel
theorem d_W_outer_34 : decode c_W_outer 34 = .ok (.iconst 0, 1) := by decide +kernel
theorem d_W_outer_35 : decode c_W_outer 35 = .ok (.ireturn, 1) := by decide +kernel
theorem d_W_outer_36 : decode c_W_outer 36 = .ok (.aload_n 0, 1) := by decide +kernel
theorem d_W_outer_37 : decode c_W_outer 37 = .ok (.lload_n 1, 1) := by decide +kernel
theorem d_W_outer_38 : decode c_W_outer 38 = .ok (.putfield 34, 3) := by decide +kernel
theorem d_W_outer_41 : decode c_W_outer 41 = .ok (.iconst 1, 1) := by decide +kernel
theorem d_W_outer_42 : decode c_W_outer 42 = .ok (.ireturn, 1) := by decide +kernel
theorem d_W_state_0 : decode c_W_state 0 = .ok (.aload_n 0, 1) := by decide +kernel
theorem d_W_state_1 : decode c_W_state 1 = .ok (.iload_n 1, 1) := by decide +kernel
theorem d_W_state_2 : decode c_W_state 2 = .ok (.invokevirtual 77, 3) := by decide +kernel
theorem d_W_state_5 : decode c_W_state 5 = .ok (.astore_n 2, 1) := by decide +kernel
theorem d_W_state_6 : decode c_W_state 6 = .ok (.aload_n 2, 1) := by decide +kernel
theorem d_W_state_7 : decode c_W_state 7 = .ok (.ifnonnull 7, 3) := by decide +kernel
theorem d_W_state_10 : decode c_W_state 10 = .ok (.iconst (-1), 1) := by decide +kernel
theorem d_W_state_11 : decode c_W_state 11 = .ok (.goto 7, 3) := by decide +kernel
theorem d_W_state_14 : decode c_W_state 14 = .ok (.aload_n 2, 1) := by decide +kernel
theorem d_W_state_15 : decode c_W_state 15 = .ok (.getfield 106, 3) := by decide +kernel
theorem d_W_state_18 : decode c_W_state 18 = .ok (.ireturn, 1) := by decide +kernel
theorem d_W_isWithin_0 : decode c_W_isWithin 0 = .ok (.lload_n 0, 1) := by decide +kernel
theorem d_W_isWithin_1 : decode c_W_isWithin 1 = .ok (.lload_n 2, 1) := by decide +kernel
theorem d_W_isWithin_2 : decode c_W_isWithin 2 = .ok (.lcmp, 1) := by decide +kernel
theorem d_W_isWithin_3 : decode c_W_isWithin 3 = .ok (.ifCond .lt 14, 3) := by decide +kernel
theorem d_W_isWithin_6 : decode c_W_isWithin 6 = .ok (.lload_n 0, 1) := by decide +kernel
theorem d_W_isWithin_7 : decode c_W_isWithin 7 = .ok (.lload 4, 2) := by decide +kernel
theorem d_W_isWithin_9 : decode c_W_isWithin 9 = .ok (.lcmp, 1) := by decide +kernel
theorem d_W_isWithin_10 : decode c_W_isWithin 10 = .ok (.ifCond .gt 7, 3) := by decide +kernel
theorem d_W_isWithin_13 : decode c_W_isWithin 13 = .ok (.iconst 1, 1) := by decide +kernel
theorem d_W_isWithin_14 : decode c_W_isWithin 14 = .ok (.goto 4, 3) := by decide +kernel
theorem d_W_isWithin_17 : decode c_W_isWithin 17 = .ok (.iconst 0, 1) := by decide +kernel
theorem d_W_isWithin_18 : decode c_W_isWithin 18 = .ok (.ireturn, 1) := by decide +kernel
theorem d_W_isPoint_0 : decode c_W_isPoint 0 = .ok (.iload_n 0, 1) := by decide +kernel
theorem d_W_isPoint_1 : decode c_W_isPoint 1 = .ok (.i2l, 1) := by decide +kernel
theorem d_W_isPoint_2 : decode c_W_isPoint 2 = .ok (.lconst 1, 1) := by decide +kernel
theorem d_W_isPoint_3 : decode c_W_isPoint 3 = .ok (.ldc2_w 149, 3) := by decide +kernel
theorem d_W_isPoint_6 : decode c_W_isPoint 6 = .ok (.invokestatic 51, 3) := by decide +kernel
theorem d_W_isPoint_9 : decode c_W_isPoint 9 = .ok (.ireturn, 1) := by decide +kernel
theorem d_W_isTime_0 : decode c_W_isTime 0 = .ok (.lload_n 1, 1) := by decide +kernel
theorem d_W_isTime_1 : decode c_W_isTime 1 = .ok (.aload_n 0, 1) := by decide +kernel
theorem d_W_isTime_2 : decode c_W_isTime 2 = .ok (.getfield 30, 3) := by decide +kernel
theorem d_W_isTime_5 : decode c_W_isTime 5 = .ok (.ldc2_w 151, 3) := by decide +kernel
theorem d_W_isTime_8 : decode c_W_isTime 8 = .ok (.invokestatic 51, 3) := by decide +kernel
theorem d_W_isTime_11 : decode c_W_isTime 11 = .ok (.ireturn, 1) := by decide +kernel
theorem d_W_findPart_0 : decode c_W_findPart 0 = .ok (.iload_n 1, 1) := by decide +kernel
theorem d_W_findPart_1 : decode c_W_findPart 1 = .ok (.i2l, 1) := by decide +kernel
theorem d_W_findPart_2 : decode c_W_findPart 2 = .ok (.lconst 1, 1) := by decide +kernel
theorem d_W_findPart_3 : decode c_W_findPart 3 = .ok (.aload_n 0, 1) := by decide +kernel
theorem d_W_findPart_4 : decode c_W_findPart 4 = .ok (.getfield 10, 3) := by decide +kernel
theorem d_W_findPart_7 : decode c_W_findPart 7 = .ok (.invokevirtual 57, 3) := by decide +kernel
theorem d_W_findPart_10 : decode c_W_findPart 10 = .ok (.i2l, 1) := by decide +kernel
theorem d_W_findPart_11 : decode c_W_findPart 11 = .ok (.invokestatic 51, 3) := by decide +kernel
theorem d_W_findPart_14 : decode c_W_findPart 14 = .ok (.ifCond .eq 19, 3) := by decide +kernel
theorem d_W_findPart_17 : decode c_W_findPart 17 = .ok (.aload_n 0, 1) := by decide +kernel
theorem d_W_findPart_18 : decode c_W_findPart 18 = .ok (.getfield 10, 3) := by decide +kernel
theorem d_W_findPart_21 : decode c_W_findPart 21 = .ok (.iload_n 1, 1) := by decide +kernel
theorem d_W_findPart_22 : decode c_W_findPart 22 = .ok (.iconst 1, 1) := by decide +kernel
theorem d_W_findPart_23 : decode c_W_findPart 23 = .ok (.isub, 1) := by decide +kernel
theorem d_W_findPart_24 : decode c_W_findPart 24 = .ok (.invokevirtual 109, 3) := by decide +kernel
theorem d_W_findPart_27 : decode c_W_findPart 27 = .ok (.checkcast 68, 3) := by decide +kernel
theorem d_W_findPart_30 : decode c_W_findPart 30 = .ok (.goto 4, 3) := by decide +kernel
theorem d_W_findPart_33 : decode c_W_findPart 33 = .ok (.aconst_null, 1) := by decide +kernel
theorem d_W_findPart_34 : decode c_W_findPart 34 = .ok (.areturn, 1) := by decide +kernel
theorem d_W_worstCondition_0 : decode c_W_worstCondition 0 = .ok (.iconst 0, 1) := by decide +kernel
theorem d_W_worstCondition_1 : decode c_W_worstCondition 1 = .ok (.istore_n 1, 1) := by decide +kernel
theorem d_W_worstCondition_2 : decode c_W_worstCondition 2 = .ok (.iconst 0, 1) := by decide +kernel
theorem d_W_worstCondition_3 : decode c_W_worstCondition 3 = .ok (.istore_n 2, 1) := by decide +kernel
theorem d_W_worstCondition_4 : decode c_W_worstCondition 4 = .ok (.iload_n 2, 1) := by decide +kernel
theorem d_W_worstCondition_5 : decode c_W_worstCondition 5 = .ok (.aload_n 0, 1) := by decide +kernel
theorem d_W_worstCondition_6 : decode c_W_worstCondition 6 = .ok (.getfield 10, 3) := by decide +kernel
theorem d_W_worstCondition_9 : decode c_W_worstCondition 9 = .ok (.invokevirtual 57, 3) := by decide +kernel
theorem d_W_worstCondition_12 : decode c_W_worstCondition 12 = .ok (.if_icmp .ge 28, 3) := by decide +kernel
theorem d_W_worstCondition_15 : decode c_W_worstCondition 15 = .ok (.iload_n 1, 1) := by decide +kernel
theorem d_W_worstCondition_16 : decode c_W_worstCondition 16 = .ok (.aload_n 0, 1) := by decide +kernel
theorem d_W_worstCondition_17 : decode c_W_worstCondition 17 = .ok (.getfield 10, 3) := by decide +kernel
theorem d_W_worstCondition_20 : decode c_W_worstCondition 20 = .ok (.iload_n 2, 1) := by decide +kernel
theorem d_W_worstCondition_21 : decode c_W_worstCondition 21 = .ok (.invokevirtual 109, 3) := by decide +kernel
theorem d_W_worstCondition_24 : decode c_W_worstCondition 24 = .ok (.checkcast 68, 3) := by decide +kernel
theorem d_W_worstCondition_27 : decode c_W_worstCondition 27 = .ok (.getfield 106, 3) := by decide +kernel
theorem d_W_worstCondition_30 : decode c_W_worstCondition 30 = .ok (.invokestatic 153, 3) := by decide +kernel
theorem d_W_worstCondition_33 : decode c_W_worstCondition 33 = .ok (.istore_n 1, 1) := by decide +kernel
theorem d_W_worstCondition_34 : decode c_W_worstCondition 34 = .ok (.iinc 2 1, 3) := by decide +kernel
theorem d_W_worstCondition_37 : decode c_W_worstCondition 37 = .ok (.goto (-33), 3) := by decide +kernel
theorem d_W_worstCondition_40 : decode c_W_worstCondition 40 = .ok (.iload_n 1, 1) := by decide +kernel
theorem d_W_worstCondition_41 : decode c_W_worstCondition 41 = .ok (.ireturn, 1) := by decide +kernel
theorem d_W_restart_0 : decode c_W_restart 0 = .ok (.aload_n 0, 1) := by decide +kernel
theorem d_W_restart_1 : decode c_W_restart 1 = .ok (.iload_n 1, 1) := by decide +kernel
theorem d_W_restart_2 : decode c_W_restart 2 = .ok (.putfield 46, 3) := by decide +kernel
theorem d_W_restart_5 : decode c_W_restart 5 = .ok (.aload_n 0, 1) := by decide +kernel
theorem d_W_restart_6 : decode c_W_restart 6 = .ok (.dup, 1) := by decide +kernel
theorem d_W_restart_7 : decode c_W_restart 7 = .ok (.getfield 43, 3) := by decide +kernel
theorem d_W_restart_10 : decode c_W_restart 10 = .ok (.iconst 1, 1) := by decide +kernel
theorem d_W_restart_11 : decode c_W_restart 11 = .ok (.iadd, 1) := by decide +kernel
theorem d_W_restart_12 : decode c_W_restart 12 = .ok (.putfield 43, 3) := by decide +kernel
theorem d_W_restart_15 : decode c_W_restart 15 = .ok (.iconst 0, 1) := by decide +kernel
theorem d_W_restart_16 : decode c_W_restart 16 = .ok (.istore_n 2, 1) := by decide +kernel
theorem d_W_restart_17 : decode c_W_restart 17 = .ok (.iload_n 2, 1) := by decide +kernel
theorem d_W_restart_18 : decode c_W_restart 18 = .ok (.aload_n 0, 1) := by decide +kernel
theorem d_W_restart_19 : decode c_W_restart 19 = .ok (.getfield 10, 3) := by decide +kernel
theorem d_W_restart_22 : decode c_W_restart 22 = .ok (.invokevirtual 57, 3) := by decide +kernel
theorem d_W_restart_25 : decode c_W_restart 25 = .ok (.if_icmp .ge 23, 3) := by decide +kernel
theorem d_W_restart_28 : decode c_W_restart 28 = .ok (.aload_n 0, 1) := by decide +kernel
theorem d_W_restart_29 : decode c_W_restart 29 = .ok (.getfield 10, 3) := by decide +kernel
theorem d_W_restart_32 : decode c_W_restart 32 = .ok (.iload_n 2, 1) := by decide +kernel
theorem d_W_restart_33 : decode c_W_restart 33 = .ok (.invokevirtual 109, 3) := by decide +kernel
theorem d_W_restart_36 : decode c_W_restart 36 = .ok (.checkcast 68, 3) := by decide +kernel
theorem d_W_restart_39 : decode c_W_restart 39 = .ok (.invokevirtual 159, 3) := by decide +kernel
theorem d_W_restart_42 : decode c_W_restart 42 = .ok (.iinc 2 1, 3) := by decide +kernel
theorem d_W_restart_45 : decode c_W_restart 45 = .ok (.goto (-28), 3) := by decide +kernel
theorem d_W_restart_48 : decode c_W_restart 48 = .ok (.aload_n 0, 1) := by decide +kernel
theorem d_W_restart_49 : decode c_W_restart 49 = .ok (.iconst 0, 1) := by decide +kernel
theorem d_W_restart_50 : decode c_W_restart 50 = .ok (.putfield 23, 3) := by decide +kernel
theorem d_W_restart_53 : decode c_W_restart 53 = .ok (.aload_n 0, 1) := by decide +kernel
theorem d_W_restart_54 : decode c_W_restart 54 = .ok (.iconst 0, 1) := by decide +kernel
theorem d_W_restart_55 : decode c_W_restart 55 = .ok (.putfield 27, 3) := by decide +kernel
theorem d_W_restart_58 : decode c_W_restart 58 = .ok (.aload_n 0, 1) := by decide +kernel
theorem d_W_restart_59 : decode c_W_restart 59 = .ok (.iconst 0, 1) := by decide +kernel
theorem d_W_restart_60 : decode c_W_restart 60 = .ok (.putfield 40, 3) := by decide +kernel
theorem d_W_restart_63 : decode c_W_restart 63 = .ok (.aload_n 0, 1) := by decide +kernel
theorem d_W_restart_64 : decode c_W_restart 64 = .ok (.getfield 19, 3) := by decide +kernel
theorem d_W_restart_67 : decode c_W_restart 67 = .ok (.aload_n 0, 1) := by decide +kernel
theorem d_W_restart_68 : decode c_W_restart 68 = .ok (.getfield 30, 3) := by decide +kernel
theorem d_W_restart_71 : decode c_W_restart 71 = .ok (.invokevirtual 162, 3) := by decide +kernel
theorem d_W_restart_74 : decode c_W_restart 74 = .ok (.aload_n 0, 1) := by decide +kernel
theorem d_W_restart_75 : decode c_W_restart 75 = .ok (.aload_n 0, 1) := by decide +kernel
theorem d_W_restart_76 : decode c_W_restart 76 = .ok (.getfield 30, 3) := by decide +kernel
theorem d_W_restart_79 : decode c_W_restart 79 = .ok (.putfield 34, 3) := by decide +kernel
theorem d_W_restart_82 : decode c_W_restart 82 = .ok (.return_, 1) := by decide +kernel
theorem d_M_init_0 : decode c_M_init 0 = .ok (.aload_n 0, 1) := by decide +kernel
theorem d_M_init_1 : decode c_M_init 1 = .ok (.invokespecial 1, 3) := by decide +kernel
theorem d_M_init_4 : decode c_M_init 4 = .ok (.aload_n 0, 1) := by decide +kernel
theorem d_M_init_5 : decode c_M_init 5 = .ok (.bipush 21, 2) := by decide +kernel
theorem d_M_init_7 : decode c_M_init 7 = .ok (.newarray .int, 2) := by decide +kernel
theorem d_M_init_9 : decode c_M_init 9 = .ok (.putfield 7, 3) := by decide +kernel
theorem d_M_init_12 : decode c_M_init 12 = .ok (.aload_n 0, 1) := by decide +kernel
theorem d_M_init_13 : decode c_M_init 13 = .ok (.bipush 21, 2) := by decide +kernel
theorem d_M_init_15 : decode c_M_init 15 = .ok (.newarray .int, 2) := by decide +kernel
theorem d_M_init_17 : decode c_M_init 17 = .ok (.putfield 13, 3) := by decide +kernel
theorem d_M_init_20 : decode c_M_init 20 = .ok (.aload_n 0, 1) := by decide +kernel
theorem d_M_init_21 : decode c_M_init 21 = .ok (.bipush 21, 2) := by decide +kernel
theorem d_M_init_23 : decode c_M_init 23 = .ok (.newarray .int, 2) := by decide +kernel
theorem d_M_init_25 : decode c_M_init 25 = .ok (.putfield 16, 3) := by decide +kernel
theorem d_M_init_28 : decode c_M_init 28 = .ok (.aload_n 0, 1) := by decide +kernel
theorem d_M_init_29 : decode c_M_init 29 = .ok (.bipush 21, 2) := by decide +kernel
theorem d_M_init_31 : decode c_M_init 31 = .ok (.newarray .int, 2) := by decide +kernel
theorem d_M_init_33 : decode c_M_init 33 = .ok (.putfield 19, 3) := by decide +kernel
theorem d_M_init_36 : decode c_M_init 36 = .ok (.aload_n 0, 1) := by decide +kernel
theorem d_M_init_37 : decode c_M_init 37 = .ok (.bipush 21, 2) := by decide +kernel
theorem d_M_init_39 : decode c_M_init 39 = .ok (.newarray .int, 2) := by decide +kernel
theorem d_M_init_41 : decode c_M_init 41 = .ok (.putfield 22, 3) := by decide +kernel
theorem d_M_init_44 : decode c_M_init 44 = .ok (.aload_n 0, 1) := by decide +kernel
theorem d_M_init_45 : decode c_M_init 45 = .ok (.bipush 21, 2) := by decide +kernel
theorem d_M_init_47 : decode c_M_init 47 = .ok (.newarray .int, 2) := by decide +kernel
theorem d_M_init_49 : decode c_M_init 49 = .ok (.putfield 25, 3) := by decide +kernel
theorem d_M_init_52 : decode c_M_init 52 = .ok (.aload_n 0, 1) := by decide +kernel
theorem d_M_init_53 : decode c_M_init 53 = .ok (.bipush 21, 2) := by decide +kernel
theorem d_M_init_55 : decode c_M_init 55 = .ok (.newarray .int, 2) := by decide +kernel
theorem d_M_init_57 : decode c_M_init 57 = .ok (.putfield 28, 3) := by decide +kernel
theorem d_M_init_60 : decode c_M_init 60 = .ok (.aload_n 0, 1) := by decide +kernel
theorem d_M_init_61 : decode c_M_init 61 = .ok (.bipush 21, 2) := by decide +kernel
theorem d_M_init_63 : decode c_M_init 63 = .ok (.newarray .boolean, 2) := by decide +kernel
theorem d_M_init_65 : decode c_M_init 65 = .ok (.putfield 31, 3) := by decide +kernel
theorem d_M_init_68 : decode c_M_init 68 = .ok (.aload_n 0, 1) := by decide +kernel
theorem d_M_init_69 : decode c_M_init 69 = .ok (.bipush 21, 2) := by decide +kernel
theorem d_M_init_71 : decode c_M_init 71 = .ok (.newarray .int, 2) := by decide +kernel
theorem d_M_init_73 : decode c_M_init 73 = .ok (.putfield 35, 3) := by decide +kernel
theorem d_M_init_76 : decode c_M_init 76 = .ok (.aload_n 0, 1) := by decide +kernel
theorem d_M_init_77 : decode c_M_init 77 = .ok (.ldc 38, 2) := by decide +kernel
theorem d_M_init_79 : decode c_M_init 79 = .ok (.newarray .boolean, 2) := by decide +kernel
theorem d_M_init_81 : decode c_M_init 81 = .ok (.putfield 39, 3) := by decide +kernel
theorem d_M_init_84 : decode c_M_init 84 = .ok (.aload_n 0, 1) := by decide +kernel
theorem d_M_init_85 : decode c_M_init 85 = .ok (.bipush 21, 2) := by decide +kernel
theorem d_M_init_87 : decode c_M_init 87 = .ok (.newarray .int, 2) := by decide +kernel
theorem d_M_init_89 : decode c_M_init 89 = .ok (.putfield 42, 3) := by decide +kernel
theorem d_M_init_92 : decode c_M_init 92 = .ok (.aload_n 0, 1) := by decide +kernel
theorem d_M_init_93 : decode c_M_init 93 = .ok (.sipush 210, 3) := by decide +kernel
theorem d_M_init_96 : decode c_M_init 96 = .ok (.newarray .int, 2) := by decide +kernel
theorem d_M_init_98 : decode c_M_init 98 = .ok (.putfield 45, 3) := by decide +kernel
theorem d_M_init_101 : decode c_M_init 101 = .ok (.aload_n 0, 1) := by decide +kernel
theorem d_M_init_102 : decode c_M_init 102 = .ok (.sipush 210, 3) := by decide +kernel
theorem d_M_init_105 : decode c_M_init 105 = .ok (.newarray .int, 2) := by decide +kernel
theorem d_M_init_107 : decode c_M_init 107 = .ok (.putfield 48, 3) := by decide +kernel
theorem d_M_init_110 : decode c_M_init 110 = .ok (.aload_n 0, 1) := by decide +kernel
theorem d_M_init_111 : decode c_M_init 111 = .ok (.sipush 210, 3) := by decide +kernel
theorem d_M_init_114 : decode c_M_init 114 = .ok (.newarray .int, 2) := by decide +kernel
theorem d_M_init_116 : decode c_M_init 116 = .ok (.putfield 51, 3) := by decide +kernel
theorem d_M_init_119 : decode c_M_init 119 = .ok (.aload_n 0, 1) := by decide +kernel
theorem d_M_init_120 : decode c_M_init 120 = .ok (.sipush 210, 3) := by decide +kernel
theorem d_M_init_123 : decode c_M_init 123 = .ok (.newarray .long, 2) := by decide +kernel
theorem d_M_init_125 : decode c_M_init 125 = .ok (.putfield 54, 3) := by decide +kernel
theorem d_M_init_128 : decode c_M_init 128 = .ok (.aload_n 0, 1) := by decide +kernel
theorem d_M_init_129 : decode c_M_init 129 = .ok (.sipush 210, 3) := by decide +kernel
theorem d_M_init_132 : decode c_M_init 132 = .ok (.newarray .long, 2) := by decide +kernel
theorem d_M_init_134 : decode c_M_init 134 = .ok (.putfield 58, 3) := by decide +kernel
theorem d_M_init_137 : decode c_M_init 137 = .ok (.aload_n 0, 1) := by decide +kernel
theorem d_M_init_138 : decode c_M_init 138 = .ok (.sipush 210, 3) := by decide +kernel
theorem d_M_init_141 : decode c_M_init 141 = .ok (.newarray .long, 2) := by decide +kernel
theorem d_M_init_143 : decode c_M_init 143 = .ok (.putfield 61, 3) := by decide +kernel
theorem d_M_init_146 : decode c_M_init 146 = .ok (.iconst 0, 1) := by decide +kernel
theorem d_M_init_147 : decode c_M_init 147 = .ok (.istore_n 1, 1) := by decide +kernel
theorem d_M_init_148 : decode c_M_init 148 = .ok (.iload_n 1, 1) := by decide +kernel
theorem d_M_init_149 : decode c_M_init 149 = .ok (.sipush 210, 3) := by decide +kernel
theorem d_M_init_152 : decode c_M_init 152 = .ok (.if_icmp .ge 18, 3) := by decide +kernel
theorem d_M_init_155 : decode c_M_init 155 = .ok (.aload_n 0, 1) := by decide +kernel
theorem d_M_init_156 : decode c_M_init 156 = .ok (.getfield 61, 3) := by decide +kernel
theorem d_M_init_159 : decode c_M_init 159 = .ok (.iload_n 1, 1) := by decide +kernel
theorem d_M_init_160 : decode c_M_init 160 = .ok (.ldc2_w 64, 3) := by decide +kernel
theorem d_M_init_163 : decode c_M_init 163 = .ok (.lastore, 1) := by decide +kernel
theorem d_M_init_164 : decode c_M_init 164 = .ok (.iinc 1 1, 3) := by decide +kernel
theorem d_M_init_167 : decode c_M_init 167 = .ok (.goto (-19), 3) := by decide +kernel
theorem d_M_init_170 : decode c_M_init 170 = .ok (.return_, 1) := by decide +kernel
theorem d_M_thrown_0 : decode c_M_thrown 0 = .ok (.aload_n 0, 1) := by decide +kernel
theorem d_M_thrown_1 : decode c_M_thrown 1 = .ok (.getfield 66, 3) := by decide +kernel
theorem d_M_thrown_4 : decode c_M_thrown 4 = .ok (.ireturn, 1) := by decide +kernel
theorem d_M_isPart_0 : decode c_M_isPart 0 = .ok (.iload_n 1, 1) := by decide +kernel
theorem d_M_isPart_1 : decode c_M_isPart 1 = .ok (.iconst 1, 1) := by decide +kernel
theorem d_M_isPart_2 : decode c_M_isPart 2 = .ok (.if_icmp .lt 15, 3) := by decide +kernel
theorem d_M_isPart_5 : decode c_M_isPart 5 = .ok (.iload_n 1, 1) := by decide +kernel
theorem d_M_isPart_6 : decode c_M_isPart 6 = .ok (.aload_n 0, 1) := by decide +kernel
theorem d_M_isPart_7 : decode c_M_isPart 7 = .ok (.getfield 70, 3) := by decide +kernel
theorem d_M_isPart_10 : decode c_M_isPart 10 = .ok (.if_icmp .gt 7, 3) := by decide +kernel
theorem d_M_isPart_13 : decode c_M_isPart 13 = .ok (.iconst 1, 1) := by decide +kernel
theorem d_M_isPart_14 : decode c_M_isPart 14 = .ok (.goto 4, 3) := by decide +kernel
theorem d_M_isPart_17 : decode c_M_isPart 17 = .ok (.iconst 0, 1) := by decide +kernel
theorem d_M_isPart_18 : decode c_M_isPart 18 = .ok (.ireturn, 1) := by decide +kernel
theorem d_M_isTime_0 : decode c_M_isTime 0 = .ok (.lload_n 1, 1) := by decide +kernel
theorem d_M_isTime_1 : decode c_M_isTime 1 = .ok (.aload_n 0, 1) := by decide +kernel
theorem d_M_isTime_2 : decode c_M_isTime 2 = .ok (.getfield 73, 3) := by decide +kernel
theorem d_M_isTime_5 : decode c_M_isTime 5 = .ok (.lcmp, 1) := by decide +kernel
theorem d_M_isTime_6 : decode c_M_isTime 6 = .ok (.ifCond .lt 15, 3) := by decide +kernel
theorem d_M_isTime_9 : decode c_M_isTime 9 = .ok (.lload_n 1, 1) := by decide +kernel
theorem d_M_isTime_10 : decode c_M_isTime 10 = .ok (.ldc2_w 77, 3) := by decide +kernel
theorem d_M_isTime_13 : decode c_M_isTime 13 = .ok (.lcmp, 1) := by decide +kernel
theorem d_M_isTime_14 : decode c_M_isTime 14 = .ok (.ifCond .gt 7, 3) := by decide +kernel
theorem d_M_isTime_17 : decode c_M_isTime 17 = .ok (.iconst 1, 1) := by decide +kernel
theorem d_M_isTime_18 : decode c_M_isTime 18 = .ok (.goto 4, 3) := by decide +kernel
theorem d_M_isTime_21 : decode c_M_isTime 21 = .ok (.iconst 0, 1) := by decide +kernel
theorem d_M_isTime_22 : decode c_M_isTime 22 = .ok (.ireturn, 1) := by decide +kernel
theorem d_M_part_0 : decode c_M_part 0 = .ok (.aload_n 0, 1) := by decide +kernel
theorem d_M_part_1 : decode c_M_part 1 = .ok (.iconst 0, 1) := by decide +kernel
theorem d_M_part_2 : decode c_M_part 2 = .ok (.putfield 66, 3) := by decide +kernel
theorem d_M_part_5 : decode c_M_part 5 = .ok (.iload_n 1, 1) := by decide +kernel
theorem d_M_part_6 : decode c_M_part 6 = .ok (.ifCond .lt 36, 3) := by decide +kernel
theorem d_M_part_9 : decode c_M_part 9 = .ok (.iload_n 1, 1) := by decide +kernel
theorem d_M_part_10 : decode c_M_part 10 = .ok (.sipush 1000, 3) := by decide +kernel
theorem d_M_part_13 : decode c_M_part 13 = .ok (.if_icmp .gt 29, 3) := by decide +kernel
theorem d_M_part_16 : decode c_M_part 16 = .ok (.iload_n 2, 1) := by decide +kernel
theorem d_M_part_17 : decode c_M_part 17 = .ok (.iload_n 1, 1) := by decide +kernel
theorem d_M_part_18 : decode c_M_part 18 = .ok (.if_icmp .lt 24, 3) := by decide +kernel
theorem d_M_part_21 : decode c_M_part 21 = .ok (.iload_n 2, 1) := by decide +kernel
theorem d_M_part_22 : decode c_M_part 22 = .ok (.sipush 1000, 3) := by decide +kernel
theorem d_M_part_25 : decode c_M_part 25 = .ok (.if_icmp .gt 17, 3) := by decide +kernel
theorem d_M_part_28 : decode c_M_part 28 = .ok (.lload_n 3, 1) := by decide +kernel
theorem d_M_part_29 : decode c_M_part 29 = .ok (.lconst 0, 1) := by decide +kernel
theorem d_M_part_30 : decode c_M_part 30 = .ok (.lcmp, 1) := by decide +kernel
theorem d_M_part_31 : decode c_M_part 31 = .ok (.ifCond .lt 11, 3) := by decide +kernel
theorem d_M_part_34 : decode c_M_part 34 = .ok (.lload_n 3, 1) := by decide +kernel
theorem d_M_part_35 : decode c_M_part 35 = .ok (.ldc2_w 79, 3) := by decide +kernel
theorem d_M_part_38 : decode c_M_part 38 = .ok (.lcmp, 1) := by decide +kernel
theorem d_M_part_39 : decode c_M_part 39 = .ok (.ifCond .le 6, 3) := by decide +kernel
theorem d_M_part_42 : decode c_M_part 42 = .ok (.bipush (-2), 2) := by decide +kernel
theorem d_M_part_44 : decode c_M_part 44 = .ok (.ireturn, 1) := by decide +kernel
theorem d_M_part_45 : decode c_M_part 45 = .ok (.aload_n 0, 1) := by decide +kernel
theorem d_M_part_46 : decode c_M_part 46 = .ok (.getfield 70, 3) := by decide +kernel
theorem d_M_part_49 : decode c_M_part 49 = .ok (.bipush 20, 2) := by decide +kernel
theorem d_M_part_51 : decode c_M_part 51 = .ok (.if_icmp .ne 6, 3) := by decide +kernel
theorem d_M_part_54 : decode c_M_part 54 = .ok (.bipush (-4), 2) := by decide +kernel
theorem d_M_part_56 : decode c_M_part 56 = .ok (.ireturn, 1) := by decide +kernel
theorem d_M_part_57 : decode c_M_part 57 = .ok (.aload_n 0, 1) := by decide +kernel
theorem d_M_part_58 : decode c_M_part 58 = .ok (.lload_n 3, 1) := by decide +kernel
theorem d_M_part_59 : decode c_M_part 59 = .ok (.lconst 0, 1) := by decide +kernel
theorem d_M_part_60 : decode c_M_part 60 = .ok (.lcmp, 1) := by decide +kernel
theorem d_M_part_61 : decode c_M_part 61 = .ok (.ifCond .ne 7, 3) := by decide +kernel
theorem d_M_part_64 : decode c_M_part 64 = .ok (.iconst 1, 1) := by decide +kernel
theorem d_M_part_65 : decode c_M_part 65 = .ok (.goto 4, 3) := by decide +kernel
theorem d_M_part_68 : decode c_M_part 68 = .ok (.iconst 0, 1) := by decide +kernel
theorem d_M_part_69 : decode c_M_part 69 = .ok (.putfield 66, 3) := by decide +kernel
theorem d_M_part_72 : decode c_M_part 72 = .ok (.aload_n 0, 1) := by decide +kernel
theorem d_M_part_73 : decode c_M_part 73 = .ok (.getfield 66, 3) := by decide +kernel
theorem d_M_part_76 : decode c_M_part 76 = .ok (.ifCond .le 5, 3) := by decide +kernel
theorem d_M_part_79 : decode c_M_part 79 = .ok (.iconst 0, 1) := by decide +kernel
theorem d_M_part_80 : decode c_M_part 80 = .ok (.ireturn, 1) := by decide +kernel
theorem d_M_part_81 : decode c_M_part 81 = .ok (.aload_n 0, 1) := by decide +kernel
theorem d_M_part_82 : decode c_M_part 82 = .ok (.dup, 1) := by decide +kernel
theorem d_M_part_83 : decode c_M_part 83 = .ok (.getfield 70, 3) := by decide +kernel
theorem d_M_part_86 : decode c_M_part 86 = .ok (.iconst 1, 1) := by decide +kernel
theorem d_M_part_87 : decode c_M_part 87 = .ok (.iadd, 1) := by decide +kernel
theorem d_M_part_88 : decode c_M_part 88 = .ok (.putfield 70, 3) := by decide +kernel
theorem d_M_part_91 : decode c_M_part 91 = .ok (.aload_n 0, 1) := by decide +kernel
theorem d_M_part_92 : decode c_M_part 92 = .ok (.getfield 7, 3) := by decide +kernel
theorem d_M_part_95 : decode c_M_part 95 = .ok (.aload_n 0, 1) := by decide +kernel
theorem d_M_part_96 : decode c_M_part 96 = .ok (.getfield 70, 3) := by decide +kernel
theorem d_M_part_99 : decode c_M_part 99 = .ok (.iload_n 1, 1) := by decide +kernel
theorem d_M_part_100 : decode c_M_part 100 = .ok (.iastore, 1) := by decide +kernel
theorem d_M_part_101 : decode c_M_part 101 = .ok (.aload_n 0, 1) := by decide +kernel
theorem d_M_part_102 : decode c_M_part 102 = .ok (.getfield 13, 3) := by decide +kernel
theorem d_M_part_105 : decode c_M_part 105 = .ok (.aload_n 0, 1) := by decide +kernel
theorem d_M_part_106 : decode c_M_part 106 = .ok (.getfield 70, 3) := by decide +kernel
theorem d_M_part_109 : decode c_M_part 109 = .ok (.iload_n 2, 1) := by decide +kernel
theorem d_M_part_110 : decode c_M_part 110 = .ok (.iastore, 1) := by decide +kernel
theorem d_M_part_111 : decode c_M_part 111 = .ok (.aload_n 0, 1) := by decide +kernel
theorem d_M_part_112 : decode c_M_part 112 = .ok (.getfield 16, 3) := by decide +kernel
theorem d_M_part_115 : decode c_M_part 115 = .ok (.aload_n 0, 1) := by decide +kernel
theorem d_M_part_116 : decode c_M_part 116 = .ok (.getfield 70, 3) := by decide +kernel
theorem d_M_part_119 : decode c_M_part 119 = .ok (.lload_n 3, 1) := by decide +kernel
theorem d_M_part_120 : decode c_M_part 120 = .ok (.l2i, 1) := by decide +kernel
theorem d_M_part_121 : decode c_M_part 121 = .ok (.iastore, 1) := by decide +kernel
theorem d_M_part_122 : decode c_M_part 122 = .ok (.aload_n 0, 1) := by decide +kernel
theorem d_M_part_123 : decode c_M_part 123 = .ok (.getfield 70, 3) := by decide +kernel
theorem d_M_part_126 : decode c_M_part 126 = .ok (.ireturn, 1) := by decide +kernel
theorem d_M_edgeAt_0 : decode c_M_edgeAt 0 = .ok (.iconst 4, 1) := by decide +kernel
theorem d_M_edgeAt_1 : decode c_M_edgeAt 1 = .ok (.iload_n 1, 1) := by decide +kernel
theorem d_M_edgeAt_2 : decode c_M_edgeAt 2 = .ok (.imul, 1) := by decide +kernel
theorem d_M_edgeAt_3 : decode c_M_edgeAt 3 = .ok (.aload_n 0, 1) := by decide +kernel
theorem d_M_edgeAt_4 : decode c_M_edgeAt 4 = .ok (.getfield 81, 3) := by decide +kernel
theorem d_M_edgeAt_7 : decode c_M_edgeAt 7 = .ok (.iadd, 1) := by decide +kernel
theorem d_M_edgeAt_8 : decode c_M_edgeAt 8 = .ok (.bipush 31, 2) := by decide +kernel
theorem d_M_edgeAt_10 : decode c_M_edgeAt 10 = .ok (.imul, 1) := by decide +kernel
theorem d_M_edgeAt_11 : decode c_M_edgeAt 11 = .ok (.iload_n 2, 1) := by decide +kernel
theorem d_M_edgeAt_12 : decode c_M_edgeAt 12 = .ok (.iadd, 1) := by decide +kernel
theorem d_M_edgeAt_13 : decode c_M_edgeAt 13 = .ok (.bipush 31, 2) := by decide +kernel
theorem d_M_edgeAt_15 : decode c_M_edgeAt 15 = .ok (.imul, 1) := by decide +kernel
theorem d_M_edgeAt_16 : decode c_M_edgeAt 16 = .ok (.iload_n 3, 1) := by decide +kernel
theorem d_M_edgeAt_17 : decode c_M_edgeAt 17 = .ok (.iadd, 1) := by decide +kernel
theorem d_M_edgeAt_18 : decode c_M_edgeAt 18 = .ok (.ireturn, 1) := by decide +kernel
theorem d_M_edge_0 : decode c_M_edge 0 = .ok (.aload_n 0, 1) := by decide +kernel
theorem d_M_edge_1 : decode c_M_edge 1 = .ok (.iconst 0, 1) := by decide +kernel
theorem d_M_edge_2 : decode c_M_edge 2 = .ok (.putfield 66, 3) := by decide +kernel
theorem d_M_edge_5 : decode c_M_edge 5 = .ok (.aload_n 0, 1) := by decide +kernel
theorem d_M_edge_6 : decode c_M_edge 6 = .ok (.iload_n 1, 1) := by decide +kernel
theorem d_M_edge_7 : decode c_M_edge 7 = .ok (.invokevirtual 84, 3) := by decide +kernel
theorem d_M_edge_10 : decode c_M_edge 10 = .ok (.ifCond .ne 5, 3) := by decide +kernel
theorem d_M_edge_13 : decode c_M_edge 13 = .ok (.iconst (-1), 1) := by decide +kernel
theorem d_M_edge_14 : decode c_M_edge 14 = .ok (.ireturn, 1) := by decide +kernel
theorem d_M_edge_15 : decode c_M_edge 15 = .ok (.iload_n 2, 1) := by decide +kernel
theorem d_M_edge_16 : decode c_M_edge 16 = .ok (.ifCond .lt 20, 3) := by decide +kernel
theorem d_M_edge_19 : decode c_M_edge 19 = .ok (.iload_n 2, 1) := by decide +kernel
theorem d_M_edge_20 : decode c_M_edge 20 = .ok (.bipush 30, 2) := by decide +kernel
theorem d_M_edge_22 : decode c_M_edge 22 = .ok (.if_icmp .gt 14, 3) := by decide +kernel
theorem d_M_edge_25 : decode c_M_edge 25 = .ok (.iload_n 3, 1) := by decide +kernel
theorem d_M_edge_26 : decode c_M_edge 26 = .ok (.iconst 1, 1) := by decide +kernel
theorem d_M_edge_27 : decode c_M_edge 27 = .ok (.if_icmp .lt 9, 3) := by decide +kernel
theorem d_M_edge_30 : decode c_M_edge 30 = .ok (.iload_n 3, 1) := by decide +kernel
theorem d_M_edge_31 : decode c_M_edge 31 = .ok (.bipush 30, 2) := by decide +kernel
theorem d_M_edge_33 : decode c_M_edge 33 = .ok (.if_icmp .le 6, 3) := by decide +kernel
theorem d_M_edge_36 : decode c_M_edge 36 = .ok (.bipush (-2), 2) := by decide +kernel
theorem d_M_edge_38 : decode c_M_edge 38 = .ok (.ireturn, 1) := by decide +kernel
theorem d_M_edge_39 : decode c_M_edge 39 = .ok (.aload_n 0, 1) := by decide +kernel
theorem d_M_edge_40 : decode c_M_edge 40 = .ok (.getfield 39, 3) := by decide +kernel
theorem d_M_edge_43 : decode c_M_edge 43 = .ok (.aload_n 0, 1) := by decide +kernel
theorem d_M_edge_44 : decode c_M_edge 44 = .ok (.iload_n 1, 1) := by decide +kernel
theorem d_M_edge_45 : decode c_M_edge 45 = .ok (.iload_n 2, 1) := by decide +kernel
theorem d_M_edge_46 : decode c_M_edge 46 = .ok (.iload_n 3, 1) := by decide +kernel
theorem d_M_edge_47 : decode c_M_edge 47 = .ok (.invokevirtual 88, 3) := by decide +kernel
theorem d_M_edge_50 : decode c_M_edge 50 = .ok (.baload, 1) := by decide +kernel
theorem d_M_edge_51 : decode c_M_edge 51 = .ok (.istore 4, 2) := by decide +kernel
theorem d_M_edge_53 : decode c_M_edge 53 = .ok (.aload_n 0, 1) := by decide +kernel
theorem d_M_edge_54 : decode c_M_edge 54 = .ok (.getfield 39, 3) := by decide +kernel
theorem d_M_edge_57 : decode c_M_edge 57 = .ok (.aload_n 0, 1) := by decide +kernel
theorem d_M_edge_58 : decode c_M_edge 58 = .ok (.iload_n 1, 1) := by decide +kernel
theorem d_M_edge_59 : decode c_M_edge 59 = .ok (.iload_n 2, 1) := by decide +kernel
theorem d_M_edge_60 : decode c_M_edge 60 = .ok (.iload_n 3, 1) := by decide +kernel
theorem d_M_edge_61 : decode c_M_edge 61 = .ok (.invokevirtual 88, 3) := by decide +kernel
theorem d_M_edge_64 : decode c_M_edge 64 = .ok (.iconst 1, 1) := by decide +kernel
theorem d_M_edge_65 : decode c_M_edge 65 = .ok (.bastore, 1) := by decide +kernel
theorem d_M_edge_66 : decode c_M_edge 66 = .ok (.iload 4, 2) := by decide +kernel
theorem d_M_edge_68 : decode c_M_edge 68 = .ok (.ifCond .eq 7, 3) := by decide +kernel
theorem d_M_edge_71 : decode c_M_edge 71 = .ok (.iconst 0, 1) := by decide +kernel
theorem d_M_edge_72 : decode c_M_edge 72 = .ok (.goto 4, 3) := by decide +kernel
theorem d_M_edge_75 : decode c_M_edge 75 = .ok (.iconst 1, 1) := by decide +kernel
theorem d_M_edge_76 : decode c_M_edge 76 = .ok (.ireturn, 1) := by decide +kernel
theorem d_M_deadline_0 : decode c_M_deadline 0 = .ok (.aload_n 0, 1) := by decide +kernel
theorem d_M_deadline_1 : decode c_M_deadline 1 = .ok (.iconst 0, 1) := by decide +kernel
theorem d_M_deadline_2 : decode c_M_deadline 2 = .ok (.putfield 66, 3) := by decide +kernel
theorem d_M_deadline_5 : decode c_M_deadline 5 = .ok (.aload_n 0, 1) := by decide +kernel
theorem d_M_deadline_6 : decode c_M_deadline 6 = .ok (.iload_n 1, 1) := by decide +kernel
theorem d_M_deadline_7 : decode c_M_deadline 7 = .ok (.invokevirtual 84, 3) := by decide +kernel
theorem d_M_deadline_10 : decode c_M_deadline 10 = .ok (.ifCond .ne 5, 3) := by decide +kernel
theorem d_M_deadline_13 : decode c_M_deadline 13 = .ok (.iconst (-1), 1) := by decide +kernel
theorem d_M_deadline_14 : decode c_M_deadline 14 = .ok (.ireturn, 1) := by decide +kernel
theorem d_M_deadline_15 : decode c_M_deadline 15 = .ok (.iload_n 2, 1) := by decide +kernel
theorem d_M_deadline_16 : decode c_M_deadline 16 = .ok (.iconst 1, 1) := by decide +kernel
theorem d_M_deadline_17 : decode c_M_deadline 17 = .ok (.if_icmp .lt 53, 3) := by decide +kernel
theorem d_M_deadline_20 : decode c_M_deadline 20 = .ok (.iload_n 2, 1) := by decide +kernel
theorem d_M_deadline_21 : decode c_M_deadline 21 = .ok (.bipush 30, 2) := by decide +kernel
theorem d_M_deadline_23 : decode c_M_deadline 23 = .ok (.if_icmp .gt 47, 3) := by decide +kernel
theorem d_M_deadline_26 : decode c_M_deadline 26 = .ok (.iload_n 3, 1) := by decide +kernel
theorem d_M_deadline_27 : decode c_M_deadline 27 = .ok (.iconst 1, 1) := by decide +kernel
theorem d_M_deadline_28 : decode c_M_deadline 28 = .ok (.if_icmp .lt 42, 3) := by decide +kernel
theorem d_M_deadline_31 : decode c_M_deadline 31 = .ok (.iload_n 3, 1) := by decide +kernel
theorem d_M_deadline_32 : decode c_M_deadline 32 = .ok (.bipush 30, 2) := by decide +kernel
theorem d_M_deadline_34 : decode c_M_deadline 34 = .ok (.if_icmp .gt 36, 3) := by decide +kernel
theorem d_M_deadline_37 : decode c_M_deadline 37 = .ok (.lload 4, 2) := by decide +kernel
theorem d_M_deadline_39 : decode c_M_deadline 39 = .ok (.lconst 0, 1) := by decide +kernel
theorem d_M_deadline_40 : decode c_M_deadline 40 = .ok (.lcmp, 1) := by decide +kernel
theorem d_M_deadline_41 : decode c_M_deadline 41 = .ok (.ifCond .lt 29, 3) := by decide +kernel
