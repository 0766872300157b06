theorem d_M_outer_1 : decode c_M_outer 1 = .ok (.iconst 0, 1) := by decide +kernel
theorem d_M_outer_2 : decode c_M_outer 2 = .ok (.putfield 66, 3) := by decide +kernel
theorem d_M_outer_5 : decode c_M_outer 5 = .ok (.aload_n 0, 1) := by decide +kernel
theorem d_M_outer_6 : decode c_M_outer 6 = .ok (.lload_n 1, 1) := by decide +kernel
theorem d_M_outer_7 : decode c_M_outer 7 = .ok (.invokevirtual 94, 3) := by decide +kernel
theorem d_M_outer_10 : decode c_M_outer 10 = .ok (.ifCond .ne 6, 3) := by decide +kernel
theorem d_M_outer_13 : decode c_M_outer 13 = .ok (.bipush (-2), 2) := by decide +kernel
theorem d_M_outer_15 : decode c_M_outer 15 = .ok (.ireturn, 1) := by decide +kernel
theorem d_M_outer_16 : decode c_M_outer 16 = .ok (.aload_n 0, 1) := by decide +kernel
theorem d_M_outer_17 : decode c_M_outer 17 = .ok (.lload_n 1, 1) := by decide +kernel
theorem d_M_outer_18 : decode c_M_outer 18 = .ok (.putfield 73, 3) := by decide +kernel
theorem d_M_outer_21 : decode c_M_outer 21 = .ok (.lload_n 1, 1) := by decide +kernel
theorem d_M_outer_22 : decode c_M_outer 22 = .ok (.aload_n 0, 1) := by decide +kernel
theorem d_M_outer_23 : decode c_M_outer 23 = .ok (.getfield 126, 3) := by decide +kernel
theorem d_M_outer_26 : decode c_M_outer 26 = .ok (.lsub, 1) := by decide +kernel
theorem d_M_outer_27 : decode c_M_outer 27 = .ok (.ldc2_w 79, 3) := by decide +kernel
theorem d_M_outer_30 : decode c_M_outer 30 = .ok (.lcmp, 1) := by decide +kernel
theorem d_M_outer_31 : decode c_M_outer 31 = .ok (.ifCond .le 7, 3) := by decide +kernel
theorem d_M_outer_34 : decode c_M_outer 34 = .ok (.iconst 1, 1) := by decide +kernel
theorem d_M_outer_35 : decode c_M_outer 35 = .ok (.goto 4, 3) := by decide +kernel
theorem d_M_outer_38 : decode c_M_outer 38 = .ok (.iconst 0, 1) := by decide +kernel
theorem d_M_outer_39 : decode c_M_outer 39 = .ok (.istore_n 3, 1) := by decide +kernel
theorem d_M_outer_40 : decode c_M_outer 40 = .ok (.aload_n 0, 1) := by decide +kernel
theorem d_M_outer_41 : decode c_M_outer 41 = .ok (.lload_n 1, 1) := by decide +kernel
theorem d_M_outer_42 : decode c_M_outer 42 = .ok (.putfield 126, 3) := by decide +kernel
theorem d_M_outer_45 : decode c_M_outer 45 = .ok (.iload_n 3, 1) := by decide +kernel
theorem d_M_outer_46 : decode c_M_outer 46 = .ok (.ifCond .eq 8, 3) := by decide +kernel
theorem d_M_outer_49 : decode c_M_outer 49 = .ok (.aload_n 0, 1) := by decide +kernel
theorem d_M_outer_50 : decode c_M_outer 50 = .ok (.iconst 3, 1) := by decide +kernel
theorem d_M_outer_51 : decode c_M_outer 51 = .ok (.invokevirtual 135, 3) := by decide +kernel
theorem d_M_outer_54 : decode c_M_outer 54 = .ok (.iload_n 3, 1) := by decide +kernel
theorem d_M_outer_55 : decode c_M_outer 55 = .ok (.ifCond .eq 7, 3) := by decide +kernel
theorem d_M_outer_58 : decode c_M_outer 58 = .ok (.iconst 0, 1) := by decide +kernel
theorem d_M_outer_59 : decode c_M_outer 59 = .ok (.goto 4, 3) := by decide +kernel
theorem d_M_outer_62 : decode c_M_outer 62 = .ok (.iconst 1, 1) := by decide +kernel
theorem d_M_outer_63 : decode c_M_outer 63 = .ok (.ireturn, 1) := by decide +kernel
theorem d_M_state_0 : decode c_M_state 0 = .ok (.aload_n 0, 1) := by decide +kernel
theorem d_M_state_1 : decode c_M_state 1 = .ok (.iconst 0, 1) := by decide +kernel
theorem d_M_state_2 : decode c_M_state 2 = .ok (.putfield 66, 3) := by decide +kernel
theorem d_M_state_5 : decode c_M_state 5 = .ok (.aload_n 0, 1) := by decide +kernel
theorem d_M_state_6 : decode c_M_state 6 = .ok (.iload_n 1, 1) := by decide +kernel
theorem d_M_state_7 : decode c_M_state 7 = .ok (.invokevirtual 84, 3) := by decide +kernel
theorem d_M_state_10 : decode c_M_state 10 = .ok (.ifCond .eq 12, 3) := by decide +kernel
theorem d_M_state_13 : decode c_M_state 13 = .ok (.aload_n 0, 1) := by decide +kernel
theorem d_M_state_14 : decode c_M_state 14 = .ok (.getfield 19, 3) := by decide +kernel
theorem d_M_state_17 : decode c_M_state 17 = .ok (.iload_n 1, 1) := by decide +kernel
theorem d_M_state_18 : decode c_M_state 18 = .ok (.iaload, 1) := by decide +kernel
theorem d_M_state_19 : decode c_M_state 19 = .ok (.goto 4, 3) := by decide +kernel
theorem d_M_state_22 : decode c_M_state 22 = .ok (.iconst (-1), 1) := by decide +kernel
theorem d_M_state_23 : decode c_M_state 23 = .ok (.ireturn, 1) := by decide +kernel
theorem d_D_init_0 : decode c_D_init 0 = .ok (.aload_n 0, 1) := by decide +kernel
theorem d_D_init_1 : decode c_D_init 1 = .ok (.invokespecial 1, 3) := by decide +kernel
theorem d_D_init_4 : decode c_D_init 4 = .ok (.aload_n 0, 1) := by decide +kernel
theorem d_D_init_5 : decode c_D_init 5 = .ok (.iload_n 1, 1) := by decide +kernel
theorem d_D_init_6 : decode c_D_init 6 = .ok (.putfield 7, 3) := by decide +kernel
theorem d_D_init_9 : decode c_D_init 9 = .ok (.aload_n 0, 1) := by decide +kernel
theorem d_D_init_10 : decode c_D_init 10 = .ok (.iload_n 2, 1) := by decide +kernel
theorem d_D_init_11 : decode c_D_init 11 = .ok (.putfield 13, 3) := by decide +kernel
theorem d_D_init_14 : decode c_D_init 14 = .ok (.aload_n 0, 1) := by decide +kernel
theorem d_D_init_15 : decode c_D_init 15 = .ok (.iload_n 3, 1) := by decide +kernel
theorem d_D_init_16 : decode c_D_init 16 = .ok (.putfield 16, 3) := by decide +kernel
theorem d_D_init_19 : decode c_D_init 19 = .ok (.aload_n 0, 1) := by decide +kernel
theorem d_D_init_20 : decode c_D_init 20 = .ok (.lload 4, 2) := by decide +kernel
theorem d_D_init_22 : decode c_D_init 22 = .ok (.putfield 19, 3) := by decide +kernel
theorem d_D_init_25 : decode c_D_init 25 = .ok (.aload_n 0, 1) := by decide +kernel
theorem d_D_init_26 : decode c_D_init 26 = .ok (.lload 6, 2) := by decide +kernel
theorem d_D_init_28 : decode c_D_init 28 = .ok (.putfield 23, 3) := by decide +kernel
theorem d_D_init_31 : decode c_D_init 31 = .ok (.aload_n 0, 1) := by decide +kernel
theorem d_D_init_32 : decode c_D_init 32 = .ok (.iconst 0, 1) := by decide +kernel
theorem d_D_init_33 : decode c_D_init 33 = .ok (.putfield 26, 3) := by decide +kernel
theorem d_D_init_36 : decode c_D_init 36 = .ok (.aload_n 0, 1) := by decide +kernel
theorem d_D_init_37 : decode c_D_init 37 = .ok (.lconst 0, 1) := by decide +kernel
theorem d_D_init_38 : decode c_D_init 38 = .ok (.putfield 30, 3) := by decide +kernel
theorem d_D_init_41 : decode c_D_init 41 = .ok (.return_, 1) := by decide +kernel
theorem d_P_init_0 : decode c_P_init 0 = .ok (.aload_n 0, 1) := by decide +kernel
theorem d_P_init_1 : decode c_P_init 1 = .ok (.invokespecial 3, 3) := by decide +kernel
theorem d_P_init_4 : decode c_P_init 4 = .ok (.aload_n 0, 1) := by decide +kernel
theorem d_P_init_5 : decode c_P_init 5 = .ok (.iload_n 1, 1) := by decide +kernel
theorem d_P_init_6 : decode c_P_init 6 = .ok (.putfield 9, 3) := by decide +kernel
theorem d_P_init_9 : decode c_P_init 9 = .ok (.aload_n 0, 1) := by decide +kernel
theorem d_P_init_10 : decode c_P_init 10 = .ok (.iload_n 2, 1) := by decide +kernel
theorem d_P_init_11 : decode c_P_init 11 = .ok (.putfield 15, 3) := by decide +kernel
theorem d_P_init_14 : decode c_P_init 14 = .ok (.aload_n 0, 1) := by decide +kernel
theorem d_P_init_15 : decode c_P_init 15 = .ok (.lload_n 3, 1) := by decide +kernel
theorem d_P_init_16 : decode c_P_init 16 = .ok (.putfield 18, 3) := by decide +kernel
theorem d_P_init_19 : decode c_P_init 19 = .ok (.aload_n 0, 1) := by decide +kernel
theorem d_P_init_20 : decode c_P_init 20 = .ok (.bipush 124, 2) := by decide +kernel
theorem d_P_init_22 : decode c_P_init 22 = .ok (.newarray .int, 2) := by decide +kernel
theorem d_P_init_24 : decode c_P_init 24 = .ok (.putfield 22, 3) := by decide +kernel
theorem d_P_init_27 : decode c_P_init 27 = .ok (.aload_n 0, 1) := by decide +kernel
theorem d_P_init_28 : decode c_P_init 28 = .ok (.new 26, 3) := by decide +kernel
theorem d_P_init_31 : decode c_P_init 31 = .ok (.dup, 1) := by decide +kernel
theorem d_P_init_32 : decode c_P_init 32 = .ok (.invokespecial 28, 3) := by decide +kernel
theorem d_P_init_35 : decode c_P_init 35 = .ok (.putfield 29, 3) := by decide +kernel
theorem d_P_init_38 : decode c_P_init 38 = .ok (.aload_n 0, 1) := by decide +kernel
theorem d_P_init_39 : decode c_P_init 39 = .ok (.iconst 0, 1) := by decide +kernel
theorem d_P_init_40 : decode c_P_init 40 = .ok (.putfield 33, 3) := by decide +kernel
theorem d_P_init_43 : decode c_P_init 43 = .ok (.aload_n 0, 1) := by decide +kernel
theorem d_P_init_44 : decode c_P_init 44 = .ok (.iconst 0, 1) := by decide +kernel
theorem d_P_init_45 : decode c_P_init 45 = .ok (.putfield 36, 3) := by decide +kernel
theorem d_P_init_48 : decode c_P_init 48 = .ok (.aload_n 0, 1) := by decide +kernel
theorem d_P_init_49 : decode c_P_init 49 = .ok (.iconst 0, 1) := by decide +kernel
theorem d_P_init_50 : decode c_P_init 50 = .ok (.putfield 39, 3) := by decide +kernel
theorem d_P_init_53 : decode c_P_init 53 = .ok (.aload_n 0, 1) := by decide +kernel
theorem d_P_init_54 : decode c_P_init 54 = .ok (.iconst 0, 1) := by decide +kernel
theorem d_P_init_55 : decode c_P_init 55 = .ok (.putfield 42, 3) := by decide +kernel
theorem d_P_init_58 : decode c_P_init 58 = .ok (.aload_n 0, 1) := by decide +kernel
theorem d_P_init_59 : decode c_P_init 59 = .ok (.iconst 0, 1) := by decide +kernel
theorem d_P_init_60 : decode c_P_init 60 = .ok (.putfield 45, 3) := by decide +kernel
theorem d_P_init_63 : decode c_P_init 63 = .ok (.aload_n 0, 1) := by decide +kernel
theorem d_P_init_64 : decode c_P_init 64 = .ok (.iconst 0, 1) := by decide +kernel
theorem d_P_init_65 : decode c_P_init 65 = .ok (.putfield 48, 3) := by decide +kernel
theorem d_P_init_68 : decode c_P_init 68 = .ok (.return_, 1) := by decide +kernel
theorem d_P_addEdge_0 : decode c_P_addEdge 0 = .ok (.iload_n 1, 1) := by decide +kernel
theorem d_P_addEdge_1 : decode c_P_addEdge 1 = .ok (.iload_n 2, 1) := by decide +kernel
theorem d_P_addEdge_2 : decode c_P_addEdge 2 = .ok (.invokestatic 52, 3) := by decide +kernel
theorem d_P_addEdge_5 : decode c_P_addEdge 5 = .ok (.istore 4, 2) := by decide +kernel
theorem d_P_addEdge_7 : decode c_P_addEdge 7 = .ok (.aload_n 0, 1) := by decide +kernel
theorem d_P_addEdge_8 : decode c_P_addEdge 8 = .ok (.iload_n 1, 1) := by decide +kernel
theorem d_P_addEdge_9 : decode c_P_addEdge 9 = .ok (.iload_n 2, 1) := by decide +kernel
theorem d_P_addEdge_10 : decode c_P_addEdge 10 = .ok (.iload_n 3, 1) := by decide +kernel
theorem d_P_addEdge_11 : decode c_P_addEdge 11 = .ok (.invokevirtual 56, 3) := by decide +kernel
theorem d_P_addEdge_14 : decode c_P_addEdge 14 = .ok (.ifCond .ne 21, 3) := by decide +kernel
theorem d_P_addEdge_17 : decode c_P_addEdge 17 = .ok (.iload 4, 2) := by decide +kernel
theorem d_P_addEdge_19 : decode c_P_addEdge 19 = .ok (.i2l, 1) := by decide +kernel
theorem d_P_addEdge_20 : decode c_P_addEdge 20 = .ok (.lconst 0, 1) := by decide +kernel
theorem d_P_addEdge_21 : decode c_P_addEdge 21 = .ok (.aload_n 0, 1) := by decide +kernel
theorem d_P_addEdge_22 : decode c_P_addEdge 22 = .ok (.getfield 22, 3) := by decide +kernel
theorem d_P_addEdge_25 : decode c_P_addEdge 25 = .ok (.arraylength, 1) := by decide +kernel
theorem d_P_addEdge_26 : decode c_P_addEdge 26 = .ok (.iconst 1, 1) := by decide +kernel
theorem d_P_addEdge_27 : decode c_P_addEdge 27 = .ok (.isub, 1) := by decide +kernel
theorem d_P_addEdge_28 : decode c_P_addEdge 28 = .ok (.i2l, 1) := by decide +kernel
theorem d_P_addEdge_29 : decode c_P_addEdge 29 = .ok (.invokestatic 60, 3) := by decide +kernel
theorem d_P_addEdge_32 : decode c_P_addEdge 32 = .ok (.ifCond .ne 5, 3) := by decide +kernel
theorem d_P_addEdge_35 : decode c_P_addEdge 35 = .ok (.iconst 0, 1) := by decide +kernel
theorem d_P_addEdge_36 : decode c_P_addEdge 36 = .ok (.ireturn, 1) := by decide +kernel
theorem d_P_addEdge_37 : decode c_P_addEdge 37 = .ok (.aload_n 0, 1) := by decide +kernel
theorem d_P_addEdge_38 : decode c_P_addEdge 38 = .ok (.getfield 22, 3) := by decide +kernel
theorem d_P_addEdge_41 : decode c_P_addEdge 41 = .ok (.iload 4, 2) := by decide +kernel
theorem d_P_addEdge_43 : decode c_P_addEdge 43 = .ok (.dup2, 1) := by decide +kernel
theorem d_P_addEdge_44 : decode c_P_addEdge 44 = .ok (.iaload, 1) := by decide +kernel
theorem d_P_addEdge_45 : decode c_P_addEdge 45 = .ok (.iconst 1, 1) := by decide +kernel
theorem d_P_addEdge_46 : decode c_P_addEdge 46 = .ok (.iload_n 3, 1) := by decide +kernel
theorem d_P_addEdge_47 : decode c_P_addEdge 47 = .ok (.ishl, 1) := by decide +kernel
theorem d_P_addEdge_48 : decode c_P_addEdge 48 = .ok (.ior, 1) := by decide +kernel
theorem d_P_addEdge_49 : decode c_P_addEdge 49 = .ok (.iastore, 1) := by decide +kernel
theorem d_P_addEdge_50 : decode c_P_addEdge 50 = .ok (.iconst 1, 1) := by decide +kernel
theorem d_P_addEdge_51 : decode c_P_addEdge 51 = .ok (.ireturn, 1) := by decide +kernel
theorem d_P_hasEdge_0 : decode c_P_hasEdge 0 = .ok (.iload_n 1, 1) := by decide +kernel
theorem d_P_hasEdge_1 : decode c_P_hasEdge 1 = .ok (.iload_n 2, 1) := by decide +kernel
theorem d_P_hasEdge_2 : decode c_P_hasEdge 2 = .ok (.invokestatic 52, 3) := by decide +kernel
theorem d_P_hasEdge_5 : decode c_P_hasEdge 5 = .ok (.istore 4, 2) := by decide +kernel
theorem d_P_hasEdge_7 : decode c_P_hasEdge 7 = .ok (.iload 4, 2) := by decide +kernel
theorem d_P_hasEdge_9 : decode c_P_hasEdge 9 = .ok (.i2l, 1) := by decide +kernel
theorem d_P_hasEdge_10 : decode c_P_hasEdge 10 = .ok (.lconst 0, 1) := by decide +kernel
theorem d_P_hasEdge_11 : decode c_P_hasEdge 11 = .ok (.aload_n 0, 1) := by decide +kernel
theorem d_P_hasEdge_12 : decode c_P_hasEdge 12 = .ok (.getfield 22, 3) := by decide +kernel
theorem d_P_hasEdge_15 : decode c_P_hasEdge 15 = .ok (.arraylength, 1) := by decide +kernel
theorem d_P_hasEdge_16 : decode c_P_hasEdge 16 = .ok (.iconst 1, 1) := by decide +kernel
theorem d_P_hasEdge_17 : decode c_P_hasEdge 17 = .ok (.isub, 1) := by decide +kernel
theorem d_P_hasEdge_18 : decode c_P_hasEdge 18 = .ok (.i2l, 1) := by decide +kernel
theorem d_P_hasEdge_19 : decode c_P_hasEdge 19 = .ok (.invokestatic 60, 3) := by decide +kernel
theorem d_P_hasEdge_22 : decode c_P_hasEdge 22 = .ok (.ifCond .eq 21, 3) := by decide +kernel
theorem d_P_hasEdge_25 : decode c_P_hasEdge 25 = .ok (.aload_n 0, 1) := by decide +kernel
theorem d_P_hasEdge_26 : decode c_P_hasEdge 26 = .ok (.getfield 22, 3) := by decide +kernel
theorem d_P_hasEdge_29 : decode c_P_hasEdge 29 = .ok (.iload 4, 2) := by decide +kernel
theorem d_P_hasEdge_31 : decode c_P_hasEdge 31 = .ok (.iaload, 1) := by decide +kernel
theorem d_P_hasEdge_32 : decode c_P_hasEdge 32 = .ok (.iconst 1, 1) := by decide +kernel
theorem d_P_hasEdge_33 : decode c_P_hasEdge 33 = .ok (.iload_n 3, 1) := by decide +kernel
theorem d_P_hasEdge_34 : decode c_P_hasEdge 34 = .ok (.ishl, 1) := by decide +kernel
theorem d_P_hasEdge_35 : decode c_P_hasEdge 35 = .ok (.iand, 1) := by decide +kernel
theorem d_P_hasEdge_36 : decode c_P_hasEdge 36 = .ok (.ifCond .eq 7, 3) := by decide +kernel
theorem d_P_hasEdge_39 : decode c_P_hasEdge 39 = .ok (.iconst 1, 1) := by decide +kernel
theorem d_P_hasEdge_40 : decode c_P_hasEdge 40 = .ok (.goto 4, 3) := by decide +kernel
theorem d_P_hasEdge_43 : decode c_P_hasEdge 43 = .ok (.iconst 0, 1) := by decide +kernel
theorem d_P_hasEdge_44 : decode c_P_hasEdge 44 = .ok (.ireturn, 1) := by decide +kernel
theorem d_P_rowOf_0 : decode c_P_rowOf 0 = .ok (.iload_n 0, 1) := by decide +kernel
theorem d_P_rowOf_1 : decode c_P_rowOf 1 = .ok (.bipush 31, 2) := by decide +kernel
theorem d_P_rowOf_3 : decode c_P_rowOf 3 = .ok (.imul, 1) := by decide +kernel
theorem d_P_rowOf_4 : decode c_P_rowOf 4 = .ok (.iload_n 1, 1) := by decide +kernel
theorem d_P_rowOf_5 : decode c_P_rowOf 5 = .ok (.iadd, 1) := by decide +kernel
theorem d_P_rowOf_6 : decode c_P_rowOf 6 = .ok (.ireturn, 1) := by decide +kernel
theorem d_P_passPoint_0 : decode c_P_passPoint 0 = .ok (.aload_n 0, 1) := by decide +kernel
theorem d_P_passPoint_1 : decode c_P_passPoint 1 = .ok (.iload_n 1, 1) := by decide +kernel
theorem d_P_passPoint_2 : decode c_P_passPoint 2 = .ok (.aload_n 0, 1) := by decide +kernel
theorem d_P_passPoint_3 : decode c_P_passPoint 3 = .ok (.getfield 45, 3) := by decide +kernel
theorem d_P_passPoint_6 : decode c_P_passPoint 6 = .ok (.iload_n 2, 1) := by decide +kernel
theorem d_P_passPoint_7 : decode c_P_passPoint 7 = .ok (.invokevirtual 56, 3) := by decide +kernel
theorem d_P_passPoint_10 : decode c_P_passPoint 10 = .ok (.istore 5, 2) := by decide +kernel
theorem d_P_passPoint_12 : decode c_P_passPoint 12 = .ok (.aload_n 0, 1) := by decide +kernel
theorem d_P_passPoint_13 : decode c_P_passPoint 13 = .ok (.iload_n 2, 1) := by decide +kernel
theorem d_P_passPoint_14 : decode c_P_passPoint 14 = .ok (.putfield 45, 3) := by decide +kernel
theorem d_P_passPoint_17 : decode c_P_passPoint 17 = .ok (.aload_n 0, 1) := by decide +kernel
theorem d_P_passPoint_18 : decode c_P_passPoint 18 = .ok (.getfield 36, 3) := by decide +kernel
theorem d_P_passPoint_21 : decode c_P_passPoint 21 = .ok (.iconst 2, 1) := by decide +kernel
theorem d_P_passPoint_22 : decode c_P_passPoint 22 = .ok (.if_icmp .ne 4, 3) := by decide +kernel
theorem d_P_passPoint_25 : decode c_P_passPoint 25 = .ok (.return_, 1) := by decide +kernel
theorem d_P_passPoint_26 : decode c_P_passPoint 26 = .ok (.iload 5, 2) := by decide +kernel
theorem d_P_passPoint_28 : decode c_P_passPoint 28 = .ok (.ifCond .ne 9, 3) := by decide +kernel
theorem d_P_passPoint_31 : decode c_P_passPoint 31 = .ok (.aload_n 0, 1) := by decide +kernel
theorem d_P_passPoint_32 : decode c_P_passPoint 32 = .ok (.iconst 2, 1) := by decide +kernel
theorem d_P_passPoint_33 : decode c_P_passPoint 33 = .ok (.putfield 36, 3) := by decide +kernel
theorem d_P_passPoint_36 : decode c_P_passPoint 36 = .ok (.return_, 1) := by decide +kernel
theorem d_P_passPoint_37 : decode c_P_passPoint 37 = .ok (.aload_n 0, 1) := by decide +kernel
theorem d_P_passPoint_38 : decode c_P_passPoint 38 = .ok (.iload_n 2, 1) := by decide +kernel
theorem d_P_passPoint_39 : decode c_P_passPoint 39 = .ok (.lload_n 3, 1) := by decide +kernel
theorem d_P_passPoint_40 : decode c_P_passPoint 40 = .ok (.invokevirtual 64, 3) := by decide +kernel
theorem d_P_passPoint_43 : decode c_P_passPoint 43 = .ok (.aload_n 0, 1) := by decide +kernel
theorem d_P_passPoint_44 : decode c_P_passPoint 44 = .ok (.iload_n 1, 1) := by decide +kernel
theorem d_P_passPoint_45 : decode c_P_passPoint 45 = .ok (.iload_n 2, 1) := by decide +kernel
theorem d_P_passPoint_46 : decode c_P_passPoint 46 = .ok (.lload_n 3, 1) := by decide +kernel
theorem d_P_passPoint_47 : decode c_P_passPoint 47 = .ok (.invokevirtual 68, 3) := by decide +kernel
theorem d_P_passPoint_50 : decode c_P_passPoint 50 = .ok (.iload_n 2, 1) := by decide +kernel
theorem d_P_passPoint_51 : decode c_P_passPoint 51 = .ok (.iconst 1, 1) := by decide +kernel
theorem d_P_passPoint_52 : decode c_P_passPoint 52 = .ok (.if_icmp .ne 13, 3) := by decide +kernel
theorem d_P_passPoint_55 : decode c_P_passPoint 55 = .ok (.aload_n 0, 1) := by decide +kernel
theorem d_P_passPoint_56 : decode c_P_passPoint 56 = .ok (.dup, 1) := by decide +kernel
theorem d_P_passPoint_57 : decode c_P_passPoint 57 = .ok (.getfield 42, 3) := by decide +kernel
theorem d_P_passPoint_60 : decode c_P_passPoint 60 = .ok (.iconst 1, 1) := by decide +kernel
theorem d_P_passPoint_61 : decode c_P_passPoint 61 = .ok (.iadd, 1) := by decide +kernel
theorem d_P_passPoint_62 : decode c_P_passPoint 62 = .ok (.putfield 42, 3) := by decide +kernel
theorem d_P_passPoint_65 : decode c_P_passPoint 65 = .ok (.return_, 1) := by decide +kernel
theorem d_P_endDeadlines_0 : decode c_P_endDeadlines 0 = .ok (.iconst 0, 1) := by decide +kernel
theorem d_P_endDeadlines_1 : decode c_P_endDeadlines 1 = .ok (.istore 4, 2) := by decide +kernel
theorem d_P_endDeadlines_3 : decode c_P_endDeadlines 3 = .ok (.iload 4, 2) := by decide +kernel
theorem d_P_endDeadlines_5 : decode c_P_endDeadlines 5 = .ok (.aload_n 0, 1) := by decide +kernel
theorem d_P_endDeadlines_6 : decode c_P_endDeadlines 6 = .ok (.getfield 29, 3) := by decide +kernel
theorem d_P_endDeadlines_9 : decode c_P_endDeadlines 9 = .ok (.invokevirtual 72, 3) := by decide +kernel
theorem d_P_endDeadlines_12 : decode c_P_endDeadlines 12 = .ok (.if_icmp .ge 85, 3) := by decide +kernel
theorem d_P_endDeadlines_15 : decode c_P_endDeadlines 15 = .ok (.aload_n 0, 1) := by decide +kernel
theorem d_P_endDeadlines_16 : decode c_P_endDeadlines 16 = .ok (.getfield 29, 3) := by decide +kernel
theorem d_P_endDeadlines_19 : decode c_P_endDeadlines 19 = .ok (.iload 4, 2) := by decide +kernel
theorem d_P_endDeadlines_21 : decode c_P_endDeadlines 21 = .ok (.invokevirtual 76, 3) := by decide +kernel
theorem d_P_endDeadlines_24 : decode c_P_endDeadlines 24 = .ok (.checkcast 80, 3) := by decide +kernel
theorem d_P_endDeadlines_27 : decode c_P_endDeadlines 27 = .ok (.astore 5, 2) := by decide +kernel
theorem d_P_endDeadlines_29 : decode c_P_endDeadlines 29 = .ok (.aload 5, 2) := by decide +kernel
theorem d_P_endDeadlines_31 : decode c_P_endDeadlines 31 = .ok (.getfield 82, 3) := by decide +kernel
theorem d_P_endDeadlines_34 : decode c_P_endDeadlines 34 = .ok (.ifCond .eq 57, 3) := by decide +kernel
theorem d_P_endDeadlines_37 : decode c_P_endDeadlines 37 = .ok (.aload 5, 2) := by decide +kernel
theorem d_P_endDeadlines_39 : decode c_P_endDeadlines 39 = .ok (.getfield 85, 3) := by decide +kernel
theorem d_P_endDeadlines_42 : decode c_P_endDeadlines 42 = .ok (.iload_n 1, 1) := by decide +kernel
theorem d_P_endDeadlines_43 : decode c_P_endDeadlines 43 = .ok (.if_icmp .ne 48, 3) := by decide +kernel
theorem d_P_endDeadlines_46 : decode c_P_endDeadlines 46 = .ok (.aload_n 0, 1) := by decide +kernel
theorem d_P_endDeadlines_47 : decode c_P_endDeadlines 47 = .ok (.aload_n 0, 1) := by decide +kernel
theorem d_P_endDeadlines_48 : decode c_P_endDeadlines 48 = .ok (.getfield 48, 3) := by decide +kernel
theorem d_P_endDeadlines_51 : decode c_P_endDeadlines 51 = .ok (.ifCond .ne 26, 3) := by decide +kernel
theorem d_P_endDeadlines_54 : decode c_P_endDeadlines 54 = .ok (.lload_n 2, 1) := by decide +kernel
theorem d_P_endDeadlines_55 : decode c_P_endDeadlines 55 = .ok (.aload 5, 2) := by decide +kernel
theorem d_P_endDeadlines_57 : decode c_P_endDeadlines 57 = .ok (.getfield 88, 3) := by decide +kernel
theorem d_P_endDeadlines_60 : decode c_P_endDeadlines 60 = .ok (.lsub, 1) := by decide +kernel
theorem d_P_endDeadlines_61 : decode c_P_endDeadlines 61 = .ok (.aload 5, 2) := by decide +kernel
theorem d_P_endDeadlines_63 : decode c_P_endDeadlines 63 = .ok (.getfield 91, 3) := by decide +kernel
theorem d_P_endDeadlines_66 : decode c_P_endDeadlines 66 = .ok (.aload 5, 2) := by decide +kernel
theorem d_P_endDeadlines_68 : decode c_P_endDeadlines 68 = .ok (.getfield 93, 3) := by decide +kernel
theorem d_P_endDeadlines_71 : decode c_P_endDeadlines 71 = .ok (.invokestatic 60, 3) := by decide +kernel
theorem d_P_endDeadlines_74 : decode c_P_endDeadlines 74 = .ok (.ifCond .ne 7, 3) := by decide +kernel
theorem d_P_endDeadlines_77 : decode c_P_endDeadlines 77 = .ok (.iconst 1, 1) := by decide +kernel
theorem d_P_endDeadlines_78 : decode c_P_endDeadlines 78 = .ok (.goto 4, 3) := by decide +kernel
theorem d_P_endDeadlines_81 : decode c_P_endDeadlines 81 = .ok (.iconst 0, 1) := by decide +kernel
theorem d_P_endDeadlines_82 : decode c_P_endDeadlines 82 = .ok (.putfield 48, 3) := by decide +kernel
theorem d_P_endDeadlines_85 : decode c_P_endDeadlines 85 = .ok (.aload 5, 2) := by decide +kernel
theorem d_P_endDeadlines_87 : decode c_P_endDeadlines 87 = .ok (.iconst 0, 1) := by decide +kernel
theorem d_P_endDeadlines_88 : decode c_P_endDeadlines 88 = .ok (.putfield 82, 3) := by decide +kernel
theorem d_P_endDeadlines_91 : decode c_P_endDeadlines 91 = .ok (.iinc 4 1, 3) := by decide +kernel
theorem d_P_endDeadlines_94 : decode c_P_endDeadlines 94 = .ok (.goto (-91), 3) := by decide +kernel
theorem d_P_endDeadlines_97 : decode c_P_endDeadlines 97 = .ok (.return_, 1) := by decide +kernel
theorem d_P_beginDeadlines_0 : decode c_P_beginDeadlines 0 = .ok (.iconst 0, 1) := by decide +kernel
theorem d_P_beginDeadlines_1 : decode c_P_beginDeadlines 1 = .ok (.istore 5, 2) := by decide +kernel
theorem d_P_beginDeadlines_3 : decode c_P_beginDeadlines 3 = .ok (.iload 5, 2) := by decide +kernel
theorem d_P_beginDeadlines_5 : decode c_P_beginDeadlines 5 = .ok (.aload_n 0, 1) := by decide +kernel
theorem d_P_beginDeadlines_6 : decode c_P_beginDeadlines 6 = .ok (.getfield 29, 3) := by decide +kernel
theorem d_P_beginDeadlines_9 : decode c_P_beginDeadlines 9 = .ok (.invokevirtual 72, 3) := by decide +kernel
theorem d_P_beginDeadlines_12 : decode c_P_beginDeadlines 12 = .ok (.if_icmp .ge 53, 3) := by decide +kernel
theorem d_P_beginDeadlines_15 : decode c_P_beginDeadlines 15 = .ok (.aload_n 0, 1) := by decide +kernel
theorem d_P_beginDeadlines_16 : decode c_P_beginDeadlines 16 = .ok (.getfield 29, 3) := by decide +kernel
theorem d_P_beginDeadlines_19 : decode c_P_beginDeadlines 19 = .ok (.iload 5, 2) := by decide +kernel
theorem d_P_beginDeadlines_21 : decode c_P_beginDeadlines 21 = .ok (.invokevirtual 76, 3) := by decide +kernel
theorem d_P_beginDeadlines_24 : decode c_P_beginDeadlines 24 = .ok (.checkcast 80, 3) := by decide +kernel
theorem d_P_beginDeadlines_27 : decode c_P_beginDeadlines 27 = .ok (.astore 6, 2) := by decide +kernel
theorem d_P_beginDeadlines_29 : decode c_P_beginDeadlines 29 = .ok (.aload 6, 2) := by decide +kernel
theorem d_P_beginDeadlines_31 : decode c_P_beginDeadlines 31 = .ok (.getfield 95, 3) := by decide +kernel
theorem d_P_beginDeadlines_34 : decode c_P_beginDeadlines 34 = .ok (.iload_n 1, 1) := by decide +kernel
theorem d_P_beginDeadlines_35 : decode c_P_beginDeadlines 35 = .ok (.if_icmp .ne 24, 3) := by decide +kernel
theorem d_P_beginDeadlines_38 : decode c_P_beginDeadlines 38 = .ok (.aload 6, 2) := by decide +kernel
theorem d_P_beginDeadlines_40 : decode c_P_beginDeadlines 40 = .ok (.getfield 98, 3) := by decide +kernel
theorem d_P_beginDeadlines_43 : decode c_P_beginDeadlines 43 = .ok (.iload_n 2, 1) := by decide +kernel
theorem d_P_beginDeadlines_44 : decode c_P_beginDeadlines 44 = .ok (.if_icmp .ne 15, 3) := by decide +kernel
theorem d_P_beginDeadlines_47 : decode c_P_beginDeadlines 47 = .ok (.aload 6, 2) := by decide +kernel
theorem d_P_beginDeadlines_49 : decode c_P_beginDeadlines 49 = .ok (.iconst 1, 1) := by decide +kernel
theorem d_P_beginDeadlines_50 : decode c_P_beginDeadlines 50 = .ok (.putfield 82, 3) := by decide +kernel
theorem d_P_beginDeadlines_53 : decode c_P_beginDeadlines 53 = .ok (.aload 6, 2) := by decide +kernel
theorem d_P_beginDeadlines_55 : decode c_P_beginDeadlines 55 = .ok (.lload_n 3, 1) := by decide +kernel
theorem d_P_beginDeadlines_56 : decode c_P_beginDeadlines 56 = .ok (.putfield 88, 3) := by decide +kernel
theorem d_P_beginDeadlines_59 : decode c_P_beginDeadlines 59 = .ok (.iinc 5 1, 3) := by decide +kernel
theorem d_P_beginDeadlines_62 : decode c_P_beginDeadlines 62 = .ok (.goto (-59), 3) := by decide +kernel
theorem d_P_beginDeadlines_65 : decode c_P_beginDeadlines 65 = .ok (.return_, 1) := by decide +kernel
theorem d_P_passCycle_0 : decode c_P_passCycle 0 = .ok (.aload_n 0, 1) := by decide +kernel
theorem d_P_passCycle_1 : decode c_P_passCycle 1 = .ok (.getfield 36, 3) := by decide +kernel
theorem d_P_passCycle_4 : decode c_P_passCycle 4 = .ok (.iconst 2, 1) := by decide +kernel
theorem d_P_passCycle_5 : decode c_P_passCycle 5 = .ok (.if_icmp .ne 4, 3) := by decide +kernel
theorem d_P_passCycle_8 : decode c_P_passCycle 8 = .ok (.return_, 1) := by decide +kernel
theorem d_P_passCycle_9 : decode c_P_passCycle 9 = .ok (.aload_n 0, 1) := by decide +kernel
theorem d_P_passCycle_10 : decode c_P_passCycle 10 = .ok (.lload_n 2, 1) := by decide +kernel
theorem d_P_passCycle_11 : decode c_P_passCycle 11 = .ok (.invokevirtual 101, 3) := by decide +kernel
theorem d_P_passCycle_14 : decode c_P_passCycle 14 = .ok (.aload_n 0, 1) := by decide +kernel
theorem d_P_passCycle_15 : decode c_P_passCycle 15 = .ok (.getfield 18, 3) := by decide +kernel
theorem d_P_passCycle_18 : decode c_P_passCycle 18 = .ok (.lconst 0, 1) := by decide +kernel
theorem d_P_passCycle_19 : decode c_P_passCycle 19 = .ok (.lcmp, 1) := by decide +kernel
theorem d_P_passCycle_20 : decode c_P_passCycle 20 = .ok (.ifCond .le 20, 3) := by decide +kernel
theorem d_P_passCycle_23 : decode c_P_passCycle 23 = .ok (.iload_n 1, 1) := by decide +kernel
theorem d_P_passCycle_24 : decode c_P_passCycle 24 = .ok (.i2l, 1) := by decide +kernel
theorem d_P_passCycle_25 : decode c_P_passCycle 25 = .ok (.aload_n 0, 1) := by decide +kernel
theorem d_P_passCycle_26 : decode c_P_passCycle 26 = .ok (.getfield 18, 3) := by decide +kernel
theorem d_P_passCycle_29 : decode c_P_passCycle 29 = .ok (.lrem, 1) := by decide +kernel
theorem d_P_passCycle_30 : decode c_P_passCycle 30 = .ok (.lconst 0, 1) := by decide +kernel
theorem d_P_passCycle_31 : decode c_P_passCycle 31 = .ok (.lcmp, 1) := by decide +kernel
theorem d_P_passCycle_32 : decode c_P_passCycle 32 = .ok (.ifCond .ne 8, 3) := by decide +kernel
theorem d_P_passCycle_35 : decode c_P_passCycle 35 = .ok (.aload_n 0, 1) := by decide +kernel
theorem d_P_passCycle_36 : decode c_P_passCycle 36 = .ok (.iload_n 1, 1) := by decide +kernel
theorem d_P_passCycle_37 : decode c_P_passCycle 37 = .ok (.invokevirtual 105, 3) := by decide +kernel
theorem d_P_passCycle_40 : decode c_P_passCycle 40 = .ok (.aload_n 0, 1) := by decide +kernel
theorem d_P_passCycle_41 : decode c_P_passCycle 41 = .ok (.invokevirtual 109, 3) := by decide +kernel
theorem d_P_passCycle_44 : decode c_P_passCycle 44 = .ok (.aload_n 0, 1) := by decide +kernel
theorem d_P_passCycle_45 : decode c_P_passCycle 45 = .ok (.iconst 0, 1) := by decide +kernel
theorem d_P_passCycle_46 : decode c_P_passCycle 46 = .ok (.putfield 48, 3) := by decide +kernel
theorem d_P_passCycle_49 : decode c_P_passCycle 49 = .ok (.return_, 1) := by decide +kernel
theorem d_P_stopLateDeadlines_0 : decode c_P_stopLateDeadlines 0 = .ok (.iconst 0, 1) := by decide +kernel
theorem d_P_stopLateDeadlines_1 : decode c_P_stopLateDeadlines 1 = .ok (.istore_n 3, 1) := by decide +kernel
theorem d_P_stopLateDeadlines_2 : decode c_P_stopLateDeadlines 2 = .ok (.iload_n 3, 1) := by decide +kernel
theorem d_P_stopLateDeadlines_3 : decode c_P_stopLateDeadlines 3 = .ok (.aload_n 0, 1) := by decide +kernel
theorem d_P_stopLateDeadlines_4 : decode c_P_stopLateDeadlines 4 = .ok (.getfield 29, 3) := by decide +kernel
theorem d_P_stopLateDeadlines_7 : decode c_P_stopLateDeadlines 7 = .ok (.invokevirtual 72, 3) := by decide +kernel
theorem d_P_stopLateDeadlines_10 : decode c_P_stopLateDeadlines 10 = .ok (.if_icmp .ge 57, 3) := by decide +kernel
theorem d_P_stopLateDeadlines_13 : decode c_P_stopLateDeadlines 13 = .ok (.aload_n 0, 1) := by decide +kernel
theorem d_P_stopLateDeadlines_14 : decode c_P_stopLateDeadlines 14 = .ok (.getfield 29, 3) := by decide +kernel
theorem d_P_stopLateDeadlines_17 : decode c_P_stopLateDeadlines 17 = .ok (.iload_n 3, 1) := by decide +kernel
theorem d_P_stopLateDeadlines_18 : decode c_P_stopLateDeadlines 18 = .ok (.invokevirtual 76, 3) := by decide +kernel
theorem d_P_stopLateDeadlines_21 : decode c_P_stopLateDeadlines 21 = .ok (.checkcast 80, 3) := by decide +kernel
theorem d_P_stopLateDeadlines_24 : decode c_P_stopLateDeadlines 24 = .ok (.astore 4, 2) := by decide +kernel
theorem d_P_stopLateDeadlines_26 : decode c_P_stopLateDeadlines 26 = .ok (.aload 4, 2) := by decide +kernel
theorem d_P_stopLateDeadlines_28 : decode c_P_stopLateDeadlines 28 = .ok (.getfield 82, 3) := by decide +kernel
theorem d_P_stopLateDeadlines_31 : decode c_P_stopLateDeadlines 31 = .ok (.ifCond .eq 30, 3) := by decide +kernel
theorem d_P_stopLateDeadlines_34 : decode c_P_stopLateDeadlines 34 = .ok (.lload_n 1, 1) := by decide +kernel
theorem d_P_stopLateDeadlines_35 : decode c_P_stopLateDeadlines 35 = .ok (.aload 4, 2) := by decide +kernel
theorem d_P_stopLateDeadlines_37 : decode c_P_stopLateDeadlines 37 = .ok (.getfield 88, 3) := by decide +kernel
theorem d_P_stopLateDeadlines_40 : decode c_P_stopLateDeadlines 40 = .ok (.lsub, 1) := by decide +kernel
theorem d_P_stopLateDeadlines_41 : decode c_P_stopLateDeadlines 41 = .ok (.aload 4, 2) := by decide +kernel
theorem d_P_stopLateDeadlines_43 : decode c_P_stopLateDeadlines 43 = .ok (.getfield 93, 3) := by decide +kernel
theorem d_P_stopLateDeadlines_46 : decode c_P_stopLateDeadlines 46 = .ok (.lcmp, 1) := by decide +kernel
theorem d_P_stopLateDeadlines_47 : decode c_P_stopLateDeadlines 47 = .ok (.ifCond .le 14, 3) := by decide +kernel
theorem d_P_stopLateDeadlines_50 : decode c_P_stopLateDeadlines 50 = .ok (.aload_n 0, 1) := by decide +kernel
theorem d_P_stopLateDeadlines_51 : decode c_P_stopLateDeadlines 51 = .ok (.iconst 1, 1) := by decide +kernel
theorem d_P_stopLateDeadlines_52 : decode c_P_stopLateDeadlines 52 = .ok (.putfield 48, 3) := by decide +kernel
theorem d_P_stopLateDeadlines_55 : decode c_P_stopLateDeadlines 55 = .ok (.aload 4, 2) := by decide +kernel
theorem d_P_stopLateDeadlines_57 : decode c_P_stopLateDeadlines 57 = .ok (.iconst 0, 1) := by decide +kernel
theorem d_P_stopLateDeadlines_58 : decode c_P_stopLateDeadlines 58 = .ok (.putfield 82, 3) := by decide +kernel
theorem d_P_stopLateDeadlines_61 : decode c_P_stopLateDeadlines 61 = .ok (.iinc 3 1, 3) := by decide +kernel
theorem d_P_stopLateDeadlines_64 : decode c_P_stopLateDeadlines 64 = .ok (.goto (-62), 3) := by decide +kernel
theorem d_P_stopLateDeadlines_67 : decode c_P_stopLateDeadlines 67 = .ok (.return_, 1) := by decide +kernel
theorem d_P_checkAliveCount_0 : decode c_P_checkAliveCount 0 = .ok (.iload_n 1, 1) := by decide +kernel
theorem d_P_checkAliveCount_1 : decode c_P_checkAliveCount 1 = .ok (.iconst 2, 1) := by decide +kernel
theorem d_P_checkAliveCount_2 : decode c_P_checkAliveCount 2 = .ok (.if_icmp .le 29, 3) := by decide +kernel
theorem d_P_checkAliveCount_5 : decode c_P_checkAliveCount 5 = .ok (.aload_n 0, 1) := by decide +kernel
theorem d_P_checkAliveCount_6 : decode c_P_checkAliveCount 6 = .ok (.getfield 42, 3) := by decide +kernel
theorem d_P_checkAliveCount_9 : decode c_P_checkAliveCount 9 = .ok (.i2l, 1) := by decide +kernel
theorem d_P_checkAliveCount_10 : decode c_P_checkAliveCount 10 = .ok (.aload_n 0, 1) := by decide +kernel
theorem d_P_checkAliveCount_11 : decode c_P_checkAliveCount 11 = .ok (.getfield 9, 3) := by decide +kernel
theorem d_P_checkAliveCount_14 : decode c_P_checkAliveCount 14 = .ok (.i2l, 1) := by decide +kernel
theorem d_P_checkAliveCount_15 : decode c_P_checkAliveCount 15 = .ok (.aload_n 0, 1) := by decide +kernel
theorem d_P_checkAliveCount_16 : decode c_P_checkAliveCount 16 = .ok (.getfield 15, 3) := by decide +kernel
theorem d_P_checkAliveCount_19 : decode c_P_checkAliveCount 19 = .ok (.i2l, 1) := by decide +kernel
theorem d_P_checkAliveCount_20 : decode c_P_checkAliveCount 20 = .ok (.invokestatic 60, 3) := by decide +kernel
theorem d_P_checkAliveCount_23 : decode c_P_checkAliveCount 23 = .ok (.ifCond .ne 8, 3) := by decide +kernel
theorem d_P_checkAliveCount_26 : decode c_P_checkAliveCount 26 = .ok (.aload_n 0, 1) := by decide +kernel
theorem d_P_checkAliveCount_27 : decode c_P_checkAliveCount 27 = .ok (.iconst 1, 1) := by decide +kernel
theorem d_P_checkAliveCount_28 : decode c_P_checkAliveCount 28 = .ok (.putfield 48, 3) := by decide +kernel
theorem d_P_checkAliveCount_31 : decode c_P_checkAliveCount 31 = .ok (.aload_n 0, 1) := by decide +kernel
theorem d_P_checkAliveCount_32 : decode c_P_checkAliveCount 32 = .ok (.iconst 0, 1) := by decide +kernel
theorem d_P_checkAliveCount_33 : decode c_P_checkAliveCount 33 = .ok (.putfield 42, 3) := by decide +kernel
theorem d_P_checkAliveCount_36 : decode c_P_checkAliveCount 36 = .ok (.return_, 1) := by decide +kernel
theorem d_P_judge_0 : decode c_P_judge 0 = .ok (.aload_n 0, 1) := by decide +kernel
theorem d_P_judge_1 : decode c_P_judge 1 = .ok (.getfield 48, 3) := by decide +kernel
theorem d_P_judge_4 : decode c_P_judge 4 = .ok (.ifCond .eq 36, 3) := by decide +kernel
theorem d_P_judge_7 : decode c_P_judge 7 = .ok (.aload_n 0, 1) := by decide +kernel
theorem d_P_judge_8 : decode c_P_judge 8 = .ok (.dup, 1) := by decide +kernel
theorem d_P_judge_9 : decode c_P_judge 9 = .ok (.getfield 39, 3) := by decide +kernel
theorem d_P_judge_12 : decode c_P_judge 12 = .ok (.iconst 1, 1) := by decide +kernel
theorem d_P_judge_13 : decode c_P_judge 13 = .ok (.iadd, 1) := by decide +kernel
theorem d_P_judge_14 : decode c_P_judge 14 = .ok (.putfield 39, 3) := by decide +kernel
theorem d_P_judge_17 : decode c_P_judge 17 = .ok (.aload_n 0, 1) := by decide +kernel
theorem d_P_judge_18 : decode c_P_judge 18 = .ok (.aload_n 0, 1) := by decide +kernel
theorem d_P_judge_19 : decode c_P_judge 19 = .ok (.getfield 39, 3) := by decide +kernel
theorem d_P_judge_22 : decode c_P_judge 22 = .ok (.aload_n 0, 1) := by decide +kernel
theorem d_P_judge_23 : decode c_P_judge 23 = .ok (.getfield 33, 3) := by decide +kernel
theorem d_P_judge_26 : decode c_P_judge 26 = .ok (.if_icmp .le 7, 3) := by decide +kernel
theorem d_P_judge_29 : decode c_P_judge 29 = .ok (.iconst 2, 1) := by decide +kernel
theorem d_P_judge_30 : decode c_P_judge 30 = .ok (.goto 4, 3) := by decide +kernel
theorem d_P_judge_33 : decode c_P_judge 33 = .ok (.iconst 1, 1) := by decide +kernel
theorem d_P_judge_34 : decode c_P_judge 34 = .ok (.putfield 36, 3) := by decide +kernel
theorem d_P_judge_37 : decode c_P_judge 37 = .ok (.goto 37, 3) := by decide +kernel
theorem d_P_judge_40 : decode c_P_judge 40 = .ok (.aload_n 0, 1) := by decide +kernel
theorem d_P_judge_41 : decode c_P_judge 41 = .ok (.getfield 36, 3) := by decide +kernel
theorem d_P_judge_44 : decode c_P_judge 44 = .ok (.iconst 1, 1) := by decide +kernel
theorem d_P_judge_45 : decode c_P_judge 45 = .ok (.if_icmp .ne 29, 3) := by decide +kernel
theorem d_P_judge_48 : decode c_P_judge 48 = .ok (.aload_n 0, 1) := by decide +kernel
theorem d_P_judge_49 : decode c_P_judge 49 = .ok (.dup, 1) := by decide +kernel
theorem d_P_judge_50 : decode c_P_judge 50 = .ok (.getfield 39, 3) := by decide +kernel
theorem d_P_judge_53 : decode c_P_judge 53 = .ok (.iconst 1, 1) := by decide +kernel
theorem d_P_judge_54 : decode c_P_judge 54 = .ok (.isub, 1) := by decide +kernel
theorem d_P_judge_55 : decode c_P_judge 55 = .ok (.putfield 39, 3) := by decide +kernel
theorem d_P_judge_58 : decode c_P_judge 58 = .ok (.aload_n 0, 1) := by decide +kernel
theorem d_P_judge_59 : decode c_P_judge 59 = .ok (.aload_n 0, 1) := by decide +kernel
theorem d_P_judge_60 : decode c_P_judge 60 = .ok (.getfield 39, 3) := by decide +kernel
theorem d_P_judge_63 : decode c_P_judge 63 = .ok (.ifCond .le 7, 3) := by decide +kernel
theorem d_P_judge_66 : decode c_P_judge 66 = .ok (.iconst 1, 1) := by decide +kernel
theorem d_P_judge_67 : decode c_P_judge 67 = .ok (.goto 4, 3) := by decide +kernel
theorem d_P_judge_70 : decode c_P_judge 70 = .ok (.iconst 0, 1) := by decide +kernel
theorem d_P_judge_71 : decode c_P_judge 71 = .ok (.putfield 36, 3) := by decide +kernel
theorem d_P_judge_74 : decode c_P_judge 74 = .ok (.return_, 1) := by decide +kernel
theorem d_P_forgetCourse_0 : decode c_P_forgetCourse 0 = .ok (.aload_n 0, 1) := by decide +kernel
theorem d_P_forgetCourse_1 : decode c_P_forgetCourse 1 = .ok (.iconst 0, 1) := by decide +kernel
theorem d_P_forgetCourse_2 : decode c_P_forgetCourse 2 = .ok (.putfield 42, 3) := by decide +kernel
theorem d_P_forgetCourse_5 : decode c_P_forgetCourse 5 = .ok (.aload_n 0, 1) := by decide +kernel
theorem d_P_forgetCourse_6 : decode c_P_forgetCourse 6 = .ok (.iconst 0, 1) := by decide +kernel
theorem d_P_forgetCourse_7 : decode c_P_forgetCourse 7 = .ok (.putfield 48, 3) := by decide +kernel
theorem d_P_forgetCourse_10 : decode c_P_forgetCourse 10 = .ok (.aload_n 0, 1) := by decide +kernel
theorem d_P_forgetCourse_11 : decode c_P_forgetCourse 11 = .ok (.iconst 0, 1) := by decide +kernel
theorem d_P_forgetCourse_12 : decode c_P_forgetCourse 12 = .ok (.putfield 45, 3) := by decide +kernel
theorem d_P_forgetCourse_15 : decode c_P_forgetCourse 15 = .ok (.iconst 0, 1) := by decide +kernel
theorem d_P_forgetCourse_16 : decode c_P_forgetCourse 16 = .ok (.istore_n 1, 1) := by decide +kernel
theorem d_P_forgetCourse_17 : decode c_P_forgetCourse 17 = .ok (.iload_n 1, 1) := by decide +kernel
theorem d_P_forgetCourse_18 : decode c_P_forgetCourse 18 = .ok (.aload_n 0, 1) := by decide +kernel
theorem d_P_forgetCourse_19 : decode c_P_forgetCourse 19 = .ok (.getfield 29, 3) := by decide +kernel
theorem d_P_forgetCourse_22 : decode c_P_forgetCourse 22 = .ok (.invokevirtual 72, 3) := by decide +kernel
theorem d_P_forgetCourse_25 : decode c_P_forgetCourse 25 = .ok (.if_icmp .ge 24, 3) := by decide +kernel
theorem d_P_forgetCourse_28 : decode c_P_forgetCourse 28 = .ok (.aload_n 0, 1) := by decide +kernel
theorem d_P_forgetCourse_29 : decode c_P_forgetCourse 29 = .ok (.getfield 29, 3) := by decide +kernel
theorem d_P_forgetCourse_32 : decode c_P_forgetCourse 32 = .ok (.iload_n 1, 1) := by decide +kernel
theorem d_P_forgetCourse_33 : decode c_P_forgetCourse 33 = .ok (.invokevirtual 76, 3) := by decide +kernel
theorem d_P_forgetCourse_36 : decode c_P_forgetCourse 36 = .ok (.checkcast 80, 3) := by decide +kernel
theorem d_P_forgetCourse_39 : decode c_P_forgetCourse 39 = .ok (.iconst 0, 1) := by decide +kernel
theorem d_P_forgetCourse_40 : decode c_P_forgetCourse 40 = .ok (.putfield 82, 3) := by decide +kernel
theorem d_P_forgetCourse_43 : decode c_P_forgetCourse 43 = .ok (.iinc 1 1, 3) := by decide +kernel
theorem d_P_forgetCourse_46 : decode c_P_forgetCourse 46 = .ok (.goto (-29), 3) := by decide +kernel
theorem d_P_forgetCourse_49 : decode c_P_forgetCourse 49 = .ok (.return_, 1) := by decide +kernel
theorem d_P_beginAnew_0 : decode c_P_beginAnew 0 = .ok (.aload_n 0, 1) := by decide +kernel
theorem d_P_beginAnew_1 : decode c_P_beginAnew 1 = .ok (.invokevirtual 112, 3) := by decide +kernel
theorem d_P_beginAnew_4 : decode c_P_beginAnew 4 = .ok (.aload_n 0, 1) := by decide +kernel
theorem d_P_beginAnew_5 : decode c_P_beginAnew 5 = .ok (.iconst 0, 1) := by decide +kernel
theorem d_P_beginAnew_6 : decode c_P_beginAnew 6 = .ok (.putfield 36, 3) := by decide +kernel
theorem d_P_beginAnew_9 : decode c_P_beginAnew 9 = .ok (.aload_n 0, 1) := by decide +kernel
theorem d_P_beginAnew_10 : decode c_P_beginAnew 10 = .ok (.iconst 0, 1) := by decide +kernel
theorem d_P_beginAnew_11 : decode c_P_beginAnew 11 = .ok (.putfield 39, 3) := by decide +kernel
theorem d_P_beginAnew_14 : decode c_P_beginAnew 14 = .ok (.return_, 1) := by decide +kernel
theorem d_Q_init_0 : decode c_Q_init 0 = .ok (.aload_n 0, 1) := by decide +kernel
theorem d_Q_init_1 : decode c_Q_init 1 = .ok (.invokespecial 3, 3) := by decide +kernel
theorem d_Q_init_4 : decode c_Q_init 4 = .ok (.aload_n 0, 1) := by decide +kernel
theorem d_Q_init_5 : decode c_Q_init 5 = .ok (.iconst 0, 1) := by decide +kernel
theorem d_Q_init_6 : decode c_Q_init 6 = .ok (.putfield 9, 3) := by decide +kernel
theorem d_Q_init_9 : decode c_Q_init 9 = .ok (.aload_n 0, 1) := by decide +kernel
theorem d_Q_init_10 : decode c_Q_init 10 = .ok (.iconst 0, 1) := by decide +kernel
theorem d_Q_init_11 : decode c_Q_init 11 = .ok (.putfield 15, 3) := by decide +kernel
theorem d_Q_init_14 : decode c_Q_init 14 = .ok (.aload_n 0, 1) := by decide +kernel
theorem d_Q_init_15 : decode c_Q_init 15 = .ok (.iconst 0, 1) := by decide +kernel
theorem d_Q_init_16 : decode c_Q_init 16 = .ok (.putfield 18, 3) := by decide +kernel
theorem d_Q_init_19 : decode c_Q_init 19 = .ok (.aload_n 0, 1) := by decide +kernel
theorem d_Q_init_20 : decode c_Q_init 20 = .ok (.lconst 0, 1) := by decide +kernel
theorem d_Q_init_21 : decode c_Q_init 21 = .ok (.putfield 21, 3) := by decide +kernel
theorem d_Q_init_24 : decode c_Q_init 24 = .ok (.return_, 1) := by decide +kernel
theorem d_Q_isRight_0 : decode c_Q_isRight 0 = .ok (.iload_n 1, 1) := by decide +kernel
theorem d_Q_isRight_1 : decode c_Q_isRight 1 = .ok (.aload_n 0, 1) := by decide +kernel
theorem d_Q_isRight_2 : decode c_Q_isRight 2 = .ok (.getfield 15, 3) := by decide +kernel
theorem d_Q_isRight_5 : decode c_Q_isRight 5 = .ok (.if_icmp .ne 31, 3) := by decide +kernel
theorem d_Q_isRight_8 : decode c_Q_isRight 8 = .ok (.lload_n 2, 1) := by decide +kernel
theorem d_Q_isRight_9 : decode c_Q_isRight 9 = .ok (.aload_n 0, 1) := by decide +kernel
theorem d_Q_isRight_10 : decode c_Q_isRight 10 = .ok (.iload_n 1, 1) := by decide +kernel
theorem d_Q_isRight_11 : decode c_Q_isRight 11 = .ok (.invokevirtual 25, 3) := by decide +kernel
theorem d_Q_isRight_14 : decode c_Q_isRight 14 = .ok (.lcmp, 1) := by decide +kernel
theorem d_Q_isRight_15 : decode c_Q_isRight 15 = .ok (.ifCond .ne 21, 3) := by decide +kernel
theorem d_Q_isRight_18 : decode c_Q_isRight 18 = .ok (.iload_n 1, 1) := by decide +kernel
theorem d_Q_isRight_19 : decode c_Q_isRight 19 = .ok (.iconst 3, 1) := by decide +kernel
theorem d_Q_isRight_20 : decode c_Q_isRight 20 = .ok (.if_icmp .ne 12, 3) := by decide +kernel
theorem d_Q_isRight_23 : decode c_Q_isRight 23 = .ok (.aload_n 0, 1) := by decide +kernel
theorem d_Q_isRight_24 : decode c_Q_isRight 24 = .ok (.lload 4, 2) := by decide +kernel
theorem d_Q_isRight_26 : decode c_Q_isRight 26 = .ok (.invokevirtual 29, 3) := by decide +kernel
theorem d_Q_isRight_29 : decode c_Q_isRight 29 = .ok (.ifCond .eq 7, 3) := by decide +kernel
theorem d_Q_isRight_32 : decode c_Q_isRight 32 = .ok (.iconst 1, 1) := by decide +kernel
theorem d_Q_isRight_33 : decode c_Q_isRight 33 = .ok (.goto 4, 3) := by decide +kernel
theorem d_Q_isRight_36 : decode c_Q_isRight 36 = .ok (.iconst 0, 1) := by decide +kernel
theorem d_Q_isRight_37 : decode c_Q_isRight 37 = .ok (.ireturn, 1) := by decide +kernel
theorem d_Q_rightValue_0 : decode c_Q_rightValue 0 = .ok (.iconst 5, 1) := by decide +kernel
theorem d_Q_rightValue_1 : decode c_Q_rightValue 1 = .ok (.aload_n 0, 1) := by decide +kernel
theorem d_Q_rightValue_2 : decode c_Q_rightValue 2 = .ok (.getfield 9, 3) := by decide +kernel
theorem d_Q_rightValue_5 : decode c_Q_rightValue 5 = .ok (.imul, 1) := by decide +kernel
theorem d_Q_rightValue_6 : decode c_Q_rightValue 6 = .ok (.iconst 3, 1) := by decide +kernel
theorem d_Q_rightValue_7 : decode c_Q_rightValue 7 = .ok (.iload_n 1, 1) := by decide +kernel
theorem d_Q_rightValue_8 : decode c_Q_rightValue 8 = .ok (.imul, 1) := by decide +kernel
theorem d_Q_rightValue_9 : decode c_Q_rightValue 9 = .ok (.iadd, 1) := by decide +kernel
theorem d_Q_rightValue_10 : decode c_Q_rightValue 10 = .ok (.bipush 10, 2) := by decide +kernel
theorem d_Q_rightValue_12 : decode c_Q_rightValue 12 = .ok (.ixor, 1) := by decide +kernel
theorem d_Q_rightValue_13 : decode c_Q_rightValue 13 = .ok (.bipush 16, 2) := by decide +kernel
theorem d_Q_rightValue_15 : decode c_Q_rightValue 15 = .ok (.irem, 1) := by decide +kernel
theorem d_Q_rightValue_16 : decode c_Q_rightValue 16 = .ok (.i2l, 1) := by decide +kernel
theorem d_Q_rightValue_17 : decode c_Q_rightValue 17 = .ok (.lreturn, 1) := by decide +kernel
theorem d_Q_isInTime_0 : decode c_Q_isInTime 0 = .ok (.lload_n 1, 1) := by decide +kernel
theorem d_Q_isInTime_1 : decode c_Q_isInTime 1 = .ok (.aload_n 0, 1) := by decide +kernel
theorem d_Q_isInTime_2 : decode c_Q_isInTime 2 = .ok (.getfield 21, 3) := by decide +kernel
theorem d_Q_isInTime_5 : decode c_Q_isInTime 5 = .ok (.lsub, 1) := by decide +kernel
theorem d_Q_isInTime_6 : decode c_Q_isInTime 6 = .ok (.ldc2_w 33, 3) := by decide +kernel
theorem d_Q_isInTime_9 : decode c_Q_isInTime 9 = .ok (.ldc2_w 35, 3) := by decide +kernel
theorem d_Q_isInTime_12 : decode c_Q_isInTime 12 = .ok (.invokestatic 37, 3) := by decide +kernel
theorem d_Q_isInTime_15 : decode c_Q_isInTime 15 = .ok (.ireturn, 1) := by decide +kernel
theorem d_Q_takeRight_0 : decode c_Q_takeRight 0 = .ok (.iload_n 1, 1) := by decide +kernel
theorem d_Q_takeRight_1 : decode c_Q_takeRight 1 = .ok (.iconst 3, 1) := by decide +kernel
theorem d_Q_takeRight_2 : decode c_Q_takeRight 2 = .ok (.if_icmp .eq 11, 3) := by decide +kernel
theorem d_Q_takeRight_5 : decode c_Q_takeRight 5 = .ok (.aload_n 0, 1) := by decide +kernel
theorem d_Q_takeRight_6 : decode c_Q_takeRight 6 = .ok (.iload_n 1, 1) := by decide +kernel
theorem d_Q_takeRight_7 : decode c_Q_takeRight 7 = .ok (.iconst 1, 1) := by decide +kernel
theorem d_Q_takeRight_8 : decode c_Q_takeRight 8 = .ok (.iadd, 1) := by decide +kernel
theorem d_Q_takeRight_9 : decode c_Q_takeRight 9 = .ok (.putfield 15, 3) := by decide +kernel
theorem d_Q_takeRight_12 : decode c_Q_takeRight 12 = .ok (.return_, 1) := by decide +kernel
theorem d_Q_takeRight_13 : decode c_Q_takeRight 13 = .ok (.aload_n 0, 1) := by decide +kernel
theorem d_Q_takeRight_14 : decode c_Q_takeRight 14 = .ok (.iconst 0, 1) := by decide +kernel
theorem d_Q_takeRight_15 : decode c_Q_takeRight 15 = .ok (.putfield 15, 3) := by decide +kernel
theorem d_Q_takeRight_18 : decode c_Q_takeRight 18 = .ok (.aload_n 0, 1) := by decide +kernel
theorem d_Q_takeRight_19 : decode c_Q_takeRight 19 = .ok (.lload_n 2, 1) := by decide +kernel
theorem d_Q_takeRight_20 : decode c_Q_takeRight 20 = .ok (.putfield 21, 3) := by decide +kernel
theorem d_Q_takeRight_23 : decode c_Q_takeRight 23 = .ok (.aload_n 0, 1) := by decide +kernel
theorem d_Q_takeRight_24 : decode c_Q_takeRight 24 = .ok (.aload_n 0, 1) := by decide +kernel
theorem d_Q_takeRight_25 : decode c_Q_takeRight 25 = .ok (.getfield 18, 3) := by decide +kernel
theorem d_Q_takeRight_28 : decode c_Q_takeRight 28 = .ok (.iconst 1, 1) := by decide +kernel
theorem d_Q_takeRight_29 : decode c_Q_takeRight 29 = .ok (.isub, 1) := by decide +kernel
theorem d_Q_takeRight_30 : decode c_Q_takeRight 30 = .ok (.iconst 0, 1) := by decide +kernel
theorem d_Q_takeRight_31 : decode c_Q_takeRight 31 = .ok (.invokestatic 41, 3) := by decide +kernel
theorem d_Q_takeRight_34 : decode c_Q_takeRight 34 = .ok (.putfield 18, 3) := by decide +kernel
theorem d_Q_takeRight_37 : decode c_Q_takeRight 37 = .ok (.aload_n 0, 1) := by decide +kernel
theorem d_Q_takeRight_38 : decode c_Q_takeRight 38 = .ok (.bipush 7, 2) := by decide +kernel
theorem d_Q_takeRight_40 : decode c_Q_takeRight 40 = .ok (.aload_n 0, 1) := by decide +kernel
theorem d_Q_takeRight_41 : decode c_Q_takeRight 41 = .ok (.getfield 9, 3) := by decide +kernel
theorem d_Q_takeRight_44 : decode c_Q_takeRight 44 = .ok (.imul, 1) := by decide +kernel
theorem d_Q_takeRight_45 : decode c_Q_takeRight 45 = .ok (.iconst 3, 1) := by decide +kernel
theorem d_Q_takeRight_46 : decode c_Q_takeRight 46 = .ok (.iadd, 1) := by decide +kernel
theorem d_Q_takeRight_47 : decode c_Q_takeRight 47 = .ok (.bipush 16, 2) := by decide +kernel
theorem d_Q_takeRight_49 : decode c_Q_takeRight 49 = .ok (.irem, 1) := by decide +kernel
theorem d_Q_takeRight_50 : decode c_Q_takeRight 50 = .ok (.putfield 9, 3) := by decide +kernel
theorem d_Q_takeRight_53 : decode c_Q_takeRight 53 = .ok (.return_, 1) := by decide +kernel
theorem d_Q_takeWrong_0 : decode c_Q_takeWrong 0 = .ok (.aload_n 0, 1) := by decide +kernel
theorem d_Q_takeWrong_1 : decode c_Q_takeWrong 1 = .ok (.dup, 1) := by decide +kernel
theorem d_Q_takeWrong_2 : decode c_Q_takeWrong 2 = .ok (.getfield 18, 3) := by decide +kernel
theorem d_Q_takeWrong_5 : decode c_Q_takeWrong 5 = .ok (.iconst 1, 1) := by decide +kernel
theorem d_Q_takeWrong_6 : decode c_Q_takeWrong 6 = .ok (.iadd, 1) := by decide +kernel
theorem d_Q_takeWrong_7 : decode c_Q_takeWrong 7 = .ok (.putfield 18, 3) := by decide +kernel
theorem d_Q_takeWrong_10 : decode c_Q_takeWrong 10 = .ok (.aload_n 0, 1) := by decide +kernel
theorem d_Q_takeWrong_11 : decode c_Q_takeWrong 11 = .ok (.iconst 0, 1) := by decide +kernel
theorem d_Q_takeWrong_12 : decode c_Q_takeWrong 12 = .ok (.putfield 15, 3) := by decide +kernel
theorem d_Q_takeWrong_15 : decode c_Q_takeWrong 15 = .ok (.aload_n 0, 1) := by decide +kernel
theorem d_Q_takeWrong_16 : decode c_Q_takeWrong 16 = .ok (.lload_n 1, 1) := by decide +kernel
theorem d_Q_takeWrong_17 : decode c_Q_takeWrong 17 = .ok (.putfield 21, 3) := by decide +kernel
theorem d_Q_takeWrong_20 : decode c_Q_takeWrong 20 = .ok (.return_, 1) := by decide +kernel
theorem d_Q_beginAnew_0 : decode c_Q_beginAnew 0 = .ok (.aload_n 0, 1) := by decide +kernel
theorem d_Q_beginAnew_1 : decode c_Q_beginAnew 1 = .ok (.iconst 0, 1) := by decide +kernel
theorem d_Q_beginAnew_2 : decode c_Q_beginAnew 2 = .ok (.putfield 9, 3) := by decide +kernel
theorem d_Q_beginAnew_5 : decode c_Q_beginAnew 5 = .ok (.aload_n 0, 1) := by decide +kernel
theorem d_Q_beginAnew_6 : decode c_Q_beginAnew 6 = .ok (.iconst 0, 1) := by decide +kernel
theorem d_Q_beginAnew_7 : decode c_Q_beginAnew 7 = .ok (.putfield 15, 3) := by decide +kernel
theorem d_Q_beginAnew_10 : decode c_Q_beginAnew 10 = .ok (.aload_n 0, 1) := by decide +kernel
theorem d_Q_beginAnew_11 : decode c_Q_beginAnew 11 = .ok (.iconst 0, 1) := by decide +kernel
theorem d_Q_beginAnew_12 : decode c_Q_beginAnew 12 = .ok (.putfield 18, 3) := by decide +kernel
theorem d_Q_beginAnew_15 : decode c_Q_beginAnew 15 = .ok (.aload_n 0, 1) := by decide +kernel
theorem d_Q_beginAnew_16 : decode c_Q_beginAnew 16 = .ok (.lload_n 1, 1) := by decide +kernel
theorem d_Q_beginAnew_17 : decode c_Q_beginAnew 17 = .ok (.putfield 21, 3) := by decide +kernel
theorem d_Q_beginAnew_20 : decode c_Q_beginAnew 20 = .ok (.return_, 1) := by decide +kernel
theorem d_L_part_0 : decode c_L_part 0 = .ok (.aload 5, 2) := by decide +kernel
theorem d_L_part_2 : decode c_L_part 2 = .ok (.iconst 0, 1) := by decide +kernel
theorem d_L_part_3 : decode c_L_part 3 = .ok (.aload_n 0, 1) := by decide +kernel
theorem d_L_part_4 : decode c_L_part 4 = .ok (.iload_n 1, 1) := by decide +kernel
theorem d_L_part_5 : decode c_L_part 5 = .ok (.iload_n 2, 1) := by decide +kernel
theorem d_L_part_6 : decode c_L_part 6 = .ok (.lload_n 3, 1) := by decide +kernel
theorem d_L_part_7 : decode c_L_part 7 = .ok (.invokevirtual 7, 3) := by decide +kernel
theorem d_L_part_10 : decode c_L_part 10 = .ok (.i2l, 1) := by decide +kernel
theorem d_L_part_11 : decode c_L_part 11 = .ok (.lastore, 1) := by decide +kernel
theorem d_L_part_12 : decode c_L_part 12 = .ok (.goto 7, 3) := by decide +kernel
theorem d_L_part_15 : decode c_L_part 15 = .ok (.astore 6, 2) := by decide +kernel
theorem d_L_part_17 : decode c_L_part 17 = .ok (.iconst 1, 1) := by decide +kernel
theorem d_L_part_18 : decode c_L_part 18 = .ok (.ireturn, 1) := by decide +kernel
theorem d_L_part_19 : decode c_L_part 19 = .ok (.iconst 0, 1) := by decide +kernel
theorem d_L_part_20 : decode c_L_part 20 = .ok (.ireturn, 1) := by decide +kernel
theorem d_L_law_0 : decode code 0 = .ok (.new 8, 3) := by decide +kernel
theorem d_L_law_3 : decode code 3 = .ok (.dup, 1) := by decide +kernel
theorem d_L_law_4 : decode code 4 = .ok (.invokespecial 15, 3) := by decide +kernel
theorem d_L_law_7 : decode code 7 = .ok (.astore_n 1, 1) := by decide +kernel
theorem d_L_law_8 : decode code 8 = .ok (.new 16, 3) := by decide +kernel
theorem d_L_law_11 : decode code 11 = .ok (.dup, 1) := by decide +kernel
theorem d_L_law_12 : decode code 12 = .ok (.invokespecial 18, 3) := by decide +kernel
theorem d_L_law_15 : decode code 15 = .ok (.astore_n 2, 1) := by decide +kernel
theorem d_L_law_16 : decode code 16 = .ok (.iconst 1, 1) := by decide +kernel
theorem d_L_law_17 : decode code 17 = .ok (.newarray .long, 2) := by decide +kernel
theorem d_L_law_19 : decode code 19 = .ok (.astore_n 3, 1) := by decide +kernel
theorem d_L_law_20 : decode code 20 = .ok (.iconst 0, 1) := by decide +kernel
theorem d_L_law_21 : decode code 21 = .ok (.istore 4, 2) := by decide +kernel
theorem d_L_law_23 : decode code 23 = .ok (.iload 4, 2) := by decide +kernel
theorem d_L_law_25 : decode code 25 = .ok (.aload_n 0, 1) := by decide +kernel
theorem d_L_law_26 : decode code 26 = .ok (.arraylength, 1) := by decide +kernel
theorem d_L_law_27 : decode code 27 = .ok (.bipush 8, 2) := by decide +kernel
theorem d_L_law_29 : decode code 29 = .ok (.isub, 1) := by decide +kernel
theorem d_L_law_30 : decode code 30 = .ok (.if_icmp .gt 798, 3) := by decide +kernel
theorem d_L_law_33 : decode code 33 = .ok (.aload_n 0, 1) := by decide +kernel
theorem d_L_law_34 : decode code 34 = .ok (.iload 4, 2) := by decide +kernel
theorem d_L_law_36 : decode code 36 = .ok (.iaload, 1) := by decide +kernel
theorem d_L_law_37 : decode code 37 = .ok (.bipush 15, 2) := by decide +kernel
theorem d_L_law_39 : decode code 39 = .ok (.iand, 1) := by decide +kernel
theorem d_L_law_40 : decode code 40 = .ok (.tableswitch 782 0 10 #[60, 172, 221, 362, 443, 500, 537, 650, 675, 700, 757], 60) := by decide +kernel
theorem d_L_law_100 : decode code 100 = .ok (.aload_n 1, 1) := by decide +kernel
theorem d_L_law_101 : decode code 101 = .ok (.aload_n 0, 1) := by decide +kernel
theorem d_L_law_102 : decode code 102 = .ok (.iload 4, 2) := by decide +kernel
theorem d_L_law_104 : decode code 104 = .ok (.iconst 1, 1) := by decide +kernel
theorem d_L_law_105 : decode code 105 = .ok (.iadd, 1) := by decide +kernel
theorem d_L_law_106 : decode code 106 = .ok (.iaload, 1) := by decide +kernel
theorem d_L_law_107 : decode code 107 = .ok (.aload_n 0, 1) := by decide +kernel
theorem d_L_law_108 : decode code 108 = .ok (.iload 4, 2) := by decide +kernel
theorem d_L_law_110 : decode code 110 = .ok (.iconst 2, 1) := by decide +kernel
theorem d_L_law_111 : decode code 111 = .ok (.iadd, 1) := by decide +kernel
theorem d_L_law_112 : decode code 112 = .ok (.iaload, 1) := by decide +kernel
theorem d_L_law_113 : decode code 113 = .ok (.aload_n 0, 1) := by decide +kernel
theorem d_L_law_114 : decode code 114 = .ok (.iload 4, 2) := by decide +kernel
theorem d_L_law_116 : decode code 116 = .ok (.iconst 3, 1) := by decide +kernel
theorem d_L_law_117 : decode code 117 = .ok (.iadd, 1) := by decide +kernel
theorem d_L_law_118 : decode code 118 = .ok (.iaload, 1) := by decide +kernel
theorem d_L_law_119 : decode code 119 = .ok (.i2l, 1) := by decide +kernel
theorem d_L_law_120 : decode code 120 = .ok (.bipush 32, 2) := by decide +kernel
theorem d_L_law_122 : decode code 122 = .ok (.lshl, 1) := by decide +kernel
theorem d_L_law_123 : decode code 123 = .ok (.aload_n 0, 1) := by decide +kernel
theorem d_L_law_124 : decode code 124 = .ok (.iload 4, 2) := by decide +kernel
theorem d_L_law_126 : decode code 126 = .ok (.iconst 4, 1) := by decide +kernel
theorem d_L_law_127 : decode code 127 = .ok (.iadd, 1) := by decide +kernel
theorem d_L_law_128 : decode code 128 = .ok (.iaload, 1) := by decide +kernel
theorem d_L_law_129 : decode code 129 = .ok (.i2l, 1) := by decide +kernel
theorem d_L_law_130 : decode code 130 = .ok (.ldc2_w 19, 3) := by decide +kernel
theorem d_L_law_133 : decode code 133 = .ok (.land, 1) := by decide +kernel
theorem d_L_law_134 : decode code 134 = .ok (.lor, 1) := by decide +kernel
theorem d_L_law_135 : decode code 135 = .ok (.aload_n 3, 1) := by decide +kernel
theorem d_L_law_136 : decode code 136 = .ok (.invokestatic 21, 3) := by decide +kernel
theorem d_L_law_139 : decode code 139 = .ok (.istore 5, 2) := by decide +kernel
theorem d_L_law_141 : decode code 141 = .ok (.aload_n 2, 1) := by decide +kernel
theorem d_L_law_142 : decode code 142 = .ok (.aload_n 0, 1) := by decide +kernel
theorem d_L_law_143 : decode code 143 = .ok (.iload 4, 2) := by decide +kernel
theorem d_L_law_145 : decode code 145 = .ok (.iconst 1, 1) := by decide +kernel
theorem d_L_law_146 : decode code 146 = .ok (.iadd, 1) := by decide +kernel
theorem d_L_law_147 : decode code 147 = .ok (.iaload, 1) := by decide +kernel
theorem d_L_law_148 : decode code 148 = .ok (.aload_n 0, 1) := by decide +kernel
theorem d_L_law_149 : decode code 149 = .ok (.iload 4, 2) := by decide +kernel
theorem d_L_law_151 : decode code 151 = .ok (.iconst 2, 1) := by decide +kernel
theorem d_L_law_152 : decode code 152 = .ok (.iadd, 1) := by decide +kernel
theorem d_L_law_153 : decode code 153 = .ok (.iaload, 1) := by decide +kernel
theorem d_L_law_154 : decode code 154 = .ok (.aload_n 0, 1) := by decide +kernel
theorem d_L_law_155 : decode code 155 = .ok (.iload 4, 2) := by decide +kernel
theorem d_L_law_157 : decode code 157 = .ok (.iconst 3, 1) := by decide +kernel
theorem d_L_law_158 : decode code 158 = .ok (.iadd, 1) := by decide +kernel
theorem d_L_law_159 : decode code 159 = .ok (.iaload, 1) := by decide +kernel
theorem d_L_law_160 : decode code 160 = .ok (.i2l, 1) := by decide +kernel
theorem d_L_law_161 : decode code 161 = .ok (.bipush 32, 2) := by decide +kernel
theorem d_L_law_163 : decode code 163 = .ok (.lshl, 1) := by decide +kernel
theorem d_L_law_164 : decode code 164 = .ok (.aload_n 0, 1) := by decide +kernel
theorem d_L_law_165 : decode code 165 = .ok (.iload 4, 2) := by decide +kernel
theorem d_L_law_167 : decode code 167 = .ok (.iconst 4, 1) := by decide +kernel
theorem d_L_law_168 : decode code 168 = .ok (.iadd, 1) := by decide +kernel
theorem d_L_law_169 : decode code 169 = .ok (.iaload, 1) := by decide +kernel
theorem d_L_law_170 : decode code 170 = .ok (.i2l, 1) := by decide +kernel
theorem d_L_law_171 : decode code 171 = .ok (.ldc2_w 19, 3) := by decide +kernel
theorem d_L_law_174 : decode code 174 = .ok (.land, 1) := by decide +kernel
theorem d_L_law_175 : decode code 175 = .ok (.lor, 1) := by decide +kernel
theorem d_L_law_176 : decode code 176 = .ok (.invokevirtual 26, 3) := by decide +kernel
theorem d_L_law_179 : decode code 179 = .ok (.istore 6, 2) := by decide +kernel
theorem d_L_law_181 : decode code 181 = .ok (.aload_n 2, 1) := by decide +kernel
theorem d_L_law_182 : decode code 182 = .ok (.invokevirtual 27, 3) := by decide +kernel
theorem d_L_law_185 : decode code 185 = .ok (.iload 5, 2) := by decide +kernel
theorem d_L_law_187 : decode code 187 = .ok (.if_icmp .eq 5, 3) := by decide +kernel
theorem d_L_law_190 : decode code 190 = .ok (.iconst 0, 1) := by decide +kernel
theorem d_L_law_191 : decode code 191 = .ok (.ireturn, 1) := by decide +kernel
theorem d_L_law_192 : decode code 192 = .ok (.iload 5, 2) := by decide +kernel
theorem d_L_law_194 : decode code 194 = .ok (.ifCond .ne 15, 3) := by decide +kernel
theorem d_L_law_197 : decode code 197 = .ok (.aload_n 3, 1) := by decide +kernel
theorem d_L_law_198 : decode code 198 = .ok (.iconst 0, 1) := by decide +kernel
theorem d_L_law_199 : decode code 199 = .ok (.laload, 1) := by decide +kernel
theorem d_L_law_200 : decode code 200 = .ok (.iload 6, 2) := by decide +kernel
theorem d_L_law_202 : decode code 202 = .ok (.i2l, 1) := by decide +kernel
theorem d_L_law_203 : decode code 203 = .ok (.lcmp, 1) := by decide +kernel
theorem d_L_law_204 : decode code 204 = .ok (.ifCond .eq 5, 3) := by decide +kernel
theorem d_L_law_207 : decode code 207 = .ok (.iconst 0, 1) := by decide +kernel
theorem d_L_law_208 : decode code 208 = .ok (.ireturn, 1) := by decide +kernel
theorem d_L_law_209 : decode code 209 = .ok (.goto 613, 3) := by decide +kernel
theorem d_L_law_212 : decode code 212 = .ok (.aload_n 1, 1) := by decide +kernel
theorem d_L_law_213 : decode code 213 = .ok (.aload_n 0, 1) := by decide +kernel
theorem d_L_law_214 : decode code 214 = .ok (.iload 4, 2) := by decide +kernel
theorem d_L_law_216 : decode code 216 = .ok (.iconst 1, 1) := by decide +kernel
theorem d_L_law_217 : decode code 217 = .ok (.iadd, 1) := by decide +kernel
theorem d_L_law_218 : decode code 218 = .ok (.iaload, 1) := by decide +kernel
theorem d_L_law_219 : decode code 219 = .ok (.aload_n 0, 1) := by decide +kernel
theorem d_L_law_220 : decode code 220 = .ok (.iload 4, 2) := by decide +kernel
theorem d_L_law_222 : decode code 222 = .ok (.iconst 2, 1) := by decide +kernel
theorem d_L_law_223 : decode code 223 = .ok (.iadd, 1) := by decide +kernel
theorem d_L_law_224 : decode code 224 = .ok (.iaload, 1) := by decide +kernel
theorem d_L_law_225 : decode code 225 = .ok (.aload_n 0, 1) := by decide +kernel
theorem d_L_law_226 : decode code 226 = .ok (.iload 4, 2) := by decide +kernel
theorem d_L_law_228 : decode code 228 = .ok (.iconst 3, 1) := by decide +kernel
theorem d_L_law_229 : decode code 229 = .ok (.iadd, 1) := by decide +kernel
theorem d_L_law_230 : decode code 230 = .ok (.iaload, 1) := by decide +kernel
theorem d_L_law_231 : decode code 231 = .ok (.invokevirtual 31, 3) := by decide +kernel
theorem d_L_law_234 : decode code 234 = .ok (.aload_n 2, 1) := by decide +kernel
theorem d_L_law_235 : decode code 235 = .ok (.aload_n 0, 1) := by decide +kernel
theorem d_L_law_236 : decode code 236 = .ok (.iload 4, 2) := by decide +kernel
theorem d_L_law_238 : decode code 238 = .ok (.iconst 1, 1) := by decide +kernel
theorem d_L_law_239 : decode code 239 = .ok (.iadd, 1) := by decide +kernel
theorem d_L_law_240 : decode code 240 = .ok (.iaload, 1) := by decide +kernel
theorem d_L_law_241 : decode code 241 = .ok (.aload_n 0, 1) := by decide +kernel
theorem d_L_law_242 : decode code 242 = .ok (.iload 4, 2) := by decide +kernel
theorem d_L_law_244 : decode code 244 = .ok (.iconst 2, 1) := by decide +kernel
theorem d_L_law_245 : decode code 245 = .ok (.iadd, 1) := by decide +kernel
theorem d_L_law_246 : decode code 246 = .ok (.iaload, 1) := by decide +kernel
theorem d_L_law_247 : decode code 247 = .ok (.aload_n 0, 1) := by decide +kernel
theorem d_L_law_248 : decode code 248 = .ok (.iload 4, 2) := by decide +kernel
theorem d_L_law_250 : decode code 250 = .ok (.iconst 3, 1) := by decide +kernel
theorem d_L_law_251 : decode code 251 = .ok (.iadd, 1) := by decide +kernel
theorem d_L_law_252 : decode code 252 = .ok (.iaload, 1) := by decide +kernel
theorem d_L_law_253 : decode code 253 = .ok (.invokevirtual 35, 3) := by decide +kernel
theorem d_L_law_256 : decode code 256 = .ok (.if_icmp .eq 566, 3) := by decide +kernel
theorem d_L_law_259 : decode code 259 = .ok (.iconst 0, 1) := by decide +kernel
theorem d_L_law_260 : decode code 260 = .ok (.ireturn, 1) := by decide +kernel
theorem d_L_law_261 : decode code 261 = .ok (.aload_n 1, 1) := by decide +kernel
theorem d_L_law_262 : decode code 262 = .ok (.aload_n 0, 1) := by decide +kernel
theorem d_L_law_263 : decode code 263 = .ok (.iload 4, 2) := by decide +kernel
theorem d_L_law_265 : decode code 265 = .ok (.iconst 1, 1) := by decide +kernel
theorem d_L_law_266 : decode code 266 = .ok (.iadd, 1) := by decide +kernel
theorem d_L_law_267 : decode code 267 = .ok (.iaload, 1) := by decide +kernel
theorem d_L_law_268 : decode code 268 = .ok (.aload_n 0, 1) := by decide +kernel
theorem d_L_law_269 : decode code 269 = .ok (.iload 4, 2) := by decide +kernel
theorem d_L_law_271 : decode code 271 = .ok (.iconst 2, 1) := by decide +kernel
theorem d_L_law_272 : decode code 272 = .ok (.iadd, 1) := by decide +kernel
theorem d_L_law_273 : decode code 273 = .ok (.iaload, 1) := by decide +kernel
theorem d_L_law_274 : decode code 274 = .ok (.aload_n 0, 1) := by decide +kernel
theorem d_L_law_275 : decode code 275 = .ok (.iload 4, 2) := by decide +kernel
theorem d_L_law_277 : decode code 277 = .ok (.iconst 3, 1) := by decide +kernel
theorem d_L_law_278 : decode code 278 = .ok (.iadd, 1) := by decide +kernel
theorem d_L_law_279 : decode code 279 = .ok (.iaload, 1) := by decide +kernel
theorem d_L_law_280 : decode code 280 = .ok (.aload_n 0, 1) := by decide +kernel
theorem d_L_law_281 : decode code 281 = .ok (.iload 4, 2) := by decide +kernel
theorem d_L_law_283 : decode code 283 = .ok (.iconst 4, 1) := by decide +kernel
theorem d_L_law_284 : decode code 284 = .ok (.iadd, 1) := by decide +kernel
theorem d_L_law_285 : decode code 285 = .ok (.iaload, 1) := by decide +kernel
theorem d_L_law_286 : decode code 286 = .ok (.i2l, 1) := by decide +kernel
theorem d_L_law_287 : decode code 287 = .ok (.bipush 32, 2) := by decide +kernel
theorem d_L_law_289 : decode code 289 = .ok (.lshl, 1) := by decide +kernel
theorem d_L_law_290 : decode code 290 = .ok (.aload_n 0, 1) := by decide +kernel
theorem d_L_law_291 : decode code 291 = .ok (.iload 4, 2) := by decide +kernel
theorem d_L_law_293 : decode code 293 = .ok (.iconst 5, 1) := by decide +kernel
theorem d_L_law_294 : decode code 294 = .ok (.iadd, 1) := by decide +kernel
theorem d_L_law_295 : decode code 295 = .ok (.iaload, 1) := by decide +kernel
theorem d_L_law_296 : decode code 296 = .ok (.i2l, 1) := by decide +kernel
theorem d_L_law_297 : decode code 297 = .ok (.ldc2_w 19, 3) := by decide +kernel
theorem d_L_law_300 : decode code 300 = .ok (.land, 1) := by decide +kernel
theorem d_L_law_301 : decode code 301 = .ok (.lor, 1) := by decide +kernel
theorem d_L_law_302 : decode code 302 = .ok (.aload_n 0, 1) := by decide +kernel
theorem d_L_law_303 : decode code 303 = .ok (.iload 4, 2) := by decide +kernel
theorem d_L_law_305 : decode code 305 = .ok (.bipush 6, 2) := by decide +kernel
theorem d_L_law_307 : decode code 307 = .ok (.iadd, 1) := by decide +kernel
theorem d_L_law_308 : decode code 308 = .ok (.iaload, 1) := by decide +kernel
theorem d_L_law_309 : decode code 309 = .ok (.i2l, 1) := by decide +kernel
theorem d_L_law_310 : decode code 310 = .ok (.bipush 32, 2) := by decide +kernel
theorem d_L_law_312 : decode code 312 = .ok (.lshl, 1) := by decide +kernel
theorem d_L_law_313 : decode code 313 = .ok (.aload_n 0, 1) := by decide +kernel
theorem d_L_law_314 : decode code 314 = .ok (.iload 4, 2) := by decide +kernel
theorem d_L_law_316 : decode code 316 = .ok (.bipush 7, 2) := by decide +kernel
theorem d_L_law_318 : decode code 318 = .ok (.iadd, 1) := by decide +kernel
theorem d_L_law_319 : decode code 319 = .ok (.iaload, 1) := by decide +kernel
theorem d_L_law_320 : decode code 320 = .ok (.i2l, 1) := by decide +kernel
theorem d_L_law_321 : decode code 321 = .ok (.ldc2_w 19, 3) := by decide +kernel
theorem d_L_law_324 : decode code 324 = .ok (.land, 1) := by decide +kernel
theorem d_L_law_325 : decode code 325 = .ok (.lor, 1) := by decide +kernel
theorem d_L_law_326 : decode code 326 = .ok (.invokevirtual 36, 3) := by decide +kernel
theorem d_L_law_329 : decode code 329 = .ok (.aload_n 2, 1) := by decide +kernel
theorem d_L_law_330 : decode code 330 = .ok (.aload_n 0, 1) := by decide +kernel
theorem d_L_law_331 : decode code 331 = .ok (.iload 4, 2) := by decide +kernel
theorem d_L_law_333 : decode code 333 = .ok (.iconst 1, 1) := by decide +kernel
theorem d_L_law_334 : decode code 334 = .ok (.iadd, 1) := by decide +kernel
theorem d_L_law_335 : decode code 335 = .ok (.iaload, 1) := by decide +kernel
theorem d_L_law_336 : decode code 336 = .ok (.aload_n 0, 1) := by decide +kernel
theorem d_L_law_337 : decode code 337 = .ok (.iload 4, 2) := by decide +kernel
theorem d_L_law_339 : decode code 339 = .ok (.iconst 2, 1) := by decide +kernel
theorem d_L_law_340 : decode code 340 = .ok (.iadd, 1) := by decide +kernel
theorem d_L_law_341 : decode code 341 = .ok (.iaload, 1) := by decide +kernel
theorem d_L_law_342 : decode code 342 = .ok (.aload_n 0, 1) := by decide +kernel
theorem d_L_law_343 : decode code 343 = .ok (.iload 4, 2) := by decide +kernel
theorem d_L_law_345 : decode code 345 = .ok (.iconst 3, 1) := by decide +kernel
theorem d_L_law_346 : decode code 346 = .ok (.iadd, 1) := by decide +kernel
theorem d_L_law_347 : decode code 347 = .ok (.iaload, 1) := by decide +kernel
theorem d_L_law_348 : decode code 348 = .ok (.aload_n 0, 1) := by decide +kernel
theorem d_L_law_349 : decode code 349 = .ok (.iload 4, 2) := by decide +kernel
theorem d_L_law_351 : decode code 351 = .ok (.iconst 4, 1) := by decide +kernel
theorem d_L_law_352 : decode code 352 = .ok (.iadd, 1) := by decide +kernel
theorem d_L_law_353 : decode code 353 = .ok (.iaload, 1) := by decide +kernel
