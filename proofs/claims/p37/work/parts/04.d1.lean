theorem dX0_init_0 : decode cX0_init 0 = .ok (.aload_n 0, 1) := by decide +kernel
theorem dX0_init_1 : decode cX0_init 1 = .ok (.invokespecial 3, 3) := by decide +kernel
theorem dX0_init_4 : decode cX0_init 4 = .ok (.aload_n 0, 1) := by decide +kernel
theorem dX0_init_5 : decode cX0_init 5 = .ok (.bipush 8, 2) := by decide +kernel
theorem dX0_init_7 : decode cX0_init 7 = .ok (.newarray .int, 2) := by decide +kernel
theorem dX0_init_9 : decode cX0_init 9 = .ok (.putfield 9, 3) := by decide +kernel
theorem dX0_init_12 : decode cX0_init 12 = .ok (.aload_n 0, 1) := by decide +kernel
theorem dX0_init_13 : decode cX0_init 13 = .ok (.iconst 0, 1) := by decide +kernel
theorem dX0_init_14 : decode cX0_init 14 = .ok (.putfield 15, 3) := by decide +kernel
theorem dX0_init_17 : decode cX0_init 17 = .ok (.aload_n 0, 1) := by decide +kernel
theorem dX0_init_18 : decode cX0_init 18 = .ok (.iconst 1, 1) := by decide +kernel
theorem dX0_init_19 : decode cX0_init 19 = .ok (.putfield 19, 3) := by decide +kernel
theorem dX0_init_22 : decode cX0_init 22 = .ok (.return_, 1) := by decide +kernel
theorem dX0_run_0 : decode cX0_run 0 = .ok (.iconst 0, 1) := by decide +kernel
theorem dX0_run_1 : decode cX0_run 1 = .ok (.istore_n 2, 1) := by decide +kernel
theorem dX0_run_2 : decode cX0_run 2 = .ok (.iload_n 2, 1) := by decide +kernel
theorem dX0_run_3 : decode cX0_run 3 = .ok (.bipush 8, 2) := by decide +kernel
theorem dX0_run_5 : decode cX0_run 5 = .ok (.if_icmp .ge 16, 3) := by decide +kernel
theorem dX0_run_8 : decode cX0_run 8 = .ok (.aload_n 0, 1) := by decide +kernel
theorem dX0_run_9 : decode cX0_run 9 = .ok (.getfield 9, 3) := by decide +kernel
theorem dX0_run_12 : decode cX0_run 12 = .ok (.iload_n 2, 1) := by decide +kernel
theorem dX0_run_13 : decode cX0_run 13 = .ok (.iconst 0, 1) := by decide +kernel
theorem dX0_run_14 : decode cX0_run 14 = .ok (.iastore, 1) := by decide +kernel
theorem dX0_run_15 : decode cX0_run 15 = .ok (.iinc 2 1, 3) := by decide +kernel
theorem dX0_run_18 : decode cX0_run 18 = .ok (.goto (-16), 3) := by decide +kernel
theorem dX0_run_21 : decode cX0_run 21 = .ok (.aload_n 0, 1) := by decide +kernel
theorem dX0_run_22 : decode cX0_run 22 = .ok (.iconst 0, 1) := by decide +kernel
theorem dX0_run_23 : decode cX0_run 23 = .ok (.putfield 15, 3) := by decide +kernel
theorem dX0_run_26 : decode cX0_run 26 = .ok (.aload_n 0, 1) := by decide +kernel
theorem dX0_run_27 : decode cX0_run 27 = .ok (.iconst 1, 1) := by decide +kernel
theorem dX0_run_28 : decode cX0_run 28 = .ok (.putfield 19, 3) := by decide +kernel
theorem dX0_run_31 : decode cX0_run 31 = .ok (.iconst 0, 1) := by decide +kernel
theorem dX0_run_32 : decode cX0_run 32 = .ok (.istore_n 2, 1) := by decide +kernel
theorem dX0_run_33 : decode cX0_run 33 = .ok (.iload_n 2, 1) := by decide +kernel
theorem dX0_run_34 : decode cX0_run 34 = .ok (.aload_n 1, 1) := by decide +kernel
theorem dX0_run_35 : decode cX0_run 35 = .ok (.getfield 23, 3) := by decide +kernel
theorem dX0_run_38 : decode cX0_run 38 = .ok (.if_icmp .ge 34, 3) := by decide +kernel
theorem dX0_run_41 : decode cX0_run 41 = .ok (.aload_n 1, 1) := by decide +kernel
theorem dX0_run_42 : decode cX0_run 42 = .ok (.iload_n 2, 1) := by decide +kernel
theorem dX0_run_43 : decode cX0_run 43 = .ok (.invokevirtual 28, 3) := by decide +kernel
theorem dX0_run_46 : decode cX0_run 46 = .ok (.istore_n 3, 1) := by decide +kernel
theorem dX0_run_47 : decode cX0_run 47 = .ok (.iload_n 3, 1) := by decide +kernel
theorem dX0_run_48 : decode cX0_run 48 = .ok (.invokestatic 32, 3) := by decide +kernel
theorem dX0_run_51 : decode cX0_run 51 = .ok (.ifCond .eq 15, 3) := by decide +kernel
theorem dX0_run_54 : decode cX0_run 54 = .ok (.aload_n 0, 1) := by decide +kernel
theorem dX0_run_55 : decode cX0_run 55 = .ok (.aload_n 0, 1) := by decide +kernel
theorem dX0_run_56 : decode cX0_run 56 = .ok (.iload_n 3, 1) := by decide +kernel
theorem dX0_run_57 : decode cX0_run 57 = .ok (.ldc 36, 2) := by decide +kernel
theorem dX0_run_59 : decode cX0_run 59 = .ok (.iand, 1) := by decide +kernel
theorem dX0_run_60 : decode cX0_run 60 = .ok (.invokevirtual 37, 3) := by decide +kernel
theorem dX0_run_63 : decode cX0_run 63 = .ok (.invokevirtual 40, 3) := by decide +kernel
theorem dX0_run_66 : decode cX0_run 66 = .ok (.iinc 2 1, 3) := by decide +kernel
theorem dX0_run_69 : decode cX0_run 69 = .ok (.goto (-36), 3) := by decide +kernel
theorem dX0_run_72 : decode cX0_run 72 = .ok (.return_, 1) := by decide +kernel
theorem dX0_reduced_0 : decode cX0_reduced 0 = .ok (.iload_n 1, 1) := by decide +kernel
theorem dX0_reduced_1 : decode cX0_reduced 1 = .ok (.istore_n 2, 1) := by decide +kernel
theorem dX0_reduced_2 : decode cX0_reduced 2 = .ok (.iconst 0, 1) := by decide +kernel
theorem dX0_reduced_3 : decode cX0_reduced 3 = .ok (.istore_n 3, 1) := by decide +kernel
theorem dX0_reduced_4 : decode cX0_reduced 4 = .ok (.iload_n 3, 1) := by decide +kernel
theorem dX0_reduced_5 : decode cX0_reduced 5 = .ok (.bipush 8, 2) := by decide +kernel
theorem dX0_reduced_7 : decode cX0_reduced 7 = .ok (.if_icmp .ge 26, 3) := by decide +kernel
theorem dX0_reduced_10 : decode cX0_reduced 10 = .ok (.iload_n 2, 1) := by decide +kernel
theorem dX0_reduced_11 : decode cX0_reduced 11 = .ok (.iload_n 3, 1) := by decide +kernel
theorem dX0_reduced_12 : decode cX0_reduced 12 = .ok (.invokestatic 44, 3) := by decide +kernel
theorem dX0_reduced_15 : decode cX0_reduced 15 = .ok (.ifCond .eq 12, 3) := by decide +kernel
theorem dX0_reduced_18 : decode cX0_reduced 18 = .ok (.iload_n 2, 1) := by decide +kernel
theorem dX0_reduced_19 : decode cX0_reduced 19 = .ok (.aload_n 0, 1) := by decide +kernel
theorem dX0_reduced_20 : decode cX0_reduced 20 = .ok (.getfield 9, 3) := by decide +kernel
theorem dX0_reduced_23 : decode cX0_reduced 23 = .ok (.iload_n 3, 1) := by decide +kernel
theorem dX0_reduced_24 : decode cX0_reduced 24 = .ok (.iaload, 1) := by decide +kernel
theorem dX0_reduced_25 : decode cX0_reduced 25 = .ok (.ixor, 1) := by decide +kernel
theorem dX0_reduced_26 : decode cX0_reduced 26 = .ok (.istore_n 2, 1) := by decide +kernel
theorem dX0_reduced_27 : decode cX0_reduced 27 = .ok (.iinc 3 1, 3) := by decide +kernel
theorem dX0_reduced_30 : decode cX0_reduced 30 = .ok (.goto (-26), 3) := by decide +kernel
theorem dX0_reduced_33 : decode cX0_reduced 33 = .ok (.iload_n 2, 1) := by decide +kernel
theorem dX0_reduced_34 : decode cX0_reduced 34 = .ok (.ireturn, 1) := by decide +kernel
theorem dX0_insert_0 : decode cX0_insert 0 = .ok (.iload_n 1, 1) := by decide +kernel
theorem dX0_insert_1 : decode cX0_insert 1 = .ok (.invokestatic 48, 3) := by decide +kernel
theorem dX0_insert_4 : decode cX0_insert 4 = .ok (.invokestatic 51, 3) := by decide +kernel
theorem dX0_insert_7 : decode cX0_insert 7 = .ok (.istore_n 2, 1) := by decide +kernel
theorem dX0_insert_8 : decode cX0_insert 8 = .ok (.iload_n 2, 1) := by decide +kernel
theorem dX0_insert_9 : decode cX0_insert 9 = .ok (.invokestatic 54, 3) := by decide +kernel
theorem dX0_insert_12 : decode cX0_insert 12 = .ok (.ifCond .ne 24, 3) := by decide +kernel
theorem dX0_insert_15 : decode cX0_insert 15 = .ok (.aload_n 0, 1) := by decide +kernel
theorem dX0_insert_16 : decode cX0_insert 16 = .ok (.aload_n 0, 1) := by decide +kernel
theorem dX0_insert_17 : decode cX0_insert 17 = .ok (.getfield 19, 3) := by decide +kernel
theorem dX0_insert_20 : decode cX0_insert 20 = .ok (.ifCond .eq 11, 3) := by decide +kernel
theorem dX0_insert_23 : decode cX0_insert 23 = .ok (.iload_n 1, 1) := by decide +kernel
theorem dX0_insert_24 : decode cX0_insert 24 = .ok (.ifCond .ne 7, 3) := by decide +kernel
theorem dX0_insert_27 : decode cX0_insert 27 = .ok (.iconst 1, 1) := by decide +kernel
theorem dX0_insert_28 : decode cX0_insert 28 = .ok (.goto 4, 3) := by decide +kernel
theorem dX0_insert_31 : decode cX0_insert 31 = .ok (.iconst 0, 1) := by decide +kernel
theorem dX0_insert_32 : decode cX0_insert 32 = .ok (.putfield 19, 3) := by decide +kernel
theorem dX0_insert_35 : decode cX0_insert 35 = .ok (.return_, 1) := by decide +kernel
theorem dX0_insert_36 : decode cX0_insert 36 = .ok (.iconst 0, 1) := by decide +kernel
theorem dX0_insert_37 : decode cX0_insert 37 = .ok (.istore_n 3, 1) := by decide +kernel
theorem dX0_insert_38 : decode cX0_insert 38 = .ok (.iload_n 3, 1) := by decide +kernel
theorem dX0_insert_39 : decode cX0_insert 39 = .ok (.bipush 8, 2) := by decide +kernel
theorem dX0_insert_41 : decode cX0_insert 41 = .ok (.if_icmp .ge 32, 3) := by decide +kernel
theorem dX0_insert_44 : decode cX0_insert 44 = .ok (.aload_n 0, 1) := by decide +kernel
theorem dX0_insert_45 : decode cX0_insert 45 = .ok (.getfield 9, 3) := by decide +kernel
theorem dX0_insert_48 : decode cX0_insert 48 = .ok (.iload_n 3, 1) := by decide +kernel
theorem dX0_insert_49 : decode cX0_insert 49 = .ok (.iaload, 1) := by decide +kernel
theorem dX0_insert_50 : decode cX0_insert 50 = .ok (.iload_n 2, 1) := by decide +kernel
theorem dX0_insert_51 : decode cX0_insert 51 = .ok (.invokestatic 44, 3) := by decide +kernel
theorem dX0_insert_54 : decode cX0_insert 54 = .ok (.ifCond .eq 13, 3) := by decide +kernel
theorem dX0_insert_57 : decode cX0_insert 57 = .ok (.aload_n 0, 1) := by decide +kernel
theorem dX0_insert_58 : decode cX0_insert 58 = .ok (.getfield 9, 3) := by decide +kernel
theorem dX0_insert_61 : decode cX0_insert 61 = .ok (.iload_n 3, 1) := by decide +kernel
theorem dX0_insert_62 : decode cX0_insert 62 = .ok (.dup2, 1) := by decide +kernel
theorem dX0_insert_63 : decode cX0_insert 63 = .ok (.iaload, 1) := by decide +kernel
theorem dX0_insert_64 : decode cX0_insert 64 = .ok (.iload_n 1, 1) := by decide +kernel
theorem dX0_insert_65 : decode cX0_insert 65 = .ok (.ixor, 1) := by decide +kernel
theorem dX0_insert_66 : decode cX0_insert 66 = .ok (.iastore, 1) := by decide +kernel
theorem dX0_insert_67 : decode cX0_insert 67 = .ok (.iinc 3 1, 3) := by decide +kernel
theorem dX0_insert_70 : decode cX0_insert 70 = .ok (.goto (-32), 3) := by decide +kernel
theorem dX0_insert_73 : decode cX0_insert 73 = .ok (.aload_n 0, 1) := by decide +kernel
theorem dX0_insert_74 : decode cX0_insert 74 = .ok (.getfield 9, 3) := by decide +kernel
theorem dX0_insert_77 : decode cX0_insert 77 = .ok (.iload_n 2, 1) := by decide +kernel
theorem dX0_insert_78 : decode cX0_insert 78 = .ok (.iload_n 1, 1) := by decide +kernel
theorem dX0_insert_79 : decode cX0_insert 79 = .ok (.iastore, 1) := by decide +kernel
theorem dX0_insert_80 : decode cX0_insert 80 = .ok (.aload_n 0, 1) := by decide +kernel
theorem dX0_insert_81 : decode cX0_insert 81 = .ok (.dup, 1) := by decide +kernel
theorem dX0_insert_82 : decode cX0_insert 82 = .ok (.getfield 15, 3) := by decide +kernel
theorem dX0_insert_85 : decode cX0_insert 85 = .ok (.iconst 1, 1) := by decide +kernel
theorem dX0_insert_86 : decode cX0_insert 86 = .ok (.iadd, 1) := by decide +kernel
theorem dX0_insert_87 : decode cX0_insert 87 = .ok (.putfield 15, 3) := by decide +kernel
theorem dX0_insert_90 : decode cX0_insert 90 = .ok (.return_, 1) := by decide +kernel
theorem dX0_rowAt_0 : decode cX0_rowAt 0 = .ok (.iconst 0, 1) := by decide +kernel
theorem dX0_rowAt_1 : decode cX0_rowAt 1 = .ok (.istore_n 2, 1) := by decide +kernel
theorem dX0_rowAt_2 : decode cX0_rowAt 2 = .ok (.iconst 0, 1) := by decide +kernel
theorem dX0_rowAt_3 : decode cX0_rowAt 3 = .ok (.istore_n 3, 1) := by decide +kernel
theorem dX0_rowAt_4 : decode cX0_rowAt 4 = .ok (.iload_n 3, 1) := by decide +kernel
theorem dX0_rowAt_5 : decode cX0_rowAt 5 = .ok (.bipush 8, 2) := by decide +kernel
theorem dX0_rowAt_7 : decode cX0_rowAt 7 = .ok (.if_icmp .ge 33, 3) := by decide +kernel
theorem dX0_rowAt_10 : decode cX0_rowAt 10 = .ok (.aload_n 0, 1) := by decide +kernel
theorem dX0_rowAt_11 : decode cX0_rowAt 11 = .ok (.getfield 9, 3) := by decide +kernel
theorem dX0_rowAt_14 : decode cX0_rowAt 14 = .ok (.iload_n 3, 1) := by decide +kernel
theorem dX0_rowAt_15 : decode cX0_rowAt 15 = .ok (.iaload, 1) := by decide +kernel
theorem dX0_rowAt_16 : decode cX0_rowAt 16 = .ok (.ifCond .eq 18, 3) := by decide +kernel
theorem dX0_rowAt_19 : decode cX0_rowAt 19 = .ok (.iload_n 2, 1) := by decide +kernel
theorem dX0_rowAt_20 : decode cX0_rowAt 20 = .ok (.iload_n 1, 1) := by decide +kernel
theorem dX0_rowAt_21 : decode cX0_rowAt 21 = .ok (.if_icmp .ne 10, 3) := by decide +kernel
theorem dX0_rowAt_24 : decode cX0_rowAt 24 = .ok (.aload_n 0, 1) := by decide +kernel
theorem dX0_rowAt_25 : decode cX0_rowAt 25 = .ok (.getfield 9, 3) := by decide +kernel
theorem dX0_rowAt_28 : decode cX0_rowAt 28 = .ok (.iload_n 3, 1) := by decide +kernel
theorem dX0_rowAt_29 : decode cX0_rowAt 29 = .ok (.iaload, 1) := by decide +kernel
theorem dX0_rowAt_30 : decode cX0_rowAt 30 = .ok (.ireturn, 1) := by decide +kernel
theorem dX0_rowAt_31 : decode cX0_rowAt 31 = .ok (.iinc 2 1, 3) := by decide +kernel
theorem dX0_rowAt_34 : decode cX0_rowAt 34 = .ok (.iinc 3 1, 3) := by decide +kernel
theorem dX0_rowAt_37 : decode cX0_rowAt 37 = .ok (.goto (-33), 3) := by decide +kernel
theorem dX0_rowAt_40 : decode cX0_rowAt 40 = .ok (.bipush (-9), 2) := by decide +kernel
theorem dX0_rowAt_42 : decode cX0_rowAt 42 = .ok (.ireturn, 1) := by decide +kernel
theorem dX1_init_0 : decode cX1_init 0 = .ok (.aload_n 0, 1) := by decide +kernel
theorem dX1_init_1 : decode cX1_init 1 = .ok (.invokespecial 3, 3) := by decide +kernel
theorem dX1_init_4 : decode cX1_init 4 = .ok (.aload_n 0, 1) := by decide +kernel
theorem dX1_init_5 : decode cX1_init 5 = .ok (.bipush 24, 2) := by decide +kernel
theorem dX1_init_7 : decode cX1_init 7 = .ok (.newarray .int, 2) := by decide +kernel
theorem dX1_init_9 : decode cX1_init 9 = .ok (.putfield 9, 3) := by decide +kernel
theorem dX1_init_12 : decode cX1_init 12 = .ok (.aload_n 0, 1) := by decide +kernel
theorem dX1_init_13 : decode cX1_init 13 = .ok (.iconst 0, 1) := by decide +kernel
theorem dX1_init_14 : decode cX1_init 14 = .ok (.putfield 15, 3) := by decide +kernel
theorem dX1_init_17 : decode cX1_init 17 = .ok (.return_, 1) := by decide +kernel
theorem dX1_has_0 : decode cX1_has 0 = .ok (.iload_n 1, 1) := by decide +kernel
theorem dX1_has_1 : decode cX1_has 1 = .ok (.ifCond .lt 15, 3) := by decide +kernel
theorem dX1_has_4 : decode cX1_has 4 = .ok (.iload_n 1, 1) := by decide +kernel
theorem dX1_has_5 : decode cX1_has 5 = .ok (.aload_n 0, 1) := by decide +kernel
theorem dX1_has_6 : decode cX1_has 6 = .ok (.getfield 15, 3) := by decide +kernel
theorem dX1_has_9 : decode cX1_has 9 = .ok (.if_icmp .ge 7, 3) := by decide +kernel
theorem dX1_has_12 : decode cX1_has 12 = .ok (.iconst 1, 1) := by decide +kernel
theorem dX1_has_13 : decode cX1_has 13 = .ok (.goto 4, 3) := by decide +kernel
theorem dX1_has_16 : decode cX1_has 16 = .ok (.iconst 0, 1) := by decide +kernel
theorem dX1_has_17 : decode cX1_has 17 = .ok (.ireturn, 1) := by decide +kernel
theorem dX1_isFull_0 : decode cX1_isFull 0 = .ok (.aload_n 0, 1) := by decide +kernel
theorem dX1_isFull_1 : decode cX1_isFull 1 = .ok (.getfield 15, 3) := by decide +kernel
theorem dX1_isFull_4 : decode cX1_isFull 4 = .ok (.bipush 24, 2) := by decide +kernel
theorem dX1_isFull_6 : decode cX1_isFull 6 = .ok (.if_icmp .lt 7, 3) := by decide +kernel
theorem dX1_isFull_9 : decode cX1_isFull 9 = .ok (.iconst 1, 1) := by decide +kernel
theorem dX1_isFull_10 : decode cX1_isFull 10 = .ok (.goto 4, 3) := by decide +kernel
theorem dX1_isFull_13 : decode cX1_isFull 13 = .ok (.iconst 0, 1) := by decide +kernel
theorem dX1_isFull_14 : decode cX1_isFull 14 = .ok (.ireturn, 1) := by decide +kernel
theorem dX1_codeAt_0 : decode cX1_codeAt 0 = .ok (.aload_n 0, 1) := by decide +kernel
theorem dX1_codeAt_1 : decode cX1_codeAt 1 = .ok (.iload_n 1, 1) := by decide +kernel
theorem dX1_codeAt_2 : decode cX1_codeAt 2 = .ok (.invokevirtual 19, 3) := by decide +kernel
theorem dX1_codeAt_5 : decode cX1_codeAt 5 = .ok (.ifCond .eq 12, 3) := by decide +kernel
theorem dX1_codeAt_8 : decode cX1_codeAt 8 = .ok (.aload_n 0, 1) := by decide +kernel
theorem dX1_codeAt_9 : decode cX1_codeAt 9 = .ok (.getfield 9, 3) := by decide +kernel
theorem dX1_codeAt_12 : decode cX1_codeAt 12 = .ok (.iload_n 1, 1) := by decide +kernel
theorem dX1_codeAt_13 : decode cX1_codeAt 13 = .ok (.iaload, 1) := by decide +kernel
theorem dX1_codeAt_14 : decode cX1_codeAt 14 = .ok (.goto 4, 3) := by decide +kernel
theorem dX1_codeAt_17 : decode cX1_codeAt 17 = .ok (.iconst 0, 1) := by decide +kernel
theorem dX1_codeAt_18 : decode cX1_codeAt 18 = .ok (.ireturn, 1) := by decide +kernel
theorem dX1_add_0 : decode cX1_add 0 = .ok (.aload_n 0, 1) := by decide +kernel
theorem dX1_add_1 : decode cX1_add 1 = .ok (.invokevirtual 23, 3) := by decide +kernel
theorem dX1_add_4 : decode cX1_add 4 = .ok (.ifCond .ne 23, 3) := by decide +kernel
theorem dX1_add_7 : decode cX1_add 7 = .ok (.aload_n 0, 1) := by decide +kernel
theorem dX1_add_8 : decode cX1_add 8 = .ok (.getfield 9, 3) := by decide +kernel
theorem dX1_add_11 : decode cX1_add 11 = .ok (.aload_n 0, 1) := by decide +kernel
theorem dX1_add_12 : decode cX1_add 12 = .ok (.getfield 15, 3) := by decide +kernel
theorem dX1_add_15 : decode cX1_add 15 = .ok (.iload_n 1, 1) := by decide +kernel
theorem dX1_add_16 : decode cX1_add 16 = .ok (.iastore, 1) := by decide +kernel
theorem dX1_add_17 : decode cX1_add 17 = .ok (.aload_n 0, 1) := by decide +kernel
theorem dX1_add_18 : decode cX1_add 18 = .ok (.dup, 1) := by decide +kernel
theorem dX1_add_19 : decode cX1_add 19 = .ok (.getfield 15, 3) := by decide +kernel
theorem dX1_add_22 : decode cX1_add 22 = .ok (.iconst 1, 1) := by decide +kernel
theorem dX1_add_23 : decode cX1_add 23 = .ok (.iadd, 1) := by decide +kernel
theorem dX1_add_24 : decode cX1_add 24 = .ok (.putfield 15, 3) := by decide +kernel
theorem dX1_add_27 : decode cX1_add 27 = .ok (.return_, 1) := by decide +kernel
theorem dX1_removeAt_0 : decode cX1_removeAt 0 = .ok (.aload_n 0, 1) := by decide +kernel
theorem dX1_removeAt_1 : decode cX1_removeAt 1 = .ok (.iload_n 1, 1) := by decide +kernel
theorem dX1_removeAt_2 : decode cX1_removeAt 2 = .ok (.invokevirtual 19, 3) := by decide +kernel
theorem dX1_removeAt_5 : decode cX1_removeAt 5 = .ok (.ifCond .eq 45, 3) := by decide +kernel
theorem dX1_removeAt_8 : decode cX1_removeAt 8 = .ok (.iload_n 1, 1) := by decide +kernel
theorem dX1_removeAt_9 : decode cX1_removeAt 9 = .ok (.istore_n 2, 1) := by decide +kernel
theorem dX1_removeAt_10 : decode cX1_removeAt 10 = .ok (.iload_n 2, 1) := by decide +kernel
theorem dX1_removeAt_11 : decode cX1_removeAt 11 = .ok (.aload_n 0, 1) := by decide +kernel
theorem dX1_removeAt_12 : decode cX1_removeAt 12 = .ok (.getfield 15, 3) := by decide +kernel
theorem dX1_removeAt_15 : decode cX1_removeAt 15 = .ok (.iconst 1, 1) := by decide +kernel
theorem dX1_removeAt_16 : decode cX1_removeAt 16 = .ok (.isub, 1) := by decide +kernel
theorem dX1_removeAt_17 : decode cX1_removeAt 17 = .ok (.if_icmp .ge 23, 3) := by decide +kernel
theorem dX1_removeAt_20 : decode cX1_removeAt 20 = .ok (.aload_n 0, 1) := by decide +kernel
theorem dX1_removeAt_21 : decode cX1_removeAt 21 = .ok (.getfield 9, 3) := by decide +kernel
theorem dX1_removeAt_24 : decode cX1_removeAt 24 = .ok (.iload_n 2, 1) := by decide +kernel
theorem dX1_removeAt_25 : decode cX1_removeAt 25 = .ok (.aload_n 0, 1) := by decide +kernel
theorem dX1_removeAt_26 : decode cX1_removeAt 26 = .ok (.getfield 9, 3) := by decide +kernel
theorem dX1_removeAt_29 : decode cX1_removeAt 29 = .ok (.iload_n 2, 1) := by decide +kernel
theorem dX1_removeAt_30 : decode cX1_removeAt 30 = .ok (.iconst 1, 1) := by decide +kernel
theorem dX1_removeAt_31 : decode cX1_removeAt 31 = .ok (.iadd, 1) := by decide +kernel
theorem dX1_removeAt_32 : decode cX1_removeAt 32 = .ok (.iaload, 1) := by decide +kernel
theorem dX1_removeAt_33 : decode cX1_removeAt 33 = .ok (.iastore, 1) := by decide +kernel
theorem dX1_removeAt_34 : decode cX1_removeAt 34 = .ok (.iinc 2 1, 3) := by decide +kernel
theorem dX1_removeAt_37 : decode cX1_removeAt 37 = .ok (.goto (-27), 3) := by decide +kernel
theorem dX1_removeAt_40 : decode cX1_removeAt 40 = .ok (.aload_n 0, 1) := by decide +kernel
theorem dX1_removeAt_41 : decode cX1_removeAt 41 = .ok (.dup, 1) := by decide +kernel
theorem dX1_removeAt_42 : decode cX1_removeAt 42 = .ok (.getfield 15, 3) := by decide +kernel
theorem dX1_removeAt_45 : decode cX1_removeAt 45 = .ok (.iconst 1, 1) := by decide +kernel
theorem dX1_removeAt_46 : decode cX1_removeAt 46 = .ok (.isub, 1) := by decide +kernel
theorem dX1_removeAt_47 : decode cX1_removeAt 47 = .ok (.putfield 15, 3) := by decide +kernel
theorem dX1_removeAt_50 : decode cX1_removeAt 50 = .ok (.return_, 1) := by decide +kernel
theorem dX1_copyFrom_0 : decode cX1_copyFrom 0 = .ok (.iconst 0, 1) := by decide +kernel
theorem dX1_copyFrom_1 : decode cX1_copyFrom 1 = .ok (.istore_n 2, 1) := by decide +kernel
theorem dX1_copyFrom_2 : decode cX1_copyFrom 2 = .ok (.iload_n 2, 1) := by decide +kernel
theorem dX1_copyFrom_3 : decode cX1_copyFrom 3 = .ok (.aload_n 1, 1) := by decide +kernel
theorem dX1_copyFrom_4 : decode cX1_copyFrom 4 = .ok (.getfield 15, 3) := by decide +kernel
theorem dX1_copyFrom_7 : decode cX1_copyFrom 7 = .ok (.if_icmp .ge 21, 3) := by decide +kernel
theorem dX1_copyFrom_10 : decode cX1_copyFrom 10 = .ok (.aload_n 0, 1) := by decide +kernel
theorem dX1_copyFrom_11 : decode cX1_copyFrom 11 = .ok (.getfield 9, 3) := by decide +kernel
theorem dX1_copyFrom_14 : decode cX1_copyFrom 14 = .ok (.iload_n 2, 1) := by decide +kernel
theorem dX1_copyFrom_15 : decode cX1_copyFrom 15 = .ok (.aload_n 1, 1) := by decide +kernel
theorem dX1_copyFrom_16 : decode cX1_copyFrom 16 = .ok (.getfield 9, 3) := by decide +kernel
theorem dX1_copyFrom_19 : decode cX1_copyFrom 19 = .ok (.iload_n 2, 1) := by decide +kernel
theorem dX1_copyFrom_20 : decode cX1_copyFrom 20 = .ok (.iaload, 1) := by decide +kernel
theorem dX1_copyFrom_21 : decode cX1_copyFrom 21 = .ok (.iastore, 1) := by decide +kernel
theorem dX1_copyFrom_22 : decode cX1_copyFrom 22 = .ok (.iinc 2 1, 3) := by decide +kernel
theorem dX1_copyFrom_25 : decode cX1_copyFrom 25 = .ok (.goto (-23), 3) := by decide +kernel
theorem dX1_copyFrom_28 : decode cX1_copyFrom 28 = .ok (.aload_n 0, 1) := by decide +kernel
theorem dX1_copyFrom_29 : decode cX1_copyFrom 29 = .ok (.aload_n 1, 1) := by decide +kernel
theorem dX1_copyFrom_30 : decode cX1_copyFrom 30 = .ok (.getfield 15, 3) := by decide +kernel
theorem dX1_copyFrom_33 : decode cX1_copyFrom 33 = .ok (.putfield 15, 3) := by decide +kernel
theorem dX1_copyFrom_36 : decode cX1_copyFrom 36 = .ok (.return_, 1) := by decide +kernel
theorem dX1_firstViolatedOrUnit_0 : decode cX1_firstViolatedOrUnit 0 = .ok (.iconst 0, 1) := by decide +kernel
theorem dX1_firstViolatedOrUnit_1 : decode cX1_firstViolatedOrUnit 1 = .ok (.istore_n 3, 1) := by decide +kernel
theorem dX1_firstViolatedOrUnit_2 : decode cX1_firstViolatedOrUnit 2 = .ok (.iload_n 3, 1) := by decide +kernel
theorem dX1_firstViolatedOrUnit_3 : decode cX1_firstViolatedOrUnit 3 = .ok (.aload_n 0, 1) := by decide +kernel
theorem dX1_firstViolatedOrUnit_4 : decode cX1_firstViolatedOrUnit 4 = .ok (.getfield 15, 3) := by decide +kernel
theorem dX1_firstViolatedOrUnit_7 : decode cX1_firstViolatedOrUnit 7 = .ok (.if_icmp .ge 64, 3) := by decide +kernel
theorem dX1_firstViolatedOrUnit_10 : decode cX1_firstViolatedOrUnit 10 = .ok (.aload_n 0, 1) := by decide +kernel
theorem dX1_firstViolatedOrUnit_11 : decode cX1_firstViolatedOrUnit 11 = .ok (.getfield 9, 3) := by decide +kernel
theorem dX1_firstViolatedOrUnit_14 : decode cX1_firstViolatedOrUnit 14 = .ok (.iload_n 3, 1) := by decide +kernel
theorem dX1_firstViolatedOrUnit_15 : decode cX1_firstViolatedOrUnit 15 = .ok (.iaload, 1) := by decide +kernel
theorem dX1_firstViolatedOrUnit_16 : decode cX1_firstViolatedOrUnit 16 = .ok (.invokestatic 27, 3) := by decide +kernel
theorem dX1_firstViolatedOrUnit_19 : decode cX1_firstViolatedOrUnit 19 = .ok (.iload_n 1, 1) := by decide +kernel
theorem dX1_firstViolatedOrUnit_20 : decode cX1_firstViolatedOrUnit 20 = .ok (.iconst (-1), 1) := by decide +kernel
theorem dX1_firstViolatedOrUnit_21 : decode cX1_firstViolatedOrUnit 21 = .ok (.ixor, 1) := by decide +kernel
theorem dX1_firstViolatedOrUnit_22 : decode cX1_firstViolatedOrUnit 22 = .ok (.iand, 1) := by decide +kernel
theorem dX1_firstViolatedOrUnit_23 : decode cX1_firstViolatedOrUnit 23 = .ok (.istore 4, 2) := by decide +kernel
theorem dX1_firstViolatedOrUnit_25 : decode cX1_firstViolatedOrUnit 25 = .ok (.iload 4, 2) := by decide +kernel
theorem dX1_firstViolatedOrUnit_27 : decode cX1_firstViolatedOrUnit 27 = .ok (.invokestatic 31, 3) := by decide +kernel
theorem dX1_firstViolatedOrUnit_30 : decode cX1_firstViolatedOrUnit 30 = .ok (.iconst 1, 1) := by decide +kernel
theorem dX1_firstViolatedOrUnit_31 : decode cX1_firstViolatedOrUnit 31 = .ok (.if_icmp .gt 34, 3) := by decide +kernel
theorem dX1_firstViolatedOrUnit_34 : decode cX1_firstViolatedOrUnit 34 = .ok (.aload_n 0, 1) := by decide +kernel
theorem dX1_firstViolatedOrUnit_35 : decode cX1_firstViolatedOrUnit 35 = .ok (.getfield 9, 3) := by decide +kernel
theorem dX1_firstViolatedOrUnit_38 : decode cX1_firstViolatedOrUnit 38 = .ok (.iload_n 3, 1) := by decide +kernel
theorem dX1_firstViolatedOrUnit_39 : decode cX1_firstViolatedOrUnit 39 = .ok (.iaload, 1) := by decide +kernel
theorem dX1_firstViolatedOrUnit_40 : decode cX1_firstViolatedOrUnit 40 = .ok (.iload_n 2, 1) := by decide +kernel
theorem dX1_firstViolatedOrUnit_41 : decode cX1_firstViolatedOrUnit 41 = .ok (.invokestatic 36, 3) := by decide +kernel
theorem dX1_firstViolatedOrUnit_44 : decode cX1_firstViolatedOrUnit 44 = .ok (.ifCond .ne 19, 3) := by decide +kernel
theorem dX1_firstViolatedOrUnit_47 : decode cX1_firstViolatedOrUnit 47 = .ok (.aload_n 0, 1) := by decide +kernel
theorem dX1_firstViolatedOrUnit_48 : decode cX1_firstViolatedOrUnit 48 = .ok (.getfield 9, 3) := by decide +kernel
theorem dX1_firstViolatedOrUnit_51 : decode cX1_firstViolatedOrUnit 51 = .ok (.iload_n 3, 1) := by decide +kernel
theorem dX1_firstViolatedOrUnit_52 : decode cX1_firstViolatedOrUnit 52 = .ok (.iaload, 1) := by decide +kernel
theorem dX1_firstViolatedOrUnit_53 : decode cX1_firstViolatedOrUnit 53 = .ok (.iload_n 2, 1) := by decide +kernel
theorem dX1_firstViolatedOrUnit_54 : decode cX1_firstViolatedOrUnit 54 = .ok (.iload 4, 2) := by decide +kernel
theorem dX1_firstViolatedOrUnit_56 : decode cX1_firstViolatedOrUnit 56 = .ok (.ior, 1) := by decide +kernel
theorem dX1_firstViolatedOrUnit_57 : decode cX1_firstViolatedOrUnit 57 = .ok (.invokestatic 36, 3) := by decide +kernel
theorem dX1_firstViolatedOrUnit_60 : decode cX1_firstViolatedOrUnit 60 = .ok (.ifCond .eq 5, 3) := by decide +kernel
theorem dX1_firstViolatedOrUnit_63 : decode cX1_firstViolatedOrUnit 63 = .ok (.iload_n 3, 1) := by decide +kernel
theorem dX1_firstViolatedOrUnit_64 : decode cX1_firstViolatedOrUnit 64 = .ok (.ireturn, 1) := by decide +kernel
theorem dX1_firstViolatedOrUnit_65 : decode cX1_firstViolatedOrUnit 65 = .ok (.iinc 3 1, 3) := by decide +kernel
theorem dX1_firstViolatedOrUnit_68 : decode cX1_firstViolatedOrUnit 68 = .ok (.goto (-66), 3) := by decide +kernel
theorem dX1_firstViolatedOrUnit_71 : decode cX1_firstViolatedOrUnit 71 = .ok (.bipush (-9), 2) := by decide +kernel
theorem dX1_firstViolatedOrUnit_73 : decode cX1_firstViolatedOrUnit 73 = .ok (.ireturn, 1) := by decide +kernel
theorem dX2_init_0 : decode cX2_init 0 = .ok (.aload_n 0, 1) := by decide +kernel
theorem dX2_init_1 : decode cX2_init 1 = .ok (.invokespecial 3, 3) := by decide +kernel
theorem dX2_init_4 : decode cX2_init 4 = .ok (.aload_n 0, 1) := by decide +kernel
theorem dX2_init_5 : decode cX2_init 5 = .ok (.bipush 90, 2) := by decide +kernel
theorem dX2_init_7 : decode cX2_init 7 = .ok (.newarray .int, 2) := by decide +kernel
theorem dX2_init_9 : decode cX2_init 9 = .ok (.putfield 9, 3) := by decide +kernel
theorem dX2_init_12 : decode cX2_init 12 = .ok (.aload_n 0, 1) := by decide +kernel
theorem dX2_init_13 : decode cX2_init 13 = .ok (.iconst 0, 1) := by decide +kernel
theorem dX2_init_14 : decode cX2_init 14 = .ok (.putfield 15, 3) := by decide +kernel
theorem dX2_init_17 : decode cX2_init 17 = .ok (.aload_n 0, 1) := by decide +kernel
theorem dX2_init_18 : decode cX2_init 18 = .ok (.new 19, 3) := by decide +kernel
theorem dX2_init_21 : decode cX2_init 21 = .ok (.dup, 1) := by decide +kernel
theorem dX2_init_22 : decode cX2_init 22 = .ok (.invokespecial 21, 3) := by decide +kernel
theorem dX2_init_25 : decode cX2_init 25 = .ok (.putfield 22, 3) := by decide +kernel
theorem dX2_init_28 : decode cX2_init 28 = .ok (.aload_n 0, 1) := by decide +kernel
theorem dX2_init_29 : decode cX2_init 29 = .ok (.iconst 0, 1) := by decide +kernel
theorem dX2_init_30 : decode cX2_init 30 = .ok (.putfield 26, 3) := by decide +kernel
theorem dX2_init_33 : decode cX2_init 33 = .ok (.aload_n 0, 1) := by decide +kernel
theorem dX2_init_34 : decode cX2_init 34 = .ok (.iconst 0, 1) := by decide +kernel
theorem dX2_init_35 : decode cX2_init 35 = .ok (.putfield 29, 3) := by decide +kernel
theorem dX2_init_38 : decode cX2_init 38 = .ok (.aload_n 0, 1) := by decide +kernel
theorem dX2_init_39 : decode cX2_init 39 = .ok (.iconst 0, 1) := by decide +kernel
theorem dX2_init_40 : decode cX2_init 40 = .ok (.putfield 32, 3) := by decide +kernel
theorem dX2_init_43 : decode cX2_init 43 = .ok (.return_, 1) := by decide +kernel
theorem dX2_put_0 : decode cX2_put 0 = .ok (.aload_n 0, 1) := by decide +kernel
theorem dX2_put_1 : decode cX2_put 1 = .ok (.getfield 15, 3) := by decide +kernel
theorem dX2_put_4 : decode cX2_put 4 = .ok (.bipush 90, 2) := by decide +kernel
theorem dX2_put_6 : decode cX2_put 6 = .ok (.if_icmp .ge 23, 3) := by decide +kernel
theorem dX2_put_9 : decode cX2_put 9 = .ok (.aload_n 0, 1) := by decide +kernel
theorem dX2_put_10 : decode cX2_put 10 = .ok (.getfield 9, 3) := by decide +kernel
theorem dX2_put_13 : decode cX2_put 13 = .ok (.aload_n 0, 1) := by decide +kernel
theorem dX2_put_14 : decode cX2_put 14 = .ok (.getfield 15, 3) := by decide +kernel
theorem dX2_put_17 : decode cX2_put 17 = .ok (.iload_n 1, 1) := by decide +kernel
theorem dX2_put_18 : decode cX2_put 18 = .ok (.iastore, 1) := by decide +kernel
theorem dX2_put_19 : decode cX2_put 19 = .ok (.aload_n 0, 1) := by decide +kernel
theorem dX2_put_20 : decode cX2_put 20 = .ok (.dup, 1) := by decide +kernel
theorem dX2_put_21 : decode cX2_put 21 = .ok (.getfield 15, 3) := by decide +kernel
theorem dX2_put_24 : decode cX2_put 24 = .ok (.iconst 1, 1) := by decide +kernel
theorem dX2_put_25 : decode cX2_put 25 = .ok (.iadd, 1) := by decide +kernel
theorem dX2_put_26 : decode cX2_put 26 = .ok (.putfield 15, 3) := by decide +kernel
theorem dX2_put_29 : decode cX2_put 29 = .ok (.return_, 1) := by decide +kernel
theorem dX2_read_0 : decode cX2_read 0 = .ok (.aload_n 0, 1) := by decide +kernel
theorem dX2_read_1 : decode cX2_read 1 = .ok (.getfield 22, 3) := by decide +kernel
theorem dX2_read_4 : decode cX2_read 4 = .ok (.iconst 0, 1) := by decide +kernel
theorem dX2_read_5 : decode cX2_read 5 = .ok (.putfield 35, 3) := by decide +kernel
theorem dX2_read_8 : decode cX2_read 8 = .ok (.aload_n 0, 1) := by decide +kernel
theorem dX2_read_9 : decode cX2_read 9 = .ok (.invokevirtual 38, 3) := by decide +kernel
theorem dX2_read_12 : decode cX2_read 12 = .ok (.iconst 0, 1) := by decide +kernel
theorem dX2_read_13 : decode cX2_read 13 = .ok (.istore_n 1, 1) := by decide +kernel
theorem dX2_read_14 : decode cX2_read 14 = .ok (.iload_n 1, 1) := by decide +kernel
theorem dX2_read_15 : decode cX2_read 15 = .ok (.aload_n 0, 1) := by decide +kernel
theorem dX2_read_16 : decode cX2_read 16 = .ok (.getfield 15, 3) := by decide +kernel
theorem dX2_read_19 : decode cX2_read 19 = .ok (.if_icmp .ge 24, 3) := by decide +kernel
theorem dX2_read_22 : decode cX2_read 22 = .ok (.aload_n 0, 1) := by decide +kernel
theorem dX2_read_23 : decode cX2_read 23 = .ok (.aload_n 0, 1) := by decide +kernel
theorem dX2_read_24 : decode cX2_read 24 = .ok (.getfield 9, 3) := by decide +kernel
theorem dX2_read_27 : decode cX2_read 27 = .ok (.iload_n 1, 1) := by decide +kernel
theorem dX2_read_28 : decode cX2_read 28 = .ok (.iaload, 1) := by decide +kernel
theorem dX2_read_29 : decode cX2_read 29 = .ok (.invokevirtual 41, 3) := by decide +kernel
theorem dX2_read_32 : decode cX2_read 32 = .ok (.ifCond .ne 5, 3) := by decide +kernel
theorem dX2_read_35 : decode cX2_read 35 = .ok (.iload_n 1, 1) := by decide +kernel
theorem dX2_read_36 : decode cX2_read 36 = .ok (.ireturn, 1) := by decide +kernel
theorem dX2_read_37 : decode cX2_read 37 = .ok (.iinc 1 1, 3) := by decide +kernel
theorem dX2_read_40 : decode cX2_read 40 = .ok (.goto (-26), 3) := by decide +kernel
theorem dX2_read_43 : decode cX2_read 43 = .ok (.aload_n 0, 1) := by decide +kernel
theorem dX2_read_44 : decode cX2_read 44 = .ok (.getfield 26, 3) := by decide +kernel
theorem dX2_read_47 : decode cX2_read 47 = .ok (.ifCond .ne 8, 3) := by decide +kernel
theorem dX2_read_50 : decode cX2_read 50 = .ok (.bipush (-9), 2) := by decide +kernel
theorem dX2_read_52 : decode cX2_read 52 = .ok (.goto 7, 3) := by decide +kernel
theorem dX2_read_55 : decode cX2_read 55 = .ok (.aload_n 0, 1) := by decide +kernel
theorem dX2_read_56 : decode cX2_read 56 = .ok (.getfield 15, 3) := by decide +kernel
theorem dX2_read_59 : decode cX2_read 59 = .ok (.ireturn, 1) := by decide +kernel
theorem dX2_startItem_0 : decode cX2_startItem 0 = .ok (.aload_n 0, 1) := by decide +kernel
theorem dX2_startItem_1 : decode cX2_startItem 1 = .ok (.iconst 0, 1) := by decide +kernel
theorem dX2_startItem_2 : decode cX2_startItem 2 = .ok (.putfield 26, 3) := by decide +kernel
theorem dX2_startItem_5 : decode cX2_startItem 5 = .ok (.aload_n 0, 1) := by decide +kernel
theorem dX2_startItem_6 : decode cX2_startItem 6 = .ok (.iconst 0, 1) := by decide +kernel
theorem dX2_startItem_7 : decode cX2_startItem 7 = .ok (.putfield 29, 3) := by decide +kernel
theorem dX2_startItem_10 : decode cX2_startItem 10 = .ok (.aload_n 0, 1) := by decide +kernel
theorem dX2_startItem_11 : decode cX2_startItem 11 = .ok (.iconst 0, 1) := by decide +kernel
theorem dX2_startItem_12 : decode cX2_startItem 12 = .ok (.putfield 32, 3) := by decide +kernel
theorem dX2_startItem_15 : decode cX2_startItem 15 = .ok (.return_, 1) := by decide +kernel
theorem dX2_takes_0 : decode cX2_takes 0 = .ok (.aload_n 0, 1) := by decide +kernel
theorem dX2_takes_1 : decode cX2_takes 1 = .ok (.getfield 26, 3) := by decide +kernel
theorem dX2_takes_4 : decode cX2_takes 4 = .ok (.tableswitch 70 0 2 #[28, 34, 64], 28) := by decide +kernel
theorem dX2_takes_32 : decode cX2_takes 32 = .ok (.aload_n 0, 1) := by decide +kernel
theorem dX2_takes_33 : decode cX2_takes 33 = .ok (.iload_n 1, 1) := by decide +kernel
theorem dX2_takes_34 : decode cX2_takes 34 = .ok (.invokevirtual 45, 3) := by decide +kernel
theorem dX2_takes_37 : decode cX2_takes 37 = .ok (.ireturn, 1) := by decide +kernel
theorem dX2_takes_38 : decode cX2_takes 38 = .ok (.iload_n 1, 1) := by decide +kernel
theorem dX2_takes_39 : decode cX2_takes 39 = .ok (.bipush 59, 2) := by decide +kernel
theorem dX2_takes_41 : decode cX2_takes 41 = .ok (.if_icmp .ne 21, 3) := by decide +kernel
theorem dX2_takes_44 : decode cX2_takes 44 = .ok (.aload_n 0, 1) := by decide +kernel
theorem dX2_takes_45 : decode cX2_takes 45 = .ok (.aload_n 0, 1) := by decide +kernel
theorem dX2_takes_46 : decode cX2_takes 46 = .ok (.getfield 29, 3) := by decide +kernel
theorem dX2_takes_49 : decode cX2_takes 49 = .ok (.aload_n 0, 1) := by decide +kernel
theorem dX2_takes_50 : decode cX2_takes 50 = .ok (.getfield 32, 3) := by decide +kernel
theorem dX2_takes_53 : decode cX2_takes 53 = .ok (.invokestatic 48, 3) := by decide +kernel
theorem dX2_takes_56 : decode cX2_takes 56 = .ok (.invokevirtual 52, 3) := by decide +kernel
theorem dX2_takes_59 : decode cX2_takes 59 = .ok (.goto 8, 3) := by decide +kernel
theorem dX2_takes_62 : decode cX2_takes 62 = .ok (.aload_n 0, 1) := by decide +kernel
theorem dX2_takes_63 : decode cX2_takes 63 = .ok (.iload_n 1, 1) := by decide +kernel
theorem dX2_takes_64 : decode cX2_takes 64 = .ok (.invokevirtual 55, 3) := by decide +kernel
theorem dX2_takes_67 : decode cX2_takes 67 = .ok (.ireturn, 1) := by decide +kernel
theorem dX2_takes_68 : decode cX2_takes 68 = .ok (.aload_n 0, 1) := by decide +kernel
theorem dX2_takes_69 : decode cX2_takes 69 = .ok (.iload_n 1, 1) := by decide +kernel
theorem dX2_takes_70 : decode cX2_takes 70 = .ok (.invokevirtual 58, 3) := by decide +kernel
theorem dX2_takes_73 : decode cX2_takes 73 = .ok (.ireturn, 1) := by decide +kernel
theorem dX2_takes_74 : decode cX2_takes 74 = .ok (.aload_n 0, 1) := by decide +kernel
theorem dX2_takes_75 : decode cX2_takes 75 = .ok (.iload_n 1, 1) := by decide +kernel
theorem dX2_takes_76 : decode cX2_takes 76 = .ok (.invokevirtual 61, 3) := by decide +kernel
theorem dX2_takes_79 : decode cX2_takes 79 = .ok (.ireturn, 1) := by decide +kernel
theorem dX2_takesFirst_0 : decode cX2_takesFirst 0 = .ok (.aload_n 0, 1) := by decide +kernel
theorem dX2_takesFirst_1 : decode cX2_takesFirst 1 = .ok (.getfield 22, 3) := by decide +kernel
theorem dX2_takesFirst_4 : decode cX2_takesFirst 4 = .ok (.invokevirtual 64, 3) := by decide +kernel
theorem dX2_takesFirst_7 : decode cX2_takesFirst 7 = .ok (.ifCond .eq 5, 3) := by decide +kernel
theorem dX2_takesFirst_10 : decode cX2_takesFirst 10 = .ok (.iconst 0, 1) := by decide +kernel
theorem dX2_takesFirst_11 : decode cX2_takesFirst 11 = .ok (.ireturn, 1) := by decide +kernel
theorem dX2_takesFirst_12 : decode cX2_takesFirst 12 = .ok (.iload_n 1, 1) := by decide +kernel
theorem dX2_takesFirst_13 : decode cX2_takesFirst 13 = .ok (.bipush 61, 2) := by decide +kernel
theorem dX2_takesFirst_15 : decode cX2_takesFirst 15 = .ok (.if_icmp .ne 10, 3) := by decide +kernel
theorem dX2_takesFirst_18 : decode cX2_takesFirst 18 = .ok (.aload_n 0, 1) := by decide +kernel
theorem dX2_takesFirst_19 : decode cX2_takesFirst 19 = .ok (.iconst 2, 1) := by decide +kernel
theorem dX2_takesFirst_20 : decode cX2_takesFirst 20 = .ok (.putfield 26, 3) := by decide +kernel
theorem dX2_takesFirst_23 : decode cX2_takesFirst 23 = .ok (.iconst 1, 1) := by decide +kernel
theorem dX2_takesFirst_24 : decode cX2_takesFirst 24 = .ok (.ireturn, 1) := by decide +kernel
theorem dX2_takesFirst_25 : decode cX2_takesFirst 25 = .ok (.aload_n 0, 1) := by decide +kernel
theorem dX2_takesFirst_26 : decode cX2_takesFirst 26 = .ok (.iconst 1, 1) := by decide +kernel
theorem dX2_takesFirst_27 : decode cX2_takesFirst 27 = .ok (.putfield 26, 3) := by decide +kernel
theorem dX2_takesFirst_30 : decode cX2_takesFirst 30 = .ok (.aload_n 0, 1) := by decide +kernel
theorem dX2_takesFirst_31 : decode cX2_takesFirst 31 = .ok (.iload_n 1, 1) := by decide +kernel
theorem dX2_takesFirst_32 : decode cX2_takesFirst 32 = .ok (.invokevirtual 55, 3) := by decide +kernel
theorem dX2_takesFirst_35 : decode cX2_takesFirst 35 = .ok (.ireturn, 1) := by decide +kernel
theorem dX2_takesClauseLetter_0 : decode cX2_takesClauseLetter 0 = .ok (.aload_n 0, 1) := by decide +kernel
theorem dX2_takesClauseLetter_1 : decode cX2_takesClauseLetter 1 = .ok (.getfield 29, 3) := by decide +kernel
theorem dX2_takesClauseLetter_4 : decode cX2_takesClauseLetter 4 = .ok (.aload_n 0, 1) := by decide +kernel
theorem dX2_takesClauseLetter_5 : decode cX2_takesClauseLetter 5 = .ok (.getfield 32, 3) := by decide +kernel
theorem dX2_takesClauseLetter_8 : decode cX2_takesClauseLetter 8 = .ok (.ior, 1) := by decide +kernel
theorem dX2_takesClauseLetter_9 : decode cX2_takesClauseLetter 9 = .ok (.istore_n 2, 1) := by decide +kernel
theorem dX2_takesClauseLetter_10 : decode cX2_takesClauseLetter 10 = .ok (.iload_n 1, 1) := by decide +kernel
theorem dX2_takesClauseLetter_11 : decode cX2_takesClauseLetter 11 = .ok (.bipush 97, 2) := by decide +kernel
theorem dX2_takesClauseLetter_13 : decode cX2_takesClauseLetter 13 = .ok (.iload_n 2, 1) := by decide +kernel
theorem dX2_takesClauseLetter_14 : decode cX2_takesClauseLetter 14 = .ok (.invokestatic 68, 3) := by decide +kernel
theorem dX2_takesClauseLetter_17 : decode cX2_takesClauseLetter 17 = .ok (.ifCond .eq 20, 3) := by decide +kernel
theorem dX2_takesClauseLetter_20 : decode cX2_takesClauseLetter 20 = .ok (.aload_n 0, 1) := by decide +kernel
theorem dX2_takesClauseLetter_21 : decode cX2_takesClauseLetter 21 = .ok (.dup, 1) := by decide +kernel
theorem dX2_takesClauseLetter_22 : decode cX2_takesClauseLetter 22 = .ok (.getfield 29, 3) := by decide +kernel
theorem dX2_takesClauseLetter_25 : decode cX2_takesClauseLetter 25 = .ok (.iconst 1, 1) := by decide +kernel
theorem dX2_takesClauseLetter_26 : decode cX2_takesClauseLetter 26 = .ok (.iload_n 1, 1) := by decide +kernel
theorem dX2_takesClauseLetter_27 : decode cX2_takesClauseLetter 27 = .ok (.bipush 97, 2) := by decide +kernel
theorem dX2_takesClauseLetter_29 : decode cX2_takesClauseLetter 29 = .ok (.isub, 1) := by decide +kernel
theorem dX2_takesClauseLetter_30 : decode cX2_takesClauseLetter 30 = .ok (.ishl, 1) := by decide +kernel
theorem dX2_takesClauseLetter_31 : decode cX2_takesClauseLetter 31 = .ok (.ior, 1) := by decide +kernel
theorem dX2_takesClauseLetter_32 : decode cX2_takesClauseLetter 32 = .ok (.putfield 29, 3) := by decide +kernel
theorem dX2_takesClauseLetter_35 : decode cX2_takesClauseLetter 35 = .ok (.iconst 1, 1) := by decide +kernel
theorem dX2_takesClauseLetter_36 : decode cX2_takesClauseLetter 36 = .ok (.ireturn, 1) := by decide +kernel
theorem dX2_takesClauseLetter_37 : decode cX2_takesClauseLetter 37 = .ok (.iload_n 1, 1) := by decide +kernel
theorem dX2_takesClauseLetter_38 : decode cX2_takesClauseLetter 38 = .ok (.bipush 65, 2) := by decide +kernel
theorem dX2_takesClauseLetter_40 : decode cX2_takesClauseLetter 40 = .ok (.iload_n 2, 1) := by decide +kernel
theorem dX2_takesClauseLetter_41 : decode cX2_takesClauseLetter 41 = .ok (.invokestatic 68, 3) := by decide +kernel
theorem dX2_takesClauseLetter_44 : decode cX2_takesClauseLetter 44 = .ok (.ifCond .eq 20, 3) := by decide +kernel
theorem dX2_takesClauseLetter_47 : decode cX2_takesClauseLetter 47 = .ok (.aload_n 0, 1) := by decide +kernel
theorem dX2_takesClauseLetter_48 : decode cX2_takesClauseLetter 48 = .ok (.dup, 1) := by decide +kernel
theorem dX2_takesClauseLetter_49 : decode cX2_takesClauseLetter 49 = .ok (.getfield 32, 3) := by decide +kernel
theorem dX2_takesClauseLetter_52 : decode cX2_takesClauseLetter 52 = .ok (.iconst 1, 1) := by decide +kernel
theorem dX2_takesClauseLetter_53 : decode cX2_takesClauseLetter 53 = .ok (.iload_n 1, 1) := by decide +kernel
theorem dX2_takesClauseLetter_54 : decode cX2_takesClauseLetter 54 = .ok (.bipush 65, 2) := by decide +kernel
theorem dX2_takesClauseLetter_56 : decode cX2_takesClauseLetter 56 = .ok (.isub, 1) := by decide +kernel
theorem dX2_takesClauseLetter_57 : decode cX2_takesClauseLetter 57 = .ok (.ishl, 1) := by decide +kernel
theorem dX2_takesClauseLetter_58 : decode cX2_takesClauseLetter 58 = .ok (.ior, 1) := by decide +kernel
theorem dX2_takesClauseLetter_59 : decode cX2_takesClauseLetter 59 = .ok (.putfield 32, 3) := by decide +kernel
theorem dX2_takesClauseLetter_62 : decode cX2_takesClauseLetter 62 = .ok (.iconst 1, 1) := by decide +kernel
theorem dX2_takesClauseLetter_63 : decode cX2_takesClauseLetter 63 = .ok (.ireturn, 1) := by decide +kernel
theorem dX2_takesClauseLetter_64 : decode cX2_takesClauseLetter 64 = .ok (.iconst 0, 1) := by decide +kernel
theorem dX2_takesClauseLetter_65 : decode cX2_takesClauseLetter 65 = .ok (.ireturn, 1) := by decide +kernel
theorem dX2_takesBit_0 : decode cX2_takesBit 0 = .ok (.iload_n 1, 1) := by decide +kernel
theorem dX2_takesBit_1 : decode cX2_takesBit 1 = .ok (.bipush 48, 2) := by decide +kernel
theorem dX2_takesBit_3 : decode cX2_takesBit 3 = .ok (.if_icmp .eq 11, 3) := by decide +kernel
theorem dX2_takesBit_6 : decode cX2_takesBit 6 = .ok (.iload_n 1, 1) := by decide +kernel
theorem dX2_takesBit_7 : decode cX2_takesBit 7 = .ok (.bipush 49, 2) := by decide +kernel
theorem dX2_takesBit_9 : decode cX2_takesBit 9 = .ok (.if_icmp .eq 5, 3) := by decide +kernel
theorem dX2_takesBit_12 : decode cX2_takesBit 12 = .ok (.iconst 0, 1) := by decide +kernel
theorem dX2_takesBit_13 : decode cX2_takesBit 13 = .ok (.ireturn, 1) := by decide +kernel
theorem dX2_takesBit_14 : decode cX2_takesBit 14 = .ok (.aload_n 0, 1) := by decide +kernel
theorem dX2_takesBit_15 : decode cX2_takesBit 15 = .ok (.iload_n 1, 1) := by decide +kernel
theorem dX2_takesBit_16 : decode cX2_takesBit 16 = .ok (.bipush 48, 2) := by decide +kernel
theorem dX2_takesBit_18 : decode cX2_takesBit 18 = .ok (.isub, 1) := by decide +kernel
theorem dX2_takesBit_19 : decode cX2_takesBit 19 = .ok (.putfield 32, 3) := by decide +kernel
theorem dX2_takesBit_22 : decode cX2_takesBit 22 = .ok (.aload_n 0, 1) := by decide +kernel
theorem dX2_takesBit_23 : decode cX2_takesBit 23 = .ok (.iconst 3, 1) := by decide +kernel
theorem dX2_takesBit_24 : decode cX2_takesBit 24 = .ok (.putfield 26, 3) := by decide +kernel
theorem dX2_takesBit_27 : decode cX2_takesBit 27 = .ok (.iconst 1, 1) := by decide +kernel
theorem dX2_takesBit_28 : decode cX2_takesBit 28 = .ok (.ireturn, 1) := by decide +kernel
theorem dX2_takesInParity_0 : decode cX2_takesInParity 0 = .ok (.iload_n 1, 1) := by decide +kernel
theorem dX2_takesInParity_1 : decode cX2_takesInParity 1 = .ok (.bipush 59, 2) := by decide +kernel
theorem dX2_takesInParity_3 : decode cX2_takesInParity 3 = .ok (.if_icmp .ne 34, 3) := by decide +kernel
theorem dX2_takesInParity_6 : decode cX2_takesInParity 6 = .ok (.aload_n 0, 1) := by decide +kernel
theorem dX2_takesInParity_7 : decode cX2_takesInParity 7 = .ok (.getfield 29, 3) := by decide +kernel
theorem dX2_takesInParity_10 : decode cX2_takesInParity 10 = .ok (.ifCond .eq 25, 3) := by decide +kernel
theorem dX2_takesInParity_13 : decode cX2_takesInParity 13 = .ok (.aload_n 0, 1) := by decide +kernel
theorem dX2_takesInParity_14 : decode cX2_takesInParity 14 = .ok (.aload_n 0, 1) := by decide +kernel
theorem dX2_takesInParity_15 : decode cX2_takesInParity 15 = .ok (.getfield 29, 3) := by decide +kernel
theorem dX2_takesInParity_18 : decode cX2_takesInParity 18 = .ok (.aload_n 0, 1) := by decide +kernel
theorem dX2_takesInParity_19 : decode cX2_takesInParity 19 = .ok (.getfield 32, 3) := by decide +kernel
theorem dX2_takesInParity_22 : decode cX2_takesInParity 22 = .ok (.invokestatic 72, 3) := by decide +kernel
theorem dX2_takesInParity_25 : decode cX2_takesInParity 25 = .ok (.invokevirtual 52, 3) := by decide +kernel
theorem dX2_takesInParity_28 : decode cX2_takesInParity 28 = .ok (.ifCond .eq 7, 3) := by decide +kernel
theorem dX2_takesInParity_31 : decode cX2_takesInParity 31 = .ok (.iconst 1, 1) := by decide +kernel
theorem dX2_takesInParity_32 : decode cX2_takesInParity 32 = .ok (.goto 4, 3) := by decide +kernel
theorem dX2_takesInParity_35 : decode cX2_takesInParity 35 = .ok (.iconst 0, 1) := by decide +kernel
theorem dX2_takesInParity_36 : decode cX2_takesInParity 36 = .ok (.ireturn, 1) := by decide +kernel
theorem dX2_takesInParity_37 : decode cX2_takesInParity 37 = .ok (.iload_n 1, 1) := by decide +kernel
theorem dX2_takesInParity_38 : decode cX2_takesInParity 38 = .ok (.bipush 97, 2) := by decide +kernel
theorem dX2_takesInParity_40 : decode cX2_takesInParity 40 = .ok (.aload_n 0, 1) := by decide +kernel
theorem dX2_takesInParity_41 : decode cX2_takesInParity 41 = .ok (.getfield 29, 3) := by decide +kernel
theorem dX2_takesInParity_44 : decode cX2_takesInParity 44 = .ok (.invokestatic 68, 3) := by decide +kernel
theorem dX2_takesInParity_47 : decode cX2_takesInParity 47 = .ok (.ifCond .ne 5, 3) := by decide +kernel
theorem dX2_takesInParity_50 : decode cX2_takesInParity 50 = .ok (.iconst 0, 1) := by decide +kernel
theorem dX2_takesInParity_51 : decode cX2_takesInParity 51 = .ok (.ireturn, 1) := by decide +kernel
theorem dX2_takesInParity_52 : decode cX2_takesInParity 52 = .ok (.aload_n 0, 1) := by decide +kernel
theorem dX2_takesInParity_53 : decode cX2_takesInParity 53 = .ok (.dup, 1) := by decide +kernel
theorem dX2_takesInParity_54 : decode cX2_takesInParity 54 = .ok (.getfield 29, 3) := by decide +kernel
theorem dX2_takesInParity_57 : decode cX2_takesInParity 57 = .ok (.iconst 1, 1) := by decide +kernel
theorem dX2_takesInParity_58 : decode cX2_takesInParity 58 = .ok (.iload_n 1, 1) := by decide +kernel
theorem dX2_takesInParity_59 : decode cX2_takesInParity 59 = .ok (.bipush 97, 2) := by decide +kernel
theorem dX2_takesInParity_61 : decode cX2_takesInParity 61 = .ok (.isub, 1) := by decide +kernel
theorem dX2_takesInParity_62 : decode cX2_takesInParity 62 = .ok (.ishl, 1) := by decide +kernel
theorem dX2_takesInParity_63 : decode cX2_takesInParity 63 = .ok (.ior, 1) := by decide +kernel
theorem dX2_takesInParity_64 : decode cX2_takesInParity 64 = .ok (.putfield 29, 3) := by decide +kernel
theorem dX2_takesInParity_67 : decode cX2_takesInParity 67 = .ok (.iconst 1, 1) := by decide +kernel
theorem dX2_takesInParity_68 : decode cX2_takesInParity 68 = .ok (.ireturn, 1) := by decide +kernel
theorem dX2_endsItem_0 : decode cX2_endsItem 0 = .ok (.aload_n 0, 1) := by decide +kernel
theorem dX2_endsItem_1 : decode cX2_endsItem 1 = .ok (.getfield 22, 3) := by decide +kernel
theorem dX2_endsItem_4 : decode cX2_endsItem 4 = .ok (.iload_n 1, 1) := by decide +kernel
theorem dX2_endsItem_5 : decode cX2_endsItem 5 = .ok (.invokevirtual 75, 3) := by decide +kernel
theorem dX2_endsItem_8 : decode cX2_endsItem 8 = .ok (.aload_n 0, 1) := by decide +kernel
theorem dX2_endsItem_9 : decode cX2_endsItem 9 = .ok (.invokevirtual 38, 3) := by decide +kernel
theorem dX2_endsItem_12 : decode cX2_endsItem 12 = .ok (.iconst 1, 1) := by decide +kernel
theorem dX2_endsItem_13 : decode cX2_endsItem 13 = .ok (.ireturn, 1) := by decide +kernel
theorem dX2_isNewLetter_0 : decode cX2_isNewLetter 0 = .ok (.iload_n 0, 1) := by decide +kernel
theorem dX2_isNewLetter_1 : decode cX2_isNewLetter 1 = .ok (.iload_n 1, 1) := by decide +kernel
theorem dX2_isNewLetter_2 : decode cX2_isNewLetter 2 = .ok (.isub, 1) := by decide +kernel
theorem dX2_isNewLetter_3 : decode cX2_isNewLetter 3 = .ok (.istore_n 3, 1) := by decide +kernel
theorem dX2_isNewLetter_4 : decode cX2_isNewLetter 4 = .ok (.iload_n 3, 1) := by decide +kernel
theorem dX2_isNewLetter_5 : decode cX2_isNewLetter 5 = .ok (.invokestatic 79, 3) := by decide +kernel
theorem dX2_isNewLetter_8 : decode cX2_isNewLetter 8 = .ok (.ifCond .eq 15, 3) := by decide +kernel
theorem dX2_isNewLetter_11 : decode cX2_isNewLetter 11 = .ok (.iload_n 2, 1) := by decide +kernel
theorem dX2_isNewLetter_12 : decode cX2_isNewLetter 12 = .ok (.iload_n 3, 1) := by decide +kernel
theorem dX2_isNewLetter_13 : decode cX2_isNewLetter 13 = .ok (.invokestatic 82, 3) := by decide +kernel
theorem dX2_isNewLetter_16 : decode cX2_isNewLetter 16 = .ok (.ifCond .ne 7, 3) := by decide +kernel
theorem dX2_isNewLetter_19 : decode cX2_isNewLetter 19 = .ok (.iconst 1, 1) := by decide +kernel
theorem dX2_isNewLetter_20 : decode cX2_isNewLetter 20 = .ok (.goto 4, 3) := by decide +kernel
theorem dX2_isNewLetter_23 : decode cX2_isNewLetter 23 = .ok (.iconst 0, 1) := by decide +kernel
theorem dX2_isNewLetter_24 : decode cX2_isNewLetter 24 = .ok (.ireturn, 1) := by decide +kernel
theorem dX3_init_0 : decode cX3_init 0 = .ok (.aload_n 0, 1) := by decide +kernel
theorem dX3_init_1 : decode cX3_init 1 = .ok (.invokespecial 3, 3) := by decide +kernel
theorem dX3_init_4 : decode cX3_init 4 = .ok (.aload_n 0, 1) := by decide +kernel
theorem dX3_init_5 : decode cX3_init 5 = .ok (.bipush 14, 2) := by decide +kernel
theorem dX3_init_7 : decode cX3_init 7 = .ok (.anewarray 9, 3) := by decide +kernel
theorem dX3_init_10 : decode cX3_init 10 = .ok (.putfield 11, 3) := by decide +kernel
theorem dX3_init_13 : decode cX3_init 13 = .ok (.aload_n 0, 1) := by decide +kernel
theorem dX3_init_14 : decode cX3_init 14 = .ok (.iconst 2, 1) := by decide +kernel
theorem dX3_init_15 : decode cX3_init 15 = .ok (.anewarray 9, 3) := by decide +kernel
theorem dX3_init_18 : decode cX3_init 18 = .ok (.putfield 17, 3) := by decide +kernel
theorem dX3_init_21 : decode cX3_init 21 = .ok (.aload_n 0, 1) := by decide +kernel
theorem dX3_init_22 : decode cX3_init 22 = .ok (.iconst 2, 1) := by decide +kernel
theorem dX3_init_23 : decode cX3_init 23 = .ok (.newarray .boolean, 2) := by decide +kernel
theorem dX3_init_25 : decode cX3_init 25 = .ok (.putfield 20, 3) := by decide +kernel
theorem dX3_init_28 : decode cX3_init 28 = .ok (.aload_n 0, 1) := by decide +kernel
theorem dX3_init_29 : decode cX3_init 29 = .ok (.iconst 0, 1) := by decide +kernel
theorem dX3_init_30 : decode cX3_init 30 = .ok (.putfield 24, 3) := by decide +kernel
theorem dX3_init_33 : decode cX3_init 33 = .ok (.iconst 0, 1) := by decide +kernel
theorem dX3_init_34 : decode cX3_init 34 = .ok (.istore_n 1, 1) := by decide +kernel
theorem dX3_init_35 : decode cX3_init 35 = .ok (.iload_n 1, 1) := by decide +kernel
theorem dX3_init_36 : decode cX3_init 36 = .ok (.bipush 14, 2) := by decide +kernel
theorem dX3_init_38 : decode cX3_init 38 = .ok (.if_icmp .ge 22, 3) := by decide +kernel
theorem dX3_init_41 : decode cX3_init 41 = .ok (.aload_n 0, 1) := by decide +kernel
theorem dX3_init_42 : decode cX3_init 42 = .ok (.getfield 11, 3) := by decide +kernel
theorem dX3_init_45 : decode cX3_init 45 = .ok (.iload_n 1, 1) := by decide +kernel
theorem dX3_init_46 : decode cX3_init 46 = .ok (.new 9, 3) := by decide +kernel
theorem dX3_init_49 : decode cX3_init 49 = .ok (.dup, 1) := by decide +kernel
theorem dX3_init_50 : decode cX3_init 50 = .ok (.invokespecial 28, 3) := by decide +kernel
theorem dX3_init_53 : decode cX3_init 53 = .ok (.aastore, 1) := by decide +kernel
theorem dX3_init_54 : decode cX3_init 54 = .ok (.iinc 1 1, 3) := by decide +kernel
theorem dX3_init_57 : decode cX3_init 57 = .ok (.goto (-22), 3) := by decide +kernel
theorem dX3_init_60 : decode cX3_init 60 = .ok (.iconst 0, 1) := by decide +kernel
theorem dX3_init_61 : decode cX3_init 61 = .ok (.istore_n 1, 1) := by decide +kernel
theorem dX3_init_62 : decode cX3_init 62 = .ok (.iload_n 1, 1) := by decide +kernel
theorem dX3_init_63 : decode cX3_init 63 = .ok (.iconst 2, 1) := by decide +kernel
theorem dX3_init_64 : decode cX3_init 64 = .ok (.if_icmp .ge 22, 3) := by decide +kernel
theorem dX3_init_67 : decode cX3_init 67 = .ok (.aload_n 0, 1) := by decide +kernel
theorem dX3_init_68 : decode cX3_init 68 = .ok (.getfield 17, 3) := by decide +kernel
theorem dX3_init_71 : decode cX3_init 71 = .ok (.iload_n 1, 1) := by decide +kernel
theorem dX3_init_72 : decode cX3_init 72 = .ok (.new 9, 3) := by decide +kernel
theorem dX3_init_75 : decode cX3_init 75 = .ok (.dup, 1) := by decide +kernel
theorem dX3_init_76 : decode cX3_init 76 = .ok (.invokespecial 28, 3) := by decide +kernel
theorem dX3_init_79 : decode cX3_init 79 = .ok (.aastore, 1) := by decide +kernel
theorem dX3_init_80 : decode cX3_init 80 = .ok (.iinc 1 1, 3) := by decide +kernel
theorem dX3_init_83 : decode cX3_init 83 = .ok (.goto (-21), 3) := by decide +kernel
theorem dX3_init_86 : decode cX3_init 86 = .ok (.return_, 1) := by decide +kernel
theorem dX3_remember_0 : decode cX3_remember 0 = .ok (.aload_n 0, 1) := by decide +kernel
theorem dX3_remember_1 : decode cX3_remember 1 = .ok (.getfield 24, 3) := by decide +kernel
theorem dX3_remember_4 : decode cX3_remember 4 = .ok (.bipush 14, 2) := by decide +kernel
theorem dX3_remember_6 : decode cX3_remember 6 = .ok (.if_icmp .lt 7, 3) := by decide +kernel
theorem dX3_remember_9 : decode cX3_remember 9 = .ok (.aload_n 0, 1) := by decide +kernel
theorem dX3_remember_10 : decode cX3_remember 10 = .ok (.invokevirtual 29, 3) := by decide +kernel
theorem dX3_remember_13 : decode cX3_remember 13 = .ok (.aload_n 0, 1) := by decide +kernel
theorem dX3_remember_14 : decode cX3_remember 14 = .ok (.getfield 11, 3) := by decide +kernel
theorem dX3_remember_17 : decode cX3_remember 17 = .ok (.aload_n 0, 1) := by decide +kernel
theorem dX3_remember_18 : decode cX3_remember 18 = .ok (.getfield 24, 3) := by decide +kernel
theorem dX3_remember_21 : decode cX3_remember 21 = .ok (.aaload, 1) := by decide +kernel
theorem dX3_remember_22 : decode cX3_remember 22 = .ok (.aload_n 1, 1) := by decide +kernel
theorem dX3_remember_23 : decode cX3_remember 23 = .ok (.invokestatic 32, 3) := by decide +kernel
theorem dX3_remember_26 : decode cX3_remember 26 = .ok (.aload_n 0, 1) := by decide +kernel
theorem dX3_remember_27 : decode cX3_remember 27 = .ok (.dup, 1) := by decide +kernel
theorem dX3_remember_28 : decode cX3_remember 28 = .ok (.getfield 24, 3) := by decide +kernel
theorem dX3_remember_31 : decode cX3_remember 31 = .ok (.iconst 1, 1) := by decide +kernel
theorem dX3_remember_32 : decode cX3_remember 32 = .ok (.iadd, 1) := by decide +kernel
theorem dX3_remember_33 : decode cX3_remember 33 = .ok (.putfield 24, 3) := by decide +kernel
theorem dX3_remember_36 : decode cX3_remember 36 = .ok (.return_, 1) := by decide +kernel
theorem dX3_forgetOldest_0 : decode cX3_forgetOldest 0 = .ok (.aload_n 0, 1) := by decide +kernel
theorem dX3_forgetOldest_1 : decode cX3_forgetOldest 1 = .ok (.getfield 11, 3) := by decide +kernel
theorem dX3_forgetOldest_4 : decode cX3_forgetOldest 4 = .ok (.iconst 0, 1) := by decide +kernel
theorem dX3_forgetOldest_5 : decode cX3_forgetOldest 5 = .ok (.aaload, 1) := by decide +kernel
theorem dX3_forgetOldest_6 : decode cX3_forgetOldest 6 = .ok (.astore_n 1, 1) := by decide +kernel
theorem dX3_forgetOldest_7 : decode cX3_forgetOldest 7 = .ok (.iconst 0, 1) := by decide +kernel
theorem dX3_forgetOldest_8 : decode cX3_forgetOldest 8 = .ok (.istore_n 2, 1) := by decide +kernel
theorem dX3_forgetOldest_9 : decode cX3_forgetOldest 9 = .ok (.iload_n 2, 1) := by decide +kernel
theorem dX3_forgetOldest_10 : decode cX3_forgetOldest 10 = .ok (.bipush 13, 2) := by decide +kernel
theorem dX3_forgetOldest_12 : decode cX3_forgetOldest 12 = .ok (.if_icmp .ge 23, 3) := by decide +kernel
theorem dX3_forgetOldest_15 : decode cX3_forgetOldest 15 = .ok (.aload_n 0, 1) := by decide +kernel
theorem dX3_forgetOldest_16 : decode cX3_forgetOldest 16 = .ok (.getfield 11, 3) := by decide +kernel
theorem dX3_forgetOldest_19 : decode cX3_forgetOldest 19 = .ok (.iload_n 2, 1) := by decide +kernel
theorem dX3_forgetOldest_20 : decode cX3_forgetOldest 20 = .ok (.aload_n 0, 1) := by decide +kernel
theorem dX3_forgetOldest_21 : decode cX3_forgetOldest 21 = .ok (.getfield 11, 3) := by decide +kernel
theorem dX3_forgetOldest_24 : decode cX3_forgetOldest 24 = .ok (.iload_n 2, 1) := by decide +kernel
theorem dX3_forgetOldest_25 : decode cX3_forgetOldest 25 = .ok (.iconst 1, 1) := by decide +kernel
theorem dX3_forgetOldest_26 : decode cX3_forgetOldest 26 = .ok (.iadd, 1) := by decide +kernel
theorem dX3_forgetOldest_27 : decode cX3_forgetOldest 27 = .ok (.aaload, 1) := by decide +kernel
theorem dX3_forgetOldest_28 : decode cX3_forgetOldest 28 = .ok (.aastore, 1) := by decide +kernel
theorem dX3_forgetOldest_29 : decode cX3_forgetOldest 29 = .ok (.iinc 2 1, 3) := by decide +kernel
theorem dX3_forgetOldest_32 : decode cX3_forgetOldest 32 = .ok (.goto (-23), 3) := by decide +kernel
theorem dX3_forgetOldest_35 : decode cX3_forgetOldest 35 = .ok (.aload_n 0, 1) := by decide +kernel
theorem dX3_forgetOldest_36 : decode cX3_forgetOldest 36 = .ok (.getfield 11, 3) := by decide +kernel
theorem dX3_forgetOldest_39 : decode cX3_forgetOldest 39 = .ok (.bipush 13, 2) := by decide +kernel
theorem dX3_forgetOldest_41 : decode cX3_forgetOldest 41 = .ok (.aload_n 1, 1) := by decide +kernel
theorem dX3_forgetOldest_42 : decode cX3_forgetOldest 42 = .ok (.aastore, 1) := by decide +kernel
theorem dX3_forgetOldest_43 : decode cX3_forgetOldest 43 = .ok (.aload_n 0, 1) := by decide +kernel
theorem dX3_forgetOldest_44 : decode cX3_forgetOldest 44 = .ok (.bipush 13, 2) := by decide +kernel
theorem dX3_forgetOldest_46 : decode cX3_forgetOldest 46 = .ok (.putfield 24, 3) := by decide +kernel
theorem dX3_forgetOldest_49 : decode cX3_forgetOldest 49 = .ok (.return_, 1) := by decide +kernel
theorem dX3_takeBack_0 : decode cX3_takeBack 0 = .ok (.aload_n 0, 1) := by decide +kernel
theorem dX3_takeBack_1 : decode cX3_takeBack 1 = .ok (.getfield 24, 3) := by decide +kernel
theorem dX3_takeBack_4 : decode cX3_takeBack 4 = .ok (.ifCond .le 26, 3) := by decide +kernel
theorem dX3_takeBack_7 : decode cX3_takeBack 7 = .ok (.aload_n 0, 1) := by decide +kernel
theorem dX3_takeBack_8 : decode cX3_takeBack 8 = .ok (.dup, 1) := by decide +kernel
theorem dX3_takeBack_9 : decode cX3_takeBack 9 = .ok (.getfield 24, 3) := by decide +kernel
theorem dX3_takeBack_12 : decode cX3_takeBack 12 = .ok (.iconst 1, 1) := by decide +kernel
theorem dX3_takeBack_13 : decode cX3_takeBack 13 = .ok (.isub, 1) := by decide +kernel
theorem dX3_takeBack_14 : decode cX3_takeBack 14 = .ok (.putfield 24, 3) := by decide +kernel
theorem dX3_takeBack_17 : decode cX3_takeBack 17 = .ok (.aload_n 1, 1) := by decide +kernel
theorem dX3_takeBack_18 : decode cX3_takeBack 18 = .ok (.aload_n 0, 1) := by decide +kernel
theorem dX3_takeBack_19 : decode cX3_takeBack 19 = .ok (.getfield 11, 3) := by decide +kernel
theorem dX3_takeBack_22 : decode cX3_takeBack 22 = .ok (.aload_n 0, 1) := by decide +kernel
theorem dX3_takeBack_23 : decode cX3_takeBack 23 = .ok (.getfield 24, 3) := by decide +kernel
theorem dX3_takeBack_26 : decode cX3_takeBack 26 = .ok (.aaload, 1) := by decide +kernel
theorem dX3_takeBack_27 : decode cX3_takeBack 27 = .ok (.invokestatic 32, 3) := by decide +kernel
theorem dX3_takeBack_30 : decode cX3_takeBack 30 = .ok (.return_, 1) := by decide +kernel
theorem dX3_forgetAll_0 : decode cX3_forgetAll 0 = .ok (.aload_n 0, 1) := by decide +kernel
theorem dX3_forgetAll_1 : decode cX3_forgetAll 1 = .ok (.iconst 0, 1) := by decide +kernel
theorem dX3_forgetAll_2 : decode cX3_forgetAll 2 = .ok (.putfield 24, 3) := by decide +kernel
theorem dX3_forgetAll_5 : decode cX3_forgetAll 5 = .ok (.return_, 1) := by decide +kernel
theorem dX3_isFilled_0 : decode cX3_isFilled 0 = .ok (.iload_n 1, 1) := by decide +kernel
theorem dX3_isFilled_1 : decode cX3_isFilled 1 = .ok (.ifCond .lt 21, 3) := by decide +kernel
theorem dX3_isFilled_4 : decode cX3_isFilled 4 = .ok (.iload_n 1, 1) := by decide +kernel
theorem dX3_isFilled_5 : decode cX3_isFilled 5 = .ok (.iconst 2, 1) := by decide +kernel
theorem dX3_isFilled_6 : decode cX3_isFilled 6 = .ok (.if_icmp .ge 16, 3) := by decide +kernel
theorem dX3_isFilled_9 : decode cX3_isFilled 9 = .ok (.aload_n 0, 1) := by decide +kernel
theorem dX3_isFilled_10 : decode cX3_isFilled 10 = .ok (.getfield 20, 3) := by decide +kernel
theorem dX3_isFilled_13 : decode cX3_isFilled 13 = .ok (.iload_n 1, 1) := by decide +kernel
theorem dX3_isFilled_14 : decode cX3_isFilled 14 = .ok (.baload, 1) := by decide +kernel
theorem dX3_isFilled_15 : decode cX3_isFilled 15 = .ok (.ifCond .eq 7, 3) := by decide +kernel
theorem dX3_isFilled_18 : decode cX3_isFilled 18 = .ok (.iconst 1, 1) := by decide +kernel
theorem dX3_isFilled_19 : decode cX3_isFilled 19 = .ok (.goto 4, 3) := by decide +kernel
theorem dX3_isFilled_22 : decode cX3_isFilled 22 = .ok (.iconst 0, 1) := by decide +kernel
theorem dX3_isFilled_23 : decode cX3_isFilled 23 = .ok (.ireturn, 1) := by decide +kernel
theorem dX3_fillSlot_0 : decode cX3_fillSlot 0 = .ok (.iload_n 1, 1) := by decide +kernel
theorem dX3_fillSlot_1 : decode cX3_fillSlot 1 = .ok (.ifCond .lt 25, 3) := by decide +kernel
theorem dX3_fillSlot_4 : decode cX3_fillSlot 4 = .ok (.iload_n 1, 1) := by decide +kernel
theorem dX3_fillSlot_5 : decode cX3_fillSlot 5 = .ok (.iconst 2, 1) := by decide +kernel
theorem dX3_fillSlot_6 : decode cX3_fillSlot 6 = .ok (.if_icmp .ge 20, 3) := by decide +kernel
theorem dX3_fillSlot_9 : decode cX3_fillSlot 9 = .ok (.aload_n 0, 1) := by decide +kernel
theorem dX3_fillSlot_10 : decode cX3_fillSlot 10 = .ok (.getfield 17, 3) := by decide +kernel
theorem dX3_fillSlot_13 : decode cX3_fillSlot 13 = .ok (.iload_n 1, 1) := by decide +kernel
theorem dX3_fillSlot_14 : decode cX3_fillSlot 14 = .ok (.aaload, 1) := by decide +kernel
theorem dX3_fillSlot_15 : decode cX3_fillSlot 15 = .ok (.aload_n 2, 1) := by decide +kernel
theorem dX3_fillSlot_16 : decode cX3_fillSlot 16 = .ok (.invokestatic 32, 3) := by decide +kernel
theorem dX3_fillSlot_19 : decode cX3_fillSlot 19 = .ok (.aload_n 0, 1) := by decide +kernel
theorem dX3_fillSlot_20 : decode cX3_fillSlot 20 = .ok (.getfield 20, 3) := by decide +kernel
theorem dX3_fillSlot_23 : decode cX3_fillSlot 23 = .ok (.iload_n 1, 1) := by decide +kernel
theorem dX3_fillSlot_24 : decode cX3_fillSlot 24 = .ok (.iconst 1, 1) := by decide +kernel
theorem dX3_fillSlot_25 : decode cX3_fillSlot 25 = .ok (.bastore, 1) := by decide +kernel
theorem dX3_fillSlot_26 : decode cX3_fillSlot 26 = .ok (.return_, 1) := by decide +kernel
theorem dX3_copySlot_0 : decode cX3_copySlot 0 = .ok (.aload_n 0, 1) := by decide +kernel
theorem dX3_copySlot_1 : decode cX3_copySlot 1 = .ok (.iload_n 1, 1) := by decide +kernel
theorem dX3_copySlot_2 : decode cX3_copySlot 2 = .ok (.invokevirtual 36, 3) := by decide +kernel
theorem dX3_copySlot_5 : decode cX3_copySlot 5 = .ok (.ifCond .eq 13, 3) := by decide +kernel
theorem dX3_copySlot_8 : decode cX3_copySlot 8 = .ok (.aload_n 2, 1) := by decide +kernel
theorem dX3_copySlot_9 : decode cX3_copySlot 9 = .ok (.aload_n 0, 1) := by decide +kernel
theorem dX3_copySlot_10 : decode cX3_copySlot 10 = .ok (.getfield 17, 3) := by decide +kernel
theorem dX3_copySlot_13 : decode cX3_copySlot 13 = .ok (.iload_n 1, 1) := by decide +kernel
theorem dX3_copySlot_14 : decode cX3_copySlot 14 = .ok (.aaload, 1) := by decide +kernel
theorem dX3_copySlot_15 : decode cX3_copySlot 15 = .ok (.invokestatic 32, 3) := by decide +kernel
theorem dX3_copySlot_18 : decode cX3_copySlot 18 = .ok (.return_, 1) := by decide +kernel
theorem dX3_emptySlots_0 : decode cX3_emptySlots 0 = .ok (.iconst 0, 1) := by decide +kernel
theorem dX3_emptySlots_1 : decode cX3_emptySlots 1 = .ok (.istore_n 1, 1) := by decide +kernel
theorem dX3_emptySlots_2 : decode cX3_emptySlots 2 = .ok (.iload_n 1, 1) := by decide +kernel
theorem dX3_emptySlots_3 : decode cX3_emptySlots 3 = .ok (.iconst 2, 1) := by decide +kernel
theorem dX3_emptySlots_4 : decode cX3_emptySlots 4 = .ok (.if_icmp .ge 16, 3) := by decide +kernel
theorem dX3_emptySlots_7 : decode cX3_emptySlots 7 = .ok (.aload_n 0, 1) := by decide +kernel
theorem dX3_emptySlots_8 : decode cX3_emptySlots 8 = .ok (.getfield 20, 3) := by decide +kernel
theorem dX3_emptySlots_11 : decode cX3_emptySlots 11 = .ok (.iload_n 1, 1) := by decide +kernel
theorem dX3_emptySlots_12 : decode cX3_emptySlots 12 = .ok (.iconst 0, 1) := by decide +kernel
theorem dX3_emptySlots_13 : decode cX3_emptySlots 13 = .ok (.bastore, 1) := by decide +kernel
theorem dX3_emptySlots_14 : decode cX3_emptySlots 14 = .ok (.iinc 1 1, 3) := by decide +kernel
theorem dX3_emptySlots_17 : decode cX3_emptySlots 17 = .ok (.goto (-15), 3) := by decide +kernel
theorem dX3_emptySlots_20 : decode cX3_emptySlots 20 = .ok (.return_, 1) := by decide +kernel
theorem dX3_copyInto_0 : decode cX3_copyInto 0 = .ok (.aload_n 0, 1) := by decide +kernel
theorem dX3_copyInto_1 : decode cX3_copyInto 1 = .ok (.ifnull 12, 3) := by decide +kernel
theorem dX3_copyInto_4 : decode cX3_copyInto 4 = .ok (.aload_n 1, 1) := by decide +kernel
theorem dX3_copyInto_5 : decode cX3_copyInto 5 = .ok (.ifnull 8, 3) := by decide +kernel
theorem dX3_copyInto_8 : decode cX3_copyInto 8 = .ok (.aload_n 0, 1) := by decide +kernel
theorem dX3_copyInto_9 : decode cX3_copyInto 9 = .ok (.aload_n 1, 1) := by decide +kernel
theorem dX3_copyInto_10 : decode cX3_copyInto 10 = .ok (.invokevirtual 40, 3) := by decide +kernel
theorem dX3_copyInto_13 : decode cX3_copyInto 13 = .ok (.return_, 1) := by decide +kernel
theorem dX4_init_0 : decode cX4_init 0 = .ok (.aload_n 0, 1) := by decide +kernel
theorem dX4_init_1 : decode cX4_init 1 = .ok (.invokespecial 3, 3) := by decide +kernel
theorem dX4_init_4 : decode cX4_init 4 = .ok (.aload_n 0, 1) := by decide +kernel
theorem dX4_init_5 : decode cX4_init 5 = .ok (.sipush 256, 3) := by decide +kernel
theorem dX4_init_8 : decode cX4_init 8 = .ok (.newarray .int, 2) := by decide +kernel
theorem dX4_init_10 : decode cX4_init 10 = .ok (.putfield 9, 3) := by decide +kernel
theorem dX4_init_13 : decode cX4_init 13 = .ok (.aload_n 0, 1) := by decide +kernel
theorem dX4_init_14 : decode cX4_init 14 = .ok (.iconst 1, 1) := by decide +kernel
theorem dX4_init_15 : decode cX4_init 15 = .ok (.putfield 15, 3) := by decide +kernel
theorem dX4_init_18 : decode cX4_init 18 = .ok (.return_, 1) := by decide +kernel
theorem dX4_refresh_0 : decode cX4_refresh 0 = .ok (.aload_n 0, 1) := by decide +kernel
theorem dX4_refresh_1 : decode cX4_refresh 1 = .ok (.getfield 15, 3) := by decide +kernel
theorem dX4_refresh_4 : decode cX4_refresh 4 = .ok (.ifCond .eq 34, 3) := by decide +kernel
theorem dX4_refresh_7 : decode cX4_refresh 7 = .ok (.iconst 0, 1) := by decide +kernel
theorem dX4_refresh_8 : decode cX4_refresh 8 = .ok (.istore_n 2, 1) := by decide +kernel
theorem dX4_refresh_9 : decode cX4_refresh 9 = .ok (.iload_n 2, 1) := by decide +kernel
theorem dX4_refresh_10 : decode cX4_refresh 10 = .ok (.sipush 256, 3) := by decide +kernel
theorem dX4_refresh_13 : decode cX4_refresh 13 = .ok (.if_icmp .ge 20, 3) := by decide +kernel
theorem dX4_refresh_16 : decode cX4_refresh 16 = .ok (.aload_n 0, 1) := by decide +kernel
theorem dX4_refresh_17 : decode cX4_refresh 17 = .ok (.getfield 9, 3) := by decide +kernel
theorem dX4_refresh_20 : decode cX4_refresh 20 = .ok (.iload_n 2, 1) := by decide +kernel
theorem dX4_refresh_21 : decode cX4_refresh 21 = .ok (.aload_n 1, 1) := by decide +kernel
theorem dX4_refresh_22 : decode cX4_refresh 22 = .ok (.iload_n 2, 1) := by decide +kernel
theorem dX4_refresh_23 : decode cX4_refresh 23 = .ok (.invokestatic 19, 3) := by decide +kernel
theorem dX4_refresh_26 : decode cX4_refresh 26 = .ok (.iastore, 1) := by decide +kernel
theorem dX4_refresh_27 : decode cX4_refresh 27 = .ok (.iinc 2 1, 3) := by decide +kernel
theorem dX4_refresh_30 : decode cX4_refresh 30 = .ok (.goto (-21), 3) := by decide +kernel
theorem dX4_refresh_33 : decode cX4_refresh 33 = .ok (.aload_n 0, 1) := by decide +kernel
theorem dX4_refresh_34 : decode cX4_refresh 34 = .ok (.iconst 0, 1) := by decide +kernel
theorem dX4_refresh_35 : decode cX4_refresh 35 = .ok (.putfield 15, 3) := by decide +kernel
theorem dX4_refresh_38 : decode cX4_refresh 38 = .ok (.return_, 1) := by decide +kernel
theorem dX4_violatedBy_0 : decode cX4_violatedBy 0 = .ok (.iconst 0, 1) := by decide +kernel
theorem dX4_violatedBy_1 : decode cX4_violatedBy 1 = .ok (.istore_n 2, 1) := by decide +kernel
theorem dX4_violatedBy_2 : decode cX4_violatedBy 2 = .ok (.iconst 0, 1) := by decide +kernel
theorem dX4_violatedBy_3 : decode cX4_violatedBy 3 = .ok (.istore_n 3, 1) := by decide +kernel
theorem dX4_violatedBy_4 : decode cX4_violatedBy 4 = .ok (.iload_n 3, 1) := by decide +kernel
theorem dX4_violatedBy_5 : decode cX4_violatedBy 5 = .ok (.aload_n 0, 1) := by decide +kernel
theorem dX4_violatedBy_6 : decode cX4_violatedBy 6 = .ok (.getfield 23, 3) := by decide +kernel
theorem dX4_violatedBy_9 : decode cX4_violatedBy 9 = .ok (.if_icmp .ge 27, 3) := by decide +kernel
theorem dX4_violatedBy_12 : decode cX4_violatedBy 12 = .ok (.aload_n 0, 1) := by decide +kernel
theorem dX4_violatedBy_13 : decode cX4_violatedBy 13 = .ok (.iload_n 3, 1) := by decide +kernel
theorem dX4_violatedBy_14 : decode cX4_violatedBy 14 = .ok (.invokevirtual 29, 3) := by decide +kernel
theorem dX4_violatedBy_17 : decode cX4_violatedBy 17 = .ok (.iload_n 1, 1) := by decide +kernel
theorem dX4_violatedBy_18 : decode cX4_violatedBy 18 = .ok (.invokestatic 33, 3) := by decide +kernel
theorem dX4_violatedBy_21 : decode cX4_violatedBy 21 = .ok (.ifCond .eq 9, 3) := by decide +kernel
theorem dX4_violatedBy_24 : decode cX4_violatedBy 24 = .ok (.iload_n 2, 1) := by decide +kernel
theorem dX4_violatedBy_25 : decode cX4_violatedBy 25 = .ok (.iconst 1, 1) := by decide +kernel
theorem dX4_violatedBy_26 : decode cX4_violatedBy 26 = .ok (.iload_n 3, 1) := by decide +kernel
theorem dX4_violatedBy_27 : decode cX4_violatedBy 27 = .ok (.ishl, 1) := by decide +kernel
theorem dX4_violatedBy_28 : decode cX4_violatedBy 28 = .ok (.ior, 1) := by decide +kernel
theorem dX4_violatedBy_29 : decode cX4_violatedBy 29 = .ok (.istore_n 2, 1) := by decide +kernel
theorem dX4_violatedBy_30 : decode cX4_violatedBy 30 = .ok (.iinc 3 1, 3) := by decide +kernel
theorem dX4_violatedBy_33 : decode cX4_violatedBy 33 = .ok (.goto (-29), 3) := by decide +kernel
theorem dX4_violatedBy_36 : decode cX4_violatedBy 36 = .ok (.iload_n 2, 1) := by decide +kernel
theorem dX4_violatedBy_37 : decode cX4_violatedBy 37 = .ok (.ireturn, 1) := by decide +kernel
theorem dX4_countModels_0 : decode cX4_countModels 0 = .ok (.iconst 0, 1) := by decide +kernel
theorem dX4_countModels_1 : decode cX4_countModels 1 = .ok (.istore_n 1, 1) := by decide +kernel
theorem dX4_countModels_2 : decode cX4_countModels 2 = .ok (.iconst 0, 1) := by decide +kernel
theorem dX4_countModels_3 : decode cX4_countModels 3 = .ok (.istore_n 2, 1) := by decide +kernel
theorem dX4_countModels_4 : decode cX4_countModels 4 = .ok (.iload_n 2, 1) := by decide +kernel
theorem dX4_countModels_5 : decode cX4_countModels 5 = .ok (.sipush 256, 3) := by decide +kernel
theorem dX4_countModels_8 : decode cX4_countModels 8 = .ok (.if_icmp .ge 21, 3) := by decide +kernel
theorem dX4_countModels_11 : decode cX4_countModels 11 = .ok (.aload_n 0, 1) := by decide +kernel
theorem dX4_countModels_12 : decode cX4_countModels 12 = .ok (.getfield 9, 3) := by decide +kernel
theorem dX4_countModels_15 : decode cX4_countModels 15 = .ok (.iload_n 2, 1) := by decide +kernel
theorem dX4_countModels_16 : decode cX4_countModels 16 = .ok (.iaload, 1) := by decide +kernel
theorem dX4_countModels_17 : decode cX4_countModels 17 = .ok (.ifCond .ne 6, 3) := by decide +kernel
theorem dX4_countModels_20 : decode cX4_countModels 20 = .ok (.iinc 1 1, 3) := by decide +kernel
theorem dX4_countModels_23 : decode cX4_countModels 23 = .ok (.iinc 2 1, 3) := by decide +kernel
theorem dX4_countModels_26 : decode cX4_countModels 26 = .ok (.goto (-22), 3) := by decide +kernel
theorem dX4_countModels_29 : decode cX4_countModels 29 = .ok (.iload_n 1, 1) := by decide +kernel
theorem dX4_countModels_30 : decode cX4_countModels 30 = .ok (.ireturn, 1) := by decide +kernel
theorem dX4_modelAt_0 : decode cX4_modelAt 0 = .ok (.iconst 0, 1) := by decide +kernel
theorem dX4_modelAt_1 : decode cX4_modelAt 1 = .ok (.istore_n 2, 1) := by decide +kernel
theorem dX4_modelAt_2 : decode cX4_modelAt 2 = .ok (.iconst 0, 1) := by decide +kernel
theorem dX4_modelAt_3 : decode cX4_modelAt 3 = .ok (.istore_n 3, 1) := by decide +kernel
theorem dX4_modelAt_4 : decode cX4_modelAt 4 = .ok (.iload_n 3, 1) := by decide +kernel
theorem dX4_modelAt_5 : decode cX4_modelAt 5 = .ok (.sipush 256, 3) := by decide +kernel
theorem dX4_modelAt_8 : decode cX4_modelAt 8 = .ok (.if_icmp .ge 28, 3) := by decide +kernel
theorem dX4_modelAt_11 : decode cX4_modelAt 11 = .ok (.aload_n 0, 1) := by decide +kernel
theorem dX4_modelAt_12 : decode cX4_modelAt 12 = .ok (.getfield 9, 3) := by decide +kernel
theorem dX4_modelAt_15 : decode cX4_modelAt 15 = .ok (.iload_n 3, 1) := by decide +kernel
theorem dX4_modelAt_16 : decode cX4_modelAt 16 = .ok (.iaload, 1) := by decide +kernel
theorem dX4_modelAt_17 : decode cX4_modelAt 17 = .ok (.ifCond .ne 13, 3) := by decide +kernel
theorem dX4_modelAt_20 : decode cX4_modelAt 20 = .ok (.iload_n 2, 1) := by decide +kernel
theorem dX4_modelAt_21 : decode cX4_modelAt 21 = .ok (.iload_n 1, 1) := by decide +kernel
theorem dX4_modelAt_22 : decode cX4_modelAt 22 = .ok (.if_icmp .ne 5, 3) := by decide +kernel
theorem dX4_modelAt_25 : decode cX4_modelAt 25 = .ok (.iload_n 3, 1) := by decide +kernel
theorem dX4_modelAt_26 : decode cX4_modelAt 26 = .ok (.ireturn, 1) := by decide +kernel
theorem dX4_modelAt_27 : decode cX4_modelAt 27 = .ok (.iinc 2 1, 3) := by decide +kernel
theorem dX4_modelAt_30 : decode cX4_modelAt 30 = .ok (.iinc 3 1, 3) := by decide +kernel
theorem dX4_modelAt_33 : decode cX4_modelAt 33 = .ok (.goto (-29), 3) := by decide +kernel
theorem dX4_modelAt_36 : decode cX4_modelAt 36 = .ok (.bipush (-9), 2) := by decide +kernel
theorem dX4_modelAt_38 : decode cX4_modelAt 38 = .ok (.ireturn, 1) := by decide +kernel
theorem dX4_allSatisfy_0 : decode cX4_allSatisfy 0 = .ok (.iconst 0, 1) := by decide +kernel
theorem dX4_allSatisfy_1 : decode cX4_allSatisfy 1 = .ok (.istore_n 2, 1) := by decide +kernel
theorem dX4_allSatisfy_2 : decode cX4_allSatisfy 2 = .ok (.iload_n 2, 1) := by decide +kernel
theorem dX4_allSatisfy_3 : decode cX4_allSatisfy 3 = .ok (.sipush 256, 3) := by decide +kernel
theorem dX4_allSatisfy_6 : decode cX4_allSatisfy 6 = .ok (.if_icmp .ge 28, 3) := by decide +kernel
theorem dX4_allSatisfy_9 : decode cX4_allSatisfy 9 = .ok (.aload_n 0, 1) := by decide +kernel
theorem dX4_allSatisfy_10 : decode cX4_allSatisfy 10 = .ok (.getfield 9, 3) := by decide +kernel
theorem dX4_allSatisfy_13 : decode cX4_allSatisfy 13 = .ok (.iload_n 2, 1) := by decide +kernel
theorem dX4_allSatisfy_14 : decode cX4_allSatisfy 14 = .ok (.iaload, 1) := by decide +kernel
theorem dX4_allSatisfy_15 : decode cX4_allSatisfy 15 = .ok (.ifCond .ne 13, 3) := by decide +kernel
theorem dX4_allSatisfy_18 : decode cX4_allSatisfy 18 = .ok (.iload_n 1, 1) := by decide +kernel
theorem dX4_allSatisfy_19 : decode cX4_allSatisfy 19 = .ok (.iload_n 2, 1) := by decide +kernel
theorem dX4_allSatisfy_20 : decode cX4_allSatisfy 20 = .ok (.invokestatic 33, 3) := by decide +kernel
theorem dX4_allSatisfy_23 : decode cX4_allSatisfy 23 = .ok (.ifCond .eq 5, 3) := by decide +kernel
theorem dX4_allSatisfy_26 : decode cX4_allSatisfy 26 = .ok (.iconst 0, 1) := by decide +kernel
theorem dX4_allSatisfy_27 : decode cX4_allSatisfy 27 = .ok (.ireturn, 1) := by decide +kernel
theorem dX4_allSatisfy_28 : decode cX4_allSatisfy 28 = .ok (.iinc 2 1, 3) := by decide +kernel
theorem dX4_allSatisfy_31 : decode cX4_allSatisfy 31 = .ok (.goto (-29), 3) := by decide +kernel
theorem dX4_allSatisfy_34 : decode cX4_allSatisfy 34 = .ok (.iconst 1, 1) := by decide +kernel
theorem dX4_allSatisfy_35 : decode cX4_allSatisfy 35 = .ok (.ireturn, 1) := by decide +kernel
theorem dX4_canSatisfy_0 : decode cX4_canSatisfy 0 = .ok (.iconst 0, 1) := by decide +kernel
theorem dX4_canSatisfy_1 : decode cX4_canSatisfy 1 = .ok (.istore_n 2, 1) := by decide +kernel
theorem dX4_canSatisfy_2 : decode cX4_canSatisfy 2 = .ok (.iload_n 2, 1) := by decide +kernel
theorem dX4_canSatisfy_3 : decode cX4_canSatisfy 3 = .ok (.sipush 256, 3) := by decide +kernel
theorem dX4_canSatisfy_6 : decode cX4_canSatisfy 6 = .ok (.if_icmp .ge 22, 3) := by decide +kernel
theorem dX4_canSatisfy_9 : decode cX4_canSatisfy 9 = .ok (.aload_n 0, 1) := by decide +kernel
theorem dX4_canSatisfy_10 : decode cX4_canSatisfy 10 = .ok (.getfield 9, 3) := by decide +kernel
theorem dX4_canSatisfy_13 : decode cX4_canSatisfy 13 = .ok (.iload_n 2, 1) := by decide +kernel
theorem dX4_canSatisfy_14 : decode cX4_canSatisfy 14 = .ok (.iaload, 1) := by decide +kernel
theorem dX4_canSatisfy_15 : decode cX4_canSatisfy 15 = .ok (.iload_n 1, 1) := by decide +kernel
theorem dX4_canSatisfy_16 : decode cX4_canSatisfy 16 = .ok (.iand, 1) := by decide +kernel
theorem dX4_canSatisfy_17 : decode cX4_canSatisfy 17 = .ok (.ifCond .ne 5, 3) := by decide +kernel
theorem dX4_canSatisfy_20 : decode cX4_canSatisfy 20 = .ok (.iconst 1, 1) := by decide +kernel
theorem dX4_canSatisfy_21 : decode cX4_canSatisfy 21 = .ok (.ireturn, 1) := by decide +kernel
theorem dX4_canSatisfy_22 : decode cX4_canSatisfy 22 = .ok (.iinc 2 1, 3) := by decide +kernel
theorem dX4_canSatisfy_25 : decode cX4_canSatisfy 25 = .ok (.goto (-23), 3) := by decide +kernel
theorem dX4_canSatisfy_28 : decode cX4_canSatisfy 28 = .ok (.iconst 0, 1) := by decide +kernel
theorem dX4_canSatisfy_29 : decode cX4_canSatisfy 29 = .ok (.ireturn, 1) := by decide +kernel
theorem dX5_init_0 : decode cX5_init 0 = .ok (.aload_n 0, 1) := by decide +kernel
theorem dX5_init_1 : decode cX5_init 1 = .ok (.invokespecial 3, 3) := by decide +kernel
theorem dX5_init_4 : decode cX5_init 4 = .ok (.aload_n 0, 1) := by decide +kernel
theorem dX5_init_5 : decode cX5_init 5 = .ok (.new 9, 3) := by decide +kernel
theorem dX5_init_8 : decode cX5_init 8 = .ok (.dup, 1) := by decide +kernel
theorem dX5_init_9 : decode cX5_init 9 = .ok (.invokespecial 11, 3) := by decide +kernel
theorem dX5_init_12 : decode cX5_init 12 = .ok (.putfield 12, 3) := by decide +kernel
theorem dX5_init_15 : decode cX5_init 15 = .ok (.aload_n 0, 1) := by decide +kernel
theorem dX5_init_16 : decode cX5_init 16 = .ok (.bipush 8, 2) := by decide +kernel
theorem dX5_init_18 : decode cX5_init 18 = .ok (.newarray .int, 2) := by decide +kernel
theorem dX5_init_20 : decode cX5_init 20 = .ok (.putfield 18, 3) := by decide +kernel
theorem dX5_init_23 : decode cX5_init 23 = .ok (.aload_n 0, 1) := by decide +kernel
theorem dX5_init_24 : decode cX5_init 24 = .ok (.iconst 0, 1) := by decide +kernel
theorem dX5_init_25 : decode cX5_init 25 = .ok (.putfield 22, 3) := by decide +kernel
theorem dX5_init_28 : decode cX5_init 28 = .ok (.return_, 1) := by decide +kernel
theorem dX5_decisionAt_0 : decode cX5_decisionAt 0 = .ok (.iload_n 1, 1) := by decide +kernel
theorem dX5_decisionAt_1 : decode cX5_decisionAt 1 = .ok (.ifCond .lt 20, 3) := by decide +kernel
theorem dX5_decisionAt_4 : decode cX5_decisionAt 4 = .ok (.iload_n 1, 1) := by decide +kernel
theorem dX5_decisionAt_5 : decode cX5_decisionAt 5 = .ok (.aload_n 0, 1) := by decide +kernel
theorem dX5_decisionAt_6 : decode cX5_decisionAt 6 = .ok (.getfield 22, 3) := by decide +kernel
theorem dX5_decisionAt_9 : decode cX5_decisionAt 9 = .ok (.if_icmp .ge 12, 3) := by decide +kernel
theorem dX5_decisionAt_12 : decode cX5_decisionAt 12 = .ok (.aload_n 0, 1) := by decide +kernel
theorem dX5_decisionAt_13 : decode cX5_decisionAt 13 = .ok (.getfield 18, 3) := by decide +kernel
theorem dX5_decisionAt_16 : decode cX5_decisionAt 16 = .ok (.iload_n 1, 1) := by decide +kernel
theorem dX5_decisionAt_17 : decode cX5_decisionAt 17 = .ok (.iaload, 1) := by decide +kernel
theorem dX5_decisionAt_18 : decode cX5_decisionAt 18 = .ok (.goto 4, 3) := by decide +kernel
theorem dX5_decisionAt_21 : decode cX5_decisionAt 21 = .ok (.iconst 0, 1) := by decide +kernel
theorem dX5_decisionAt_22 : decode cX5_decisionAt 22 = .ok (.ireturn, 1) := by decide +kernel
theorem dX5_addDecision_0 : decode cX5_addDecision 0 = .ok (.aload_n 0, 1) := by decide +kernel
theorem dX5_addDecision_1 : decode cX5_addDecision 1 = .ok (.getfield 22, 3) := by decide +kernel
theorem dX5_addDecision_4 : decode cX5_addDecision 4 = .ok (.bipush 8, 2) := by decide +kernel
theorem dX5_addDecision_6 : decode cX5_addDecision 6 = .ok (.if_icmp .ge 23, 3) := by decide +kernel
theorem dX5_addDecision_9 : decode cX5_addDecision 9 = .ok (.aload_n 0, 1) := by decide +kernel
theorem dX5_addDecision_10 : decode cX5_addDecision 10 = .ok (.getfield 18, 3) := by decide +kernel
theorem dX5_addDecision_13 : decode cX5_addDecision 13 = .ok (.aload_n 0, 1) := by decide +kernel
theorem dX5_addDecision_14 : decode cX5_addDecision 14 = .ok (.getfield 22, 3) := by decide +kernel
theorem dX5_addDecision_17 : decode cX5_addDecision 17 = .ok (.iload_n 1, 1) := by decide +kernel
theorem dX5_addDecision_18 : decode cX5_addDecision 18 = .ok (.iastore, 1) := by decide +kernel
theorem dX5_addDecision_19 : decode cX5_addDecision 19 = .ok (.aload_n 0, 1) := by decide +kernel
theorem dX5_addDecision_20 : decode cX5_addDecision 20 = .ok (.dup, 1) := by decide +kernel
theorem dX5_addDecision_21 : decode cX5_addDecision 21 = .ok (.getfield 22, 3) := by decide +kernel
theorem dX5_addDecision_24 : decode cX5_addDecision 24 = .ok (.iconst 1, 1) := by decide +kernel
theorem dX5_addDecision_25 : decode cX5_addDecision 25 = .ok (.iadd, 1) := by decide +kernel
theorem dX5_addDecision_26 : decode cX5_addDecision 26 = .ok (.putfield 22, 3) := by decide +kernel
theorem dX5_addDecision_29 : decode cX5_addDecision 29 = .ok (.return_, 1) := by decide +kernel
theorem dX5_keepDecisions_0 : decode cX5_keepDecisions 0 = .ok (.aload_n 0, 1) := by decide +kernel
theorem dX5_keepDecisions_1 : decode cX5_keepDecisions 1 = .ok (.iconst 0, 1) := by decide +kernel
theorem dX5_keepDecisions_2 : decode cX5_keepDecisions 2 = .ok (.iload_n 1, 1) := by decide +kernel
theorem dX5_keepDecisions_3 : decode cX5_keepDecisions 3 = .ok (.aload_n 0, 1) := by decide +kernel
theorem dX5_keepDecisions_4 : decode cX5_keepDecisions 4 = .ok (.getfield 22, 3) := by decide +kernel
theorem dX5_keepDecisions_7 : decode cX5_keepDecisions 7 = .ok (.invokestatic 26, 3) := by decide +kernel
theorem dX5_keepDecisions_10 : decode cX5_keepDecisions 10 = .ok (.invokestatic 32, 3) := by decide +kernel
theorem dX5_keepDecisions_13 : decode cX5_keepDecisions 13 = .ok (.putfield 22, 3) := by decide +kernel
theorem dX5_keepDecisions_16 : decode cX5_keepDecisions 16 = .ok (.return_, 1) := by decide +kernel
theorem dX5_copyFrom_0 : decode cX5_copyFrom 0 = .ok (.aload_n 0, 1) := by decide +kernel
theorem dX5_copyFrom_1 : decode cX5_copyFrom 1 = .ok (.getfield 12, 3) := by decide +kernel
theorem dX5_copyFrom_4 : decode cX5_copyFrom 4 = .ok (.aload_n 1, 1) := by decide +kernel
theorem dX5_copyFrom_5 : decode cX5_copyFrom 5 = .ok (.getfield 12, 3) := by decide +kernel
theorem dX5_copyFrom_8 : decode cX5_copyFrom 8 = .ok (.invokevirtual 35, 3) := by decide +kernel
theorem dX5_copyFrom_11 : decode cX5_copyFrom 11 = .ok (.iconst 0, 1) := by decide +kernel
theorem dX5_copyFrom_12 : decode cX5_copyFrom 12 = .ok (.istore_n 2, 1) := by decide +kernel
theorem dX5_copyFrom_13 : decode cX5_copyFrom 13 = .ok (.iload_n 2, 1) := by decide +kernel
theorem dX5_copyFrom_14 : decode cX5_copyFrom 14 = .ok (.aload_n 1, 1) := by decide +kernel
theorem dX5_copyFrom_15 : decode cX5_copyFrom 15 = .ok (.getfield 22, 3) := by decide +kernel
theorem dX5_copyFrom_18 : decode cX5_copyFrom 18 = .ok (.if_icmp .ge 21, 3) := by decide +kernel
theorem dX5_copyFrom_21 : decode cX5_copyFrom 21 = .ok (.aload_n 0, 1) := by decide +kernel
theorem dX5_copyFrom_22 : decode cX5_copyFrom 22 = .ok (.getfield 18, 3) := by decide +kernel
theorem dX5_copyFrom_25 : decode cX5_copyFrom 25 = .ok (.iload_n 2, 1) := by decide +kernel
theorem dX5_copyFrom_26 : decode cX5_copyFrom 26 = .ok (.aload_n 1, 1) := by decide +kernel
theorem dX5_copyFrom_27 : decode cX5_copyFrom 27 = .ok (.getfield 18, 3) := by decide +kernel
theorem dX5_copyFrom_30 : decode cX5_copyFrom 30 = .ok (.iload_n 2, 1) := by decide +kernel
theorem dX5_copyFrom_31 : decode cX5_copyFrom 31 = .ok (.iaload, 1) := by decide +kernel
theorem dX5_copyFrom_32 : decode cX5_copyFrom 32 = .ok (.iastore, 1) := by decide +kernel
theorem dX5_copyFrom_33 : decode cX5_copyFrom 33 = .ok (.iinc 2 1, 3) := by decide +kernel
theorem dX5_copyFrom_36 : decode cX5_copyFrom 36 = .ok (.goto (-23), 3) := by decide +kernel
theorem dX5_copyFrom_39 : decode cX5_copyFrom 39 = .ok (.aload_n 0, 1) := by decide +kernel
theorem dX5_copyFrom_40 : decode cX5_copyFrom 40 = .ok (.aload_n 1, 1) := by decide +kernel
theorem dX5_copyFrom_41 : decode cX5_copyFrom 41 = .ok (.getfield 22, 3) := by decide +kernel
theorem dX5_copyFrom_44 : decode cX5_copyFrom 44 = .ok (.putfield 22, 3) := by decide +kernel
theorem dX5_copyFrom_47 : decode cX5_copyFrom 47 = .ok (.return_, 1) := by decide +kernel
theorem dX6_init_0 : decode cX6_init 0 = .ok (.aload_n 0, 1) := by decide +kernel
theorem dX6_init_1 : decode cX6_init 1 = .ok (.invokespecial 3, 3) := by decide +kernel
theorem dX6_init_4 : decode cX6_init 4 = .ok (.aload_n 0, 1) := by decide +kernel
theorem dX6_init_5 : decode cX6_init 5 = .ok (.bipush 8, 2) := by decide +kernel
theorem dX6_init_7 : decode cX6_init 7 = .ok (.newarray .int, 2) := by decide +kernel
theorem dX6_init_9 : decode cX6_init 9 = .ok (.putfield 9, 3) := by decide +kernel
theorem dX6_init_12 : decode cX6_init 12 = .ok (.aload_n 0, 1) := by decide +kernel
theorem dX6_init_13 : decode cX6_init 13 = .ok (.bipush 8, 2) := by decide +kernel
theorem dX6_init_15 : decode cX6_init 15 = .ok (.newarray .int, 2) := by decide +kernel
theorem dX6_init_17 : decode cX6_init 17 = .ok (.putfield 15, 3) := by decide +kernel
theorem dX6_init_20 : decode cX6_init 20 = .ok (.aload_n 0, 1) := by decide +kernel
theorem dX6_init_21 : decode cX6_init 21 = .ok (.bipush 8, 2) := by decide +kernel
theorem dX6_init_23 : decode cX6_init 23 = .ok (.newarray .int, 2) := by decide +kernel
theorem dX6_init_25 : decode cX6_init 25 = .ok (.putfield 18, 3) := by decide +kernel
theorem dX6_init_28 : decode cX6_init 28 = .ok (.aload_n 0, 1) := by decide +kernel
theorem dX6_init_29 : decode cX6_init 29 = .ok (.iconst 0, 1) := by decide +kernel
theorem dX6_init_30 : decode cX6_init 30 = .ok (.putfield 21, 3) := by decide +kernel
theorem dX6_init_33 : decode cX6_init 33 = .ok (.aload_n 0, 1) := by decide +kernel
theorem dX6_init_34 : decode cX6_init 34 = .ok (.iconst 0, 1) := by decide +kernel
theorem dX6_init_35 : decode cX6_init 35 = .ok (.putfield 25, 3) := by decide +kernel
theorem dX6_init_38 : decode cX6_init 38 = .ok (.aload_n 0, 1) := by decide +kernel
theorem dX6_init_39 : decode cX6_init 39 = .ok (.iconst 0, 1) := by decide +kernel
theorem dX6_init_40 : decode cX6_init 40 = .ok (.putfield 28, 3) := by decide +kernel
theorem dX6_init_43 : decode cX6_init 43 = .ok (.aload_n 0, 1) := by decide +kernel
theorem dX6_init_44 : decode cX6_init 44 = .ok (.iconst 0, 1) := by decide +kernel
theorem dX6_init_45 : decode cX6_init 45 = .ok (.putfield 31, 3) := by decide +kernel
theorem dX6_init_48 : decode cX6_init 48 = .ok (.aload_n 0, 1) := by decide +kernel
theorem dX6_init_49 : decode cX6_init 49 = .ok (.iconst 0, 1) := by decide +kernel
theorem dX6_init_50 : decode cX6_init 50 = .ok (.putfield 34, 3) := by decide +kernel
theorem dX6_init_53 : decode cX6_init 53 = .ok (.aload_n 0, 1) := by decide +kernel
theorem dX6_init_54 : decode cX6_init 54 = .ok (.bipush (-9), 2) := by decide +kernel
theorem dX6_init_56 : decode cX6_init 56 = .ok (.putfield 37, 3) := by decide +kernel
theorem dX6_init_59 : decode cX6_init 59 = .ok (.return_, 1) := by decide +kernel
theorem dX6_build_0 : decode cX6_build 0 = .ok (.aload_n 0, 1) := by decide +kernel
theorem dX6_build_1 : decode cX6_build 1 = .ok (.iconst 0, 1) := by decide +kernel
theorem dX6_build_2 : decode cX6_build 2 = .ok (.putfield 21, 3) := by decide +kernel
theorem dX6_build_5 : decode cX6_build 5 = .ok (.aload_n 0, 1) := by decide +kernel
theorem dX6_build_6 : decode cX6_build 6 = .ok (.iconst 0, 1) := by decide +kernel
theorem dX6_build_7 : decode cX6_build 7 = .ok (.putfield 25, 3) := by decide +kernel
theorem dX6_build_10 : decode cX6_build 10 = .ok (.aload_n 0, 1) := by decide +kernel
theorem dX6_build_11 : decode cX6_build 11 = .ok (.iconst 0, 1) := by decide +kernel
theorem dX6_build_12 : decode cX6_build 12 = .ok (.putfield 28, 3) := by decide +kernel
theorem dX6_build_15 : decode cX6_build 15 = .ok (.aload_n 0, 1) := by decide +kernel
theorem dX6_build_16 : decode cX6_build 16 = .ok (.iconst 0, 1) := by decide +kernel
theorem dX6_build_17 : decode cX6_build 17 = .ok (.putfield 31, 3) := by decide +kernel
theorem dX6_build_20 : decode cX6_build 20 = .ok (.aload_n 0, 1) := by decide +kernel
theorem dX6_build_21 : decode cX6_build 21 = .ok (.iconst 0, 1) := by decide +kernel
theorem dX6_build_22 : decode cX6_build 22 = .ok (.putfield 34, 3) := by decide +kernel
theorem dX6_build_25 : decode cX6_build 25 = .ok (.aload_n 0, 1) := by decide +kernel
theorem dX6_build_26 : decode cX6_build 26 = .ok (.bipush (-9), 2) := by decide +kernel
theorem dX6_build_28 : decode cX6_build 28 = .ok (.putfield 37, 3) := by decide +kernel
theorem dX6_build_31 : decode cX6_build 31 = .ok (.aload_n 0, 1) := by decide +kernel
theorem dX6_build_32 : decode cX6_build 32 = .ok (.aload_n 1, 1) := by decide +kernel
theorem dX6_build_33 : decode cX6_build 33 = .ok (.getfield 40, 3) := by decide +kernel
theorem dX6_build_36 : decode cX6_build 36 = .ok (.invokevirtual 46, 3) := by decide +kernel
theorem dX6_build_39 : decode cX6_build 39 = .ok (.aload_n 1, 1) := by decide +kernel
theorem dX6_build_40 : decode cX6_build 40 = .ok (.getfield 50, 3) := by decide +kernel
theorem dX6_build_43 : decode cX6_build 43 = .ok (.istore_n 2, 1) := by decide +kernel
theorem dX6_build_44 : decode cX6_build 44 = .ok (.iconst 0, 1) := by decide +kernel
theorem dX6_build_45 : decode cX6_build 45 = .ok (.istore_n 3, 1) := by decide +kernel
theorem dX6_build_46 : decode cX6_build 46 = .ok (.iload_n 3, 1) := by decide +kernel
theorem dX6_build_47 : decode cX6_build 47 = .ok (.iload_n 2, 1) := by decide +kernel
theorem dX6_build_48 : decode cX6_build 48 = .ok (.if_icmp .ge 38, 3) := by decide +kernel
theorem dX6_build_51 : decode cX6_build 51 = .ok (.aload_n 0, 1) := by decide +kernel
theorem dX6_build_52 : decode cX6_build 52 = .ok (.aload_n 1, 1) := by decide +kernel
theorem dX6_build_53 : decode cX6_build 53 = .ok (.iload_n 3, 1) := by decide +kernel
theorem dX6_build_54 : decode cX6_build 54 = .ok (.invokevirtual 53, 3) := by decide +kernel
theorem dX6_build_57 : decode cX6_build 57 = .ok (.invokevirtual 57, 3) := by decide +kernel
theorem dX6_build_60 : decode cX6_build 60 = .ok (.ifCond .eq 26, 3) := by decide +kernel
theorem dX6_build_63 : decode cX6_build 63 = .ok (.aload_n 0, 1) := by decide +kernel
theorem dX6_build_64 : decode cX6_build 64 = .ok (.aload_n 1, 1) := by decide +kernel
theorem dX6_build_65 : decode cX6_build 65 = .ok (.iload_n 3, 1) := by decide +kernel
theorem dX6_build_66 : decode cX6_build 66 = .ok (.invokevirtual 53, 3) := by decide +kernel
theorem dX6_build_69 : decode cX6_build 69 = .ok (.invokevirtual 61, 3) := by decide +kernel
theorem dX6_build_72 : decode cX6_build 72 = .ok (.aload_n 0, 1) := by decide +kernel
theorem dX6_build_73 : decode cX6_build 73 = .ok (.aload_n 1, 1) := by decide +kernel
theorem dX6_build_74 : decode cX6_build 74 = .ok (.getfield 40, 3) := by decide +kernel
theorem dX6_build_77 : decode cX6_build 77 = .ok (.invokevirtual 46, 3) := by decide +kernel
theorem dX6_build_80 : decode cX6_build 80 = .ok (.iinc 3 1, 3) := by decide +kernel
theorem dX6_build_83 : decode cX6_build 83 = .ok (.goto (-37), 3) := by decide +kernel
theorem dX6_build_86 : decode cX6_build 86 = .ok (.aload_n 1, 1) := by decide +kernel
theorem dX6_build_87 : decode cX6_build 87 = .ok (.aload_n 0, 1) := by decide +kernel
theorem dX6_build_88 : decode cX6_build 88 = .ok (.getfield 31, 3) := by decide +kernel
theorem dX6_build_91 : decode cX6_build 91 = .ok (.invokevirtual 65, 3) := by decide +kernel
theorem dX6_build_94 : decode cX6_build 94 = .ok (.return_, 1) := by decide +kernel
theorem dX6_allows_0 : decode cX6_allows 0 = .ok (.aload_n 0, 1) := by decide +kernel
theorem dX6_allows_1 : decode cX6_allows 1 = .ok (.getfield 37, 3) := by decide +kernel
theorem dX6_allows_4 : decode cX6_allows 4 = .ok (.bipush (-9), 2) := by decide +kernel
theorem dX6_allows_6 : decode cX6_allows 6 = .ok (.if_icmp .ne 18, 3) := by decide +kernel
theorem dX6_allows_9 : decode cX6_allows 9 = .ok (.aload_n 0, 1) := by decide +kernel
theorem dX6_allows_10 : decode cX6_allows 10 = .ok (.iload_n 1, 1) := by decide +kernel
theorem dX6_allows_11 : decode cX6_allows 11 = .ok (.invokestatic 68, 3) := by decide +kernel
theorem dX6_allows_14 : decode cX6_allows 14 = .ok (.invokevirtual 71, 3) := by decide +kernel
theorem dX6_allows_17 : decode cX6_allows 17 = .ok (.ifCond .ne 7, 3) := by decide +kernel
theorem dX6_allows_20 : decode cX6_allows 20 = .ok (.iconst 1, 1) := by decide +kernel
theorem dX6_allows_21 : decode cX6_allows 21 = .ok (.goto 4, 3) := by decide +kernel
theorem dX6_allows_24 : decode cX6_allows 24 = .ok (.iconst 0, 1) := by decide +kernel
theorem dX6_allows_25 : decode cX6_allows 25 = .ok (.ireturn, 1) := by decide +kernel
theorem dX6_startLevel_0 : decode cX6_startLevel 0 = .ok (.aload_n 0, 1) := by decide +kernel
theorem dX6_startLevel_1 : decode cX6_startLevel 1 = .ok (.aload_n 0, 1) := by decide +kernel
theorem dX6_startLevel_2 : decode cX6_startLevel 2 = .ok (.getfield 25, 3) := by decide +kernel
theorem dX6_startLevel_5 : decode cX6_startLevel 5 = .ok (.putfield 34, 3) := by decide +kernel
theorem dX6_startLevel_8 : decode cX6_startLevel 8 = .ok (.aload_n 0, 1) := by decide +kernel
theorem dX6_startLevel_9 : decode cX6_startLevel 9 = .ok (.dup, 1) := by decide +kernel
theorem dX6_startLevel_10 : decode cX6_startLevel 10 = .ok (.getfield 31, 3) := by decide +kernel
theorem dX6_startLevel_13 : decode cX6_startLevel 13 = .ok (.iconst 1, 1) := by decide +kernel
theorem dX6_startLevel_14 : decode cX6_startLevel 14 = .ok (.iadd, 1) := by decide +kernel
theorem dX6_startLevel_15 : decode cX6_startLevel 15 = .ok (.putfield 31, 3) := by decide +kernel
theorem dX6_startLevel_18 : decode cX6_startLevel 18 = .ok (.iload_n 1, 1) := by decide +kernel
theorem dX6_startLevel_19 : decode cX6_startLevel 19 = .ok (.invokestatic 68, 3) := by decide +kernel
theorem dX6_startLevel_22 : decode cX6_startLevel 22 = .ok (.istore_n 2, 1) := by decide +kernel
theorem dX6_startLevel_23 : decode cX6_startLevel 23 = .ok (.aload_n 0, 1) := by decide +kernel
theorem dX6_startLevel_24 : decode cX6_startLevel 24 = .ok (.iload_n 2, 1) := by decide +kernel
theorem dX6_startLevel_25 : decode cX6_startLevel 25 = .ok (.iload_n 1, 1) := by decide +kernel
theorem dX6_startLevel_26 : decode cX6_startLevel 26 = .ok (.iload_n 2, 1) := by decide +kernel
theorem dX6_startLevel_27 : decode cX6_startLevel 27 = .ok (.iconst 1, 1) := by decide +kernel
theorem dX6_startLevel_28 : decode cX6_startLevel 28 = .ok (.invokestatic 74, 3) := by decide +kernel
theorem dX6_startLevel_31 : decode cX6_startLevel 31 = .ok (.if_icmp .ne 7, 3) := by decide +kernel
theorem dX6_startLevel_34 : decode cX6_startLevel 34 = .ok (.iconst 1, 1) := by decide +kernel
theorem dX6_startLevel_35 : decode cX6_startLevel 35 = .ok (.goto 4, 3) := by decide +kernel
theorem dX6_startLevel_38 : decode cX6_startLevel 38 = .ok (.iconst 0, 1) := by decide +kernel
theorem dX6_startLevel_39 : decode cX6_startLevel 39 = .ok (.bipush (-9), 2) := by decide +kernel
theorem dX6_startLevel_41 : decode cX6_startLevel 41 = .ok (.invokevirtual 78, 3) := by decide +kernel
theorem dX6_startLevel_44 : decode cX6_startLevel 44 = .ok (.return_, 1) := by decide +kernel
theorem dX6_propagate_0 : decode cX6_propagate 0 = .ok (.iconst 0, 1) := by decide +kernel
theorem dX6_propagate_1 : decode cX6_propagate 1 = .ok (.istore_n 2, 1) := by decide +kernel
theorem dX6_propagate_2 : decode cX6_propagate 2 = .ok (.iload_n 2, 1) := by decide +kernel
theorem dX6_propagate_3 : decode cX6_propagate 3 = .ok (.bipush 8, 2) := by decide +kernel
theorem dX6_propagate_5 : decode cX6_propagate 5 = .ok (.if_icmp .gt 91, 3) := by decide +kernel
theorem dX6_propagate_8 : decode cX6_propagate 8 = .ok (.aload_n 0, 1) := by decide +kernel
theorem dX6_propagate_9 : decode cX6_propagate 9 = .ok (.getfield 37, 3) := by decide +kernel
theorem dX6_propagate_12 : decode cX6_propagate 12 = .ok (.bipush (-9), 2) := by decide +kernel
theorem dX6_propagate_14 : decode cX6_propagate 14 = .ok (.if_icmp .ne 82, 3) := by decide +kernel
theorem dX6_propagate_17 : decode cX6_propagate 17 = .ok (.aload_n 1, 1) := by decide +kernel
theorem dX6_propagate_18 : decode cX6_propagate 18 = .ok (.aload_n 0, 1) := by decide +kernel
theorem dX6_propagate_19 : decode cX6_propagate 19 = .ok (.getfield 25, 3) := by decide +kernel
theorem dX6_propagate_22 : decode cX6_propagate 22 = .ok (.aload_n 0, 1) := by decide +kernel
theorem dX6_propagate_23 : decode cX6_propagate 23 = .ok (.getfield 28, 3) := by decide +kernel
theorem dX6_propagate_26 : decode cX6_propagate 26 = .ok (.invokevirtual 82, 3) := by decide +kernel
theorem dX6_propagate_29 : decode cX6_propagate 29 = .ok (.istore_n 3, 1) := by decide +kernel
theorem dX6_propagate_30 : decode cX6_propagate 30 = .ok (.iload_n 3, 1) := by decide +kernel
theorem dX6_propagate_31 : decode cX6_propagate 31 = .ok (.bipush (-9), 2) := by decide +kernel
theorem dX6_propagate_33 : decode cX6_propagate 33 = .ok (.if_icmp .ne 4, 3) := by decide +kernel
theorem dX6_propagate_36 : decode cX6_propagate 36 = .ok (.return_, 1) := by decide +kernel
theorem dX6_propagate_37 : decode cX6_propagate 37 = .ok (.aload_n 1, 1) := by decide +kernel
theorem dX6_propagate_38 : decode cX6_propagate 38 = .ok (.iload_n 3, 1) := by decide +kernel
theorem dX6_propagate_39 : decode cX6_propagate 39 = .ok (.invokevirtual 88, 3) := by decide +kernel
theorem dX6_propagate_42 : decode cX6_propagate 42 = .ok (.istore 4, 2) := by decide +kernel
theorem dX6_propagate_44 : decode cX6_propagate 44 = .ok (.iload 4, 2) := by decide +kernel
theorem dX6_propagate_46 : decode cX6_propagate 46 = .ok (.invokestatic 91, 3) := by decide +kernel
theorem dX6_propagate_49 : decode cX6_propagate 49 = .ok (.aload_n 0, 1) := by decide +kernel
theorem dX6_propagate_50 : decode cX6_propagate 50 = .ok (.getfield 25, 3) := by decide +kernel
theorem dX6_propagate_53 : decode cX6_propagate 53 = .ok (.iconst (-1), 1) := by decide +kernel
theorem dX6_propagate_54 : decode cX6_propagate 54 = .ok (.ixor, 1) := by decide +kernel
theorem dX6_propagate_55 : decode cX6_propagate 55 = .ok (.iand, 1) := by decide +kernel
theorem dX6_propagate_56 : decode cX6_propagate 56 = .ok (.istore 5, 2) := by decide +kernel
theorem dX6_propagate_58 : decode cX6_propagate 58 = .ok (.iload 5, 2) := by decide +kernel
theorem dX6_propagate_60 : decode cX6_propagate 60 = .ok (.ifCond .ne 11, 3) := by decide +kernel
theorem dX6_propagate_63 : decode cX6_propagate 63 = .ok (.aload_n 0, 1) := by decide +kernel
theorem dX6_propagate_64 : decode cX6_propagate 64 = .ok (.iload_n 3, 1) := by decide +kernel
theorem dX6_propagate_65 : decode cX6_propagate 65 = .ok (.putfield 37, 3) := by decide +kernel
theorem dX6_propagate_68 : decode cX6_propagate 68 = .ok (.goto 22, 3) := by decide +kernel
theorem dX6_propagate_71 : decode cX6_propagate 71 = .ok (.aload_n 0, 1) := by decide +kernel
theorem dX6_propagate_72 : decode cX6_propagate 72 = .ok (.iload 5, 2) := by decide +kernel
theorem dX6_propagate_74 : decode cX6_propagate 74 = .ok (.invokestatic 94, 3) := by decide +kernel
theorem dX6_propagate_77 : decode cX6_propagate 77 = .ok (.iload 4, 2) := by decide +kernel
theorem dX6_propagate_79 : decode cX6_propagate 79 = .ok (.aload_n 0, 1) := by decide +kernel
theorem dX6_propagate_80 : decode cX6_propagate 80 = .ok (.getfield 28, 3) := by decide +kernel
theorem dX6_propagate_83 : decode cX6_propagate 83 = .ok (.invokestatic 97, 3) := by decide +kernel
theorem dX6_propagate_86 : decode cX6_propagate 86 = .ok (.iload_n 3, 1) := by decide +kernel
theorem dX6_propagate_87 : decode cX6_propagate 87 = .ok (.invokevirtual 78, 3) := by decide +kernel
theorem dX6_propagate_90 : decode cX6_propagate 90 = .ok (.iinc 2 1, 3) := by decide +kernel
theorem dX6_propagate_93 : decode cX6_propagate 93 = .ok (.goto (-91), 3) := by decide +kernel
theorem dX6_propagate_96 : decode cX6_propagate 96 = .ok (.return_, 1) := by decide +kernel
theorem dX6_assign_0 : decode cX6_assign 0 = .ok (.iload_n 1, 1) := by decide +kernel
theorem dX6_assign_1 : decode cX6_assign 1 = .ok (.invokestatic 101, 3) := by decide +kernel
theorem dX6_assign_4 : decode cX6_assign 4 = .ok (.ifCond .eq 12, 3) := by decide +kernel
theorem dX6_assign_7 : decode cX6_assign 7 = .ok (.aload_n 0, 1) := by decide +kernel
theorem dX6_assign_8 : decode cX6_assign 8 = .ok (.getfield 21, 3) := by decide +kernel
theorem dX6_assign_11 : decode cX6_assign 11 = .ok (.bipush 8, 2) := by decide +kernel
theorem dX6_assign_13 : decode cX6_assign 13 = .ok (.if_icmp .lt 4, 3) := by decide +kernel
theorem dX6_assign_16 : decode cX6_assign 16 = .ok (.return_, 1) := by decide +kernel
theorem dX6_assign_17 : decode cX6_assign 17 = .ok (.aload_n 0, 1) := by decide +kernel
theorem dX6_assign_18 : decode cX6_assign 18 = .ok (.getfield 9, 3) := by decide +kernel
theorem dX6_assign_21 : decode cX6_assign 21 = .ok (.aload_n 0, 1) := by decide +kernel
theorem dX6_assign_22 : decode cX6_assign 22 = .ok (.getfield 21, 3) := by decide +kernel
theorem dX6_assign_25 : decode cX6_assign 25 = .ok (.iload_n 1, 1) := by decide +kernel
theorem dX6_assign_26 : decode cX6_assign 26 = .ok (.iastore, 1) := by decide +kernel
theorem dX6_assign_27 : decode cX6_assign 27 = .ok (.aload_n 0, 1) := by decide +kernel
theorem dX6_assign_28 : decode cX6_assign 28 = .ok (.dup, 1) := by decide +kernel
theorem dX6_assign_29 : decode cX6_assign 29 = .ok (.getfield 21, 3) := by decide +kernel
theorem dX6_assign_32 : decode cX6_assign 32 = .ok (.iconst 1, 1) := by decide +kernel
theorem dX6_assign_33 : decode cX6_assign 33 = .ok (.iadd, 1) := by decide +kernel
theorem dX6_assign_34 : decode cX6_assign 34 = .ok (.putfield 21, 3) := by decide +kernel
theorem dX6_assign_37 : decode cX6_assign 37 = .ok (.aload_n 0, 1) := by decide +kernel
theorem dX6_assign_38 : decode cX6_assign 38 = .ok (.getfield 15, 3) := by decide +kernel
theorem dX6_assign_41 : decode cX6_assign 41 = .ok (.iload_n 1, 1) := by decide +kernel
theorem dX6_assign_42 : decode cX6_assign 42 = .ok (.aload_n 0, 1) := by decide +kernel
theorem dX6_assign_43 : decode cX6_assign 43 = .ok (.getfield 31, 3) := by decide +kernel
theorem dX6_assign_46 : decode cX6_assign 46 = .ok (.iastore, 1) := by decide +kernel
theorem dX6_assign_47 : decode cX6_assign 47 = .ok (.aload_n 0, 1) := by decide +kernel
theorem dX6_assign_48 : decode cX6_assign 48 = .ok (.getfield 18, 3) := by decide +kernel
theorem dX6_assign_51 : decode cX6_assign 51 = .ok (.iload_n 1, 1) := by decide +kernel
theorem dX6_assign_52 : decode cX6_assign 52 = .ok (.iload_n 3, 1) := by decide +kernel
theorem dX6_assign_53 : decode cX6_assign 53 = .ok (.iastore, 1) := by decide +kernel
theorem dX6_assign_54 : decode cX6_assign 54 = .ok (.aload_n 0, 1) := by decide +kernel
theorem dX6_assign_55 : decode cX6_assign 55 = .ok (.dup, 1) := by decide +kernel
theorem dX6_assign_56 : decode cX6_assign 56 = .ok (.getfield 25, 3) := by decide +kernel
theorem dX6_assign_59 : decode cX6_assign 59 = .ok (.iconst 1, 1) := by decide +kernel
theorem dX6_assign_60 : decode cX6_assign 60 = .ok (.iload_n 1, 1) := by decide +kernel
theorem dX6_assign_61 : decode cX6_assign 61 = .ok (.ishl, 1) := by decide +kernel
theorem dX6_assign_62 : decode cX6_assign 62 = .ok (.ior, 1) := by decide +kernel
theorem dX6_assign_63 : decode cX6_assign 63 = .ok (.putfield 25, 3) := by decide +kernel
theorem dX6_assign_66 : decode cX6_assign 66 = .ok (.iload_n 2, 1) := by decide +kernel
theorem dX6_assign_67 : decode cX6_assign 67 = .ok (.ifCond .eq 15, 3) := by decide +kernel
theorem dX6_assign_70 : decode cX6_assign 70 = .ok (.aload_n 0, 1) := by decide +kernel
theorem dX6_assign_71 : decode cX6_assign 71 = .ok (.dup, 1) := by decide +kernel
theorem dX6_assign_72 : decode cX6_assign 72 = .ok (.getfield 28, 3) := by decide +kernel
theorem dX6_assign_75 : decode cX6_assign 75 = .ok (.iconst 1, 1) := by decide +kernel
theorem dX6_assign_76 : decode cX6_assign 76 = .ok (.iload_n 1, 1) := by decide +kernel
theorem dX6_assign_77 : decode cX6_assign 77 = .ok (.ishl, 1) := by decide +kernel
theorem dX6_assign_78 : decode cX6_assign 78 = .ok (.ior, 1) := by decide +kernel
theorem dX6_assign_79 : decode cX6_assign 79 = .ok (.putfield 28, 3) := by decide +kernel
theorem dX6_assign_82 : decode cX6_assign 82 = .ok (.return_, 1) := by decide +kernel
theorem dX6_isAssigned_0 : decode cX6_isAssigned 0 = .ok (.aload_n 0, 1) := by decide +kernel
theorem dX6_isAssigned_1 : decode cX6_isAssigned 1 = .ok (.getfield 25, 3) := by decide +kernel
theorem dX6_isAssigned_4 : decode cX6_isAssigned 4 = .ok (.iload_n 1, 1) := by decide +kernel
theorem dX6_isAssigned_5 : decode cX6_isAssigned 5 = .ok (.invokestatic 104, 3) := by decide +kernel
theorem dX6_isAssigned_8 : decode cX6_isAssigned 8 = .ok (.ireturn, 1) := by decide +kernel
theorem dX6_isTrue_0 : decode cX6_isTrue 0 = .ok (.aload_n 0, 1) := by decide +kernel
theorem dX6_isTrue_1 : decode cX6_isTrue 1 = .ok (.getfield 28, 3) := by decide +kernel
theorem dX6_isTrue_4 : decode cX6_isTrue 4 = .ok (.iload_n 1, 1) := by decide +kernel
theorem dX6_isTrue_5 : decode cX6_isTrue 5 = .ok (.invokestatic 104, 3) := by decide +kernel
theorem dX6_isTrue_8 : decode cX6_isTrue 8 = .ok (.ireturn, 1) := by decide +kernel
theorem dX6_literalAt_0 : decode cX6_literalAt 0 = .ok (.iload_n 1, 1) := by decide +kernel
theorem dX6_literalAt_1 : decode cX6_literalAt 1 = .ok (.ifCond .lt 11, 3) := by decide +kernel
theorem dX6_literalAt_4 : decode cX6_literalAt 4 = .ok (.iload_n 1, 1) := by decide +kernel
theorem dX6_literalAt_5 : decode cX6_literalAt 5 = .ok (.aload_n 0, 1) := by decide +kernel
theorem dX6_literalAt_6 : decode cX6_literalAt 6 = .ok (.getfield 21, 3) := by decide +kernel
theorem dX6_literalAt_9 : decode cX6_literalAt 9 = .ok (.if_icmp .lt 6, 3) := by decide +kernel
theorem dX6_literalAt_12 : decode cX6_literalAt 12 = .ok (.bipush (-9), 2) := by decide +kernel
theorem dX6_literalAt_14 : decode cX6_literalAt 14 = .ok (.ireturn, 1) := by decide +kernel
theorem dX6_literalAt_15 : decode cX6_literalAt 15 = .ok (.aload_n 0, 1) := by decide +kernel
theorem dX6_literalAt_16 : decode cX6_literalAt 16 = .ok (.getfield 9, 3) := by decide +kernel
theorem dX6_literalAt_19 : decode cX6_literalAt 19 = .ok (.iload_n 1, 1) := by decide +kernel
theorem dX6_literalAt_20 : decode cX6_literalAt 20 = .ok (.iaload, 1) := by decide +kernel
theorem dX6_literalAt_21 : decode cX6_literalAt 21 = .ok (.aload_n 0, 1) := by decide +kernel
theorem dX6_literalAt_22 : decode cX6_literalAt 22 = .ok (.aload_n 0, 1) := by decide +kernel
theorem dX6_literalAt_23 : decode cX6_literalAt 23 = .ok (.getfield 9, 3) := by decide +kernel
theorem dX6_literalAt_26 : decode cX6_literalAt 26 = .ok (.iload_n 1, 1) := by decide +kernel
theorem dX6_literalAt_27 : decode cX6_literalAt 27 = .ok (.iaload, 1) := by decide +kernel
theorem dX6_literalAt_28 : decode cX6_literalAt 28 = .ok (.invokevirtual 107, 3) := by decide +kernel
theorem dX6_literalAt_31 : decode cX6_literalAt 31 = .ok (.invokestatic 74, 3) := by decide +kernel
theorem dX6_literalAt_34 : decode cX6_literalAt 34 = .ok (.ireturn, 1) := by decide +kernel
theorem dX6_reasonOf_0 : decode cX6_reasonOf 0 = .ok (.iload_n 1, 1) := by decide +kernel
theorem dX6_reasonOf_1 : decode cX6_reasonOf 1 = .ok (.invokestatic 101, 3) := by decide +kernel
theorem dX6_reasonOf_4 : decode cX6_reasonOf 4 = .ok (.ifCond .eq 20, 3) := by decide +kernel
theorem dX6_reasonOf_7 : decode cX6_reasonOf 7 = .ok (.aload_n 0, 1) := by decide +kernel
theorem dX6_reasonOf_8 : decode cX6_reasonOf 8 = .ok (.iload_n 1, 1) := by decide +kernel
theorem dX6_reasonOf_9 : decode cX6_reasonOf 9 = .ok (.invokevirtual 71, 3) := by decide +kernel
theorem dX6_reasonOf_12 : decode cX6_reasonOf 12 = .ok (.ifCond .eq 12, 3) := by decide +kernel
theorem dX6_reasonOf_15 : decode cX6_reasonOf 15 = .ok (.aload_n 0, 1) := by decide +kernel
theorem dX6_reasonOf_16 : decode cX6_reasonOf 16 = .ok (.getfield 18, 3) := by decide +kernel
theorem dX6_reasonOf_19 : decode cX6_reasonOf 19 = .ok (.iload_n 1, 1) := by decide +kernel
theorem dX6_reasonOf_20 : decode cX6_reasonOf 20 = .ok (.iaload, 1) := by decide +kernel
theorem dX6_reasonOf_21 : decode cX6_reasonOf 21 = .ok (.goto 5, 3) := by decide +kernel
theorem dX6_reasonOf_24 : decode cX6_reasonOf 24 = .ok (.bipush (-9), 2) := by decide +kernel
theorem dX6_reasonOf_26 : decode cX6_reasonOf 26 = .ok (.ireturn, 1) := by decide +kernel
theorem dX6_learnedVariables_0 : decode cX6_learnedVariables 0 = .ok (.aload_n 0, 1) := by decide +kernel
theorem dX6_learnedVariables_1 : decode cX6_learnedVariables 1 = .ok (.getfield 25, 3) := by decide +kernel
theorem dX6_learnedVariables_4 : decode cX6_learnedVariables 4 = .ok (.aload_n 0, 1) := by decide +kernel
theorem dX6_learnedVariables_5 : decode cX6_learnedVariables 5 = .ok (.getfield 34, 3) := by decide +kernel
theorem dX6_learnedVariables_8 : decode cX6_learnedVariables 8 = .ok (.iconst (-1), 1) := by decide +kernel
theorem dX6_learnedVariables_9 : decode cX6_learnedVariables 9 = .ok (.ixor, 1) := by decide +kernel
theorem dX6_learnedVariables_10 : decode cX6_learnedVariables 10 = .ok (.iand, 1) := by decide +kernel
theorem dX6_learnedVariables_11 : decode cX6_learnedVariables 11 = .ok (.istore_n 2, 1) := by decide +kernel
theorem dX6_learnedVariables_12 : decode cX6_learnedVariables 12 = .ok (.aload_n 1, 1) := by decide +kernel
theorem dX6_learnedVariables_13 : decode cX6_learnedVariables 13 = .ok (.aload_n 0, 1) := by decide +kernel
theorem dX6_learnedVariables_14 : decode cX6_learnedVariables 14 = .ok (.getfield 37, 3) := by decide +kernel
theorem dX6_learnedVariables_17 : decode cX6_learnedVariables 17 = .ok (.invokevirtual 88, 3) := by decide +kernel
theorem dX6_learnedVariables_20 : decode cX6_learnedVariables 20 = .ok (.invokestatic 91, 3) := by decide +kernel
theorem dX6_learnedVariables_23 : decode cX6_learnedVariables 23 = .ok (.istore_n 3, 1) := by decide +kernel
theorem dX6_learnedVariables_24 : decode cX6_learnedVariables 24 = .ok (.aload_n 0, 1) := by decide +kernel
theorem dX6_learnedVariables_25 : decode cX6_learnedVariables 25 = .ok (.getfield 21, 3) := by decide +kernel
theorem dX6_learnedVariables_28 : decode cX6_learnedVariables 28 = .ok (.iconst 1, 1) := by decide +kernel
theorem dX6_learnedVariables_29 : decode cX6_learnedVariables 29 = .ok (.isub, 1) := by decide +kernel
theorem dX6_learnedVariables_30 : decode cX6_learnedVariables 30 = .ok (.istore 4, 2) := by decide +kernel
theorem dX6_learnedVariables_32 : decode cX6_learnedVariables 32 = .ok (.iload 4, 2) := by decide +kernel
theorem dX6_learnedVariables_34 : decode cX6_learnedVariables 34 = .ok (.ifCond .lt 64, 3) := by decide +kernel
theorem dX6_learnedVariables_37 : decode cX6_learnedVariables 37 = .ok (.iload_n 3, 1) := by decide +kernel
theorem dX6_learnedVariables_38 : decode cX6_learnedVariables 38 = .ok (.iload_n 2, 1) := by decide +kernel
theorem dX6_learnedVariables_39 : decode cX6_learnedVariables 39 = .ok (.iand, 1) := by decide +kernel
theorem dX6_learnedVariables_40 : decode cX6_learnedVariables 40 = .ok (.invokestatic 110, 3) := by decide +kernel
theorem dX6_learnedVariables_43 : decode cX6_learnedVariables 43 = .ok (.iconst 1, 1) := by decide +kernel
theorem dX6_learnedVariables_44 : decode cX6_learnedVariables 44 = .ok (.if_icmp .le 54, 3) := by decide +kernel
theorem dX6_learnedVariables_47 : decode cX6_learnedVariables 47 = .ok (.aload_n 0, 1) := by decide +kernel
theorem dX6_learnedVariables_48 : decode cX6_learnedVariables 48 = .ok (.getfield 9, 3) := by decide +kernel
theorem dX6_learnedVariables_51 : decode cX6_learnedVariables 51 = .ok (.iload 4, 2) := by decide +kernel
theorem dX6_learnedVariables_53 : decode cX6_learnedVariables 53 = .ok (.iaload, 1) := by decide +kernel
theorem dX6_learnedVariables_54 : decode cX6_learnedVariables 54 = .ok (.istore 5, 2) := by decide +kernel
theorem dX6_learnedVariables_56 : decode cX6_learnedVariables 56 = .ok (.iload_n 3, 1) := by decide +kernel
theorem dX6_learnedVariables_57 : decode cX6_learnedVariables 57 = .ok (.iload 5, 2) := by decide +kernel
theorem dX6_learnedVariables_59 : decode cX6_learnedVariables 59 = .ok (.invokestatic 104, 3) := by decide +kernel
theorem dX6_learnedVariables_62 : decode cX6_learnedVariables 62 = .ok (.ifCond .eq 30, 3) := by decide +kernel
theorem dX6_learnedVariables_65 : decode cX6_learnedVariables 65 = .ok (.aload_n 1, 1) := by decide +kernel
theorem dX6_learnedVariables_66 : decode cX6_learnedVariables 66 = .ok (.aload_n 0, 1) := by decide +kernel
theorem dX6_learnedVariables_67 : decode cX6_learnedVariables 67 = .ok (.iload 5, 2) := by decide +kernel
theorem dX6_learnedVariables_69 : decode cX6_learnedVariables 69 = .ok (.invokevirtual 115, 3) := by decide +kernel
theorem dX6_learnedVariables_72 : decode cX6_learnedVariables 72 = .ok (.invokevirtual 88, 3) := by decide +kernel
theorem dX6_learnedVariables_75 : decode cX6_learnedVariables 75 = .ok (.invokestatic 91, 3) := by decide +kernel
theorem dX6_learnedVariables_78 : decode cX6_learnedVariables 78 = .ok (.istore 6, 2) := by decide +kernel
theorem dX6_learnedVariables_80 : decode cX6_learnedVariables 80 = .ok (.iload_n 3, 1) := by decide +kernel
theorem dX6_learnedVariables_81 : decode cX6_learnedVariables 81 = .ok (.iload 6, 2) := by decide +kernel
theorem dX6_learnedVariables_83 : decode cX6_learnedVariables 83 = .ok (.ior, 1) := by decide +kernel
theorem dX6_learnedVariables_84 : decode cX6_learnedVariables 84 = .ok (.iconst 1, 1) := by decide +kernel
theorem dX6_learnedVariables_85 : decode cX6_learnedVariables 85 = .ok (.iload 5, 2) := by decide +kernel
theorem dX6_learnedVariables_87 : decode cX6_learnedVariables 87 = .ok (.ishl, 1) := by decide +kernel
theorem dX6_learnedVariables_88 : decode cX6_learnedVariables 88 = .ok (.iconst (-1), 1) := by decide +kernel
theorem dX6_learnedVariables_89 : decode cX6_learnedVariables 89 = .ok (.ixor, 1) := by decide +kernel
theorem dX6_learnedVariables_90 : decode cX6_learnedVariables 90 = .ok (.iand, 1) := by decide +kernel
theorem dX6_learnedVariables_91 : decode cX6_learnedVariables 91 = .ok (.istore_n 3, 1) := by decide +kernel
theorem dX6_learnedVariables_92 : decode cX6_learnedVariables 92 = .ok (.iinc 4 (-1), 3) := by decide +kernel
theorem dX6_learnedVariables_95 : decode cX6_learnedVariables 95 = .ok (.goto (-63), 3) := by decide +kernel
theorem dX6_learnedVariables_98 : decode cX6_learnedVariables 98 = .ok (.iload_n 3, 1) := by decide +kernel
theorem dX6_learnedVariables_99 : decode cX6_learnedVariables 99 = .ok (.ireturn, 1) := by decide +kernel
theorem dX6_backjumpLevel_0 : decode cX6_backjumpLevel 0 = .ok (.iconst 0, 1) := by decide +kernel
theorem dX6_backjumpLevel_1 : decode cX6_backjumpLevel 1 = .ok (.istore_n 2, 1) := by decide +kernel
theorem dX6_backjumpLevel_2 : decode cX6_backjumpLevel 2 = .ok (.iconst 0, 1) := by decide +kernel
theorem dX6_backjumpLevel_3 : decode cX6_backjumpLevel 3 = .ok (.istore_n 3, 1) := by decide +kernel
theorem dX6_backjumpLevel_4 : decode cX6_backjumpLevel 4 = .ok (.iload_n 3, 1) := by decide +kernel
theorem dX6_backjumpLevel_5 : decode cX6_backjumpLevel 5 = .ok (.bipush 8, 2) := by decide +kernel
theorem dX6_backjumpLevel_7 : decode cX6_backjumpLevel 7 = .ok (.if_icmp .ge 33, 3) := by decide +kernel
theorem dX6_backjumpLevel_10 : decode cX6_backjumpLevel 10 = .ok (.iload_n 1, 1) := by decide +kernel
theorem dX6_backjumpLevel_11 : decode cX6_backjumpLevel 11 = .ok (.aload_n 0, 1) := by decide +kernel
theorem dX6_backjumpLevel_12 : decode cX6_backjumpLevel 12 = .ok (.getfield 34, 3) := by decide +kernel
theorem dX6_backjumpLevel_15 : decode cX6_backjumpLevel 15 = .ok (.iand, 1) := by decide +kernel
theorem dX6_backjumpLevel_16 : decode cX6_backjumpLevel 16 = .ok (.iload_n 3, 1) := by decide +kernel
theorem dX6_backjumpLevel_17 : decode cX6_backjumpLevel 17 = .ok (.invokestatic 104, 3) := by decide +kernel
theorem dX6_backjumpLevel_20 : decode cX6_backjumpLevel 20 = .ok (.ifCond .eq 14, 3) := by decide +kernel
theorem dX6_backjumpLevel_23 : decode cX6_backjumpLevel 23 = .ok (.iload_n 2, 1) := by decide +kernel
theorem dX6_backjumpLevel_24 : decode cX6_backjumpLevel 24 = .ok (.aload_n 0, 1) := by decide +kernel
theorem dX6_backjumpLevel_25 : decode cX6_backjumpLevel 25 = .ok (.getfield 15, 3) := by decide +kernel
theorem dX6_backjumpLevel_28 : decode cX6_backjumpLevel 28 = .ok (.iload_n 3, 1) := by decide +kernel
theorem dX6_backjumpLevel_29 : decode cX6_backjumpLevel 29 = .ok (.iaload, 1) := by decide +kernel
theorem dX6_backjumpLevel_30 : decode cX6_backjumpLevel 30 = .ok (.invokestatic 118, 3) := by decide +kernel
theorem dX6_backjumpLevel_33 : decode cX6_backjumpLevel 33 = .ok (.istore_n 2, 1) := by decide +kernel
theorem dX6_backjumpLevel_34 : decode cX6_backjumpLevel 34 = .ok (.iinc 3 1, 3) := by decide +kernel
theorem dX6_backjumpLevel_37 : decode cX6_backjumpLevel 37 = .ok (.goto (-33), 3) := by decide +kernel
theorem dX6_backjumpLevel_40 : decode cX6_backjumpLevel 40 = .ok (.iload_n 2, 1) := by decide +kernel
theorem dX6_backjumpLevel_41 : decode cX6_backjumpLevel 41 = .ok (.ireturn, 1) := by decide +kernel
theorem dX6_falseClause_0 : decode cX6_falseClause 0 = .ok (.iload_n 1, 1) := by decide +kernel
theorem dX6_falseClause_1 : decode cX6_falseClause 1 = .ok (.aload_n 0, 1) := by decide +kernel
theorem dX6_falseClause_2 : decode cX6_falseClause 2 = .ok (.getfield 28, 3) := by decide +kernel
theorem dX6_falseClause_5 : decode cX6_falseClause 5 = .ok (.iconst (-1), 1) := by decide +kernel
theorem dX6_falseClause_6 : decode cX6_falseClause 6 = .ok (.ixor, 1) := by decide +kernel
theorem dX6_falseClause_7 : decode cX6_falseClause 7 = .ok (.iand, 1) := by decide +kernel
theorem dX6_falseClause_8 : decode cX6_falseClause 8 = .ok (.iload_n 1, 1) := by decide +kernel
theorem dX6_falseClause_9 : decode cX6_falseClause 9 = .ok (.aload_n 0, 1) := by decide +kernel
theorem dX6_falseClause_10 : decode cX6_falseClause 10 = .ok (.getfield 28, 3) := by decide +kernel
theorem dX6_falseClause_13 : decode cX6_falseClause 13 = .ok (.iand, 1) := by decide +kernel
theorem dX6_falseClause_14 : decode cX6_falseClause 14 = .ok (.invokestatic 123, 3) := by decide +kernel
theorem dX6_falseClause_17 : decode cX6_falseClause 17 = .ok (.ireturn, 1) := by decide +kernel
theorem dX7_init_0 : decode cX7_init 0 = .ok (.aload_n 0, 1) := by decide +kernel
theorem dX7_init_1 : decode cX7_init 1 = .ok (.invokespecial 1, 3) := by decide +kernel
theorem dX7_init_4 : decode cX7_init 4 = .ok (.aload_n 0, 1) := by decide +kernel
theorem dX7_init_5 : decode cX7_init 5 = .ok (.new 7, 3) := by decide +kernel
theorem dX7_init_8 : decode cX7_init 8 = .ok (.dup, 1) := by decide +kernel
theorem dX7_init_9 : decode cX7_init 9 = .ok (.invokespecial 9, 3) := by decide +kernel
theorem dX7_init_12 : decode cX7_init 12 = .ok (.putfield 10, 3) := by decide +kernel
theorem dX7_init_15 : decode cX7_init 15 = .ok (.aload_n 0, 1) := by decide +kernel
theorem dX7_init_16 : decode cX7_init 16 = .ok (.new 16, 3) := by decide +kernel
theorem dX7_init_19 : decode cX7_init 19 = .ok (.dup, 1) := by decide +kernel
theorem dX7_init_20 : decode cX7_init 20 = .ok (.invokespecial 18, 3) := by decide +kernel
theorem dX7_init_23 : decode cX7_init 23 = .ok (.putfield 19, 3) := by decide +kernel
theorem dX7_init_26 : decode cX7_init 26 = .ok (.aload_n 0, 1) := by decide +kernel
theorem dX7_init_27 : decode cX7_init 27 = .ok (.new 23, 3) := by decide +kernel
theorem dX7_init_30 : decode cX7_init 30 = .ok (.dup, 1) := by decide +kernel
theorem dX7_init_31 : decode cX7_init 31 = .ok (.invokespecial 25, 3) := by decide +kernel
theorem dX7_init_34 : decode cX7_init 34 = .ok (.putfield 26, 3) := by decide +kernel
theorem dX7_init_37 : decode cX7_init 37 = .ok (.aload_n 0, 1) := by decide +kernel
theorem dX7_init_38 : decode cX7_init 38 = .ok (.new 30, 3) := by decide +kernel
theorem dX7_init_41 : decode cX7_init 41 = .ok (.dup, 1) := by decide +kernel
theorem dX7_init_42 : decode cX7_init 42 = .ok (.invokespecial 32, 3) := by decide +kernel
theorem dX7_init_45 : decode cX7_init 45 = .ok (.putfield 33, 3) := by decide +kernel
theorem dX7_init_48 : decode cX7_init 48 = .ok (.aload_n 0, 1) := by decide +kernel
theorem dX7_init_49 : decode cX7_init 49 = .ok (.new 37, 3) := by decide +kernel
theorem dX7_init_52 : decode cX7_init 52 = .ok (.dup, 1) := by decide +kernel
theorem dX7_init_53 : decode cX7_init 53 = .ok (.invokespecial 39, 3) := by decide +kernel
theorem dX7_init_56 : decode cX7_init 56 = .ok (.putfield 40, 3) := by decide +kernel
theorem dX7_init_59 : decode cX7_init 59 = .ok (.aload_n 0, 1) := by decide +kernel
theorem dX7_init_60 : decode cX7_init 60 = .ok (.new 44, 3) := by decide +kernel
theorem dX7_init_63 : decode cX7_init 63 = .ok (.dup, 1) := by decide +kernel
theorem dX7_init_64 : decode cX7_init 64 = .ok (.invokespecial 46, 3) := by decide +kernel
theorem dX7_init_67 : decode cX7_init 67 = .ok (.putfield 47, 3) := by decide +kernel
theorem dX7_init_70 : decode cX7_init 70 = .ok (.aload_n 0, 1) := by decide +kernel
theorem dX7_init_71 : decode cX7_init 71 = .ok (.new 16, 3) := by decide +kernel
theorem dX7_init_74 : decode cX7_init 74 = .ok (.dup, 1) := by decide +kernel
theorem dX7_init_75 : decode cX7_init 75 = .ok (.invokespecial 18, 3) := by decide +kernel
theorem dX7_init_78 : decode cX7_init 78 = .ok (.putfield 51, 3) := by decide +kernel
theorem dX7_init_81 : decode cX7_init 81 = .ok (.aload_n 0, 1) := by decide +kernel
theorem dX7_init_82 : decode cX7_init 82 = .ok (.new 23, 3) := by decide +kernel
theorem dX7_init_85 : decode cX7_init 85 = .ok (.dup, 1) := by decide +kernel
theorem dX7_init_86 : decode cX7_init 86 = .ok (.invokespecial 25, 3) := by decide +kernel
theorem dX7_init_89 : decode cX7_init 89 = .ok (.putfield 54, 3) := by decide +kernel
theorem dX7_init_92 : decode cX7_init 92 = .ok (.return_, 1) := by decide +kernel
theorem dX7_append_0 : decode cX7_append 0 = .ok (.iload_n 1, 1) := by decide +kernel
theorem dX7_append_1 : decode cX7_append 1 = .ok (.ifCond .lt 10, 3) := by decide +kernel
theorem dX7_append_4 : decode cX7_append 4 = .ok (.iload_n 1, 1) := by decide +kernel
theorem dX7_append_5 : decode cX7_append 5 = .ok (.sipush 255, 3) := by decide +kernel
theorem dX7_append_8 : decode cX7_append 8 = .ok (.if_icmp .le 13, 3) := by decide +kernel
theorem dX7_append_11 : decode cX7_append 11 = .ok (.new 57, 3) := by decide +kernel
theorem dX7_append_14 : decode cX7_append 14 = .ok (.dup, 1) := by decide +kernel
theorem dX7_append_15 : decode cX7_append 15 = .ok (.ldc 59, 2) := by decide +kernel
theorem dX7_append_17 : decode cX7_append 17 = .ok (.invokespecial 61, 3) := by decide +kernel
theorem dX7_append_20 : decode cX7_append 20 = .ok (.athrow, 1) := by decide +kernel
theorem dX7_append_21 : decode cX7_append 21 = .ok (.aload_n 0, 1) := by decide +kernel
theorem dX7_append_22 : decode cX7_append 22 = .ok (.getfield 10, 3) := by decide +kernel
theorem dX7_append_25 : decode cX7_append 25 = .ok (.getfield 64, 3) := by decide +kernel
theorem dX7_append_28 : decode cX7_append 28 = .ok (.bipush 90, 2) := by decide +kernel
theorem dX7_append_30 : decode cX7_append 30 = .ok (.if_icmp .lt 13, 3) := by decide +kernel
theorem dX7_append_33 : decode cX7_append 33 = .ok (.new 68, 3) := by decide +kernel
theorem dX7_append_36 : decode cX7_append 36 = .ok (.dup, 1) := by decide +kernel
theorem dX7_append_37 : decode cX7_append 37 = .ok (.ldc 70, 2) := by decide +kernel
theorem dX7_append_39 : decode cX7_append 39 = .ok (.invokespecial 72, 3) := by decide +kernel
theorem dX7_append_42 : decode cX7_append 42 = .ok (.athrow, 1) := by decide +kernel
theorem dX7_append_43 : decode cX7_append 43 = .ok (.aload_n 0, 1) := by decide +kernel
theorem dX7_append_44 : decode cX7_append 44 = .ok (.getfield 10, 3) := by decide +kernel
theorem dX7_append_47 : decode cX7_append 47 = .ok (.iload_n 1, 1) := by decide +kernel
theorem dX7_append_48 : decode cX7_append 48 = .ok (.invokevirtual 73, 3) := by decide +kernel
theorem dX7_append_51 : decode cX7_append 51 = .ok (.aload_n 0, 1) := by decide +kernel
theorem dX7_append_52 : decode cX7_append 52 = .ok (.getfield 10, 3) := by decide +kernel
theorem dX7_append_55 : decode cX7_append 55 = .ok (.getfield 64, 3) := by decide +kernel
theorem dX7_append_58 : decode cX7_append 58 = .ok (.ireturn, 1) := by decide +kernel
theorem dX7_clearText_0 : decode cX7_clearText 0 = .ok (.aload_n 0, 1) := by decide +kernel
theorem dX7_clearText_1 : decode cX7_clearText 1 = .ok (.getfield 10, 3) := by decide +kernel
theorem dX7_clearText_4 : decode cX7_clearText 4 = .ok (.getfield 64, 3) := by decide +kernel
theorem dX7_clearText_7 : decode cX7_clearText 7 = .ok (.istore_n 1, 1) := by decide +kernel
theorem dX7_clearText_8 : decode cX7_clearText 8 = .ok (.aload_n 0, 1) := by decide +kernel
theorem dX7_clearText_9 : decode cX7_clearText 9 = .ok (.getfield 10, 3) := by decide +kernel
theorem dX7_clearText_12 : decode cX7_clearText 12 = .ok (.iconst 0, 1) := by decide +kernel
theorem dX7_clearText_13 : decode cX7_clearText 13 = .ok (.putfield 64, 3) := by decide +kernel
theorem dX7_clearText_16 : decode cX7_clearText 16 = .ok (.iload_n 1, 1) := by decide +kernel
theorem dX7_clearText_17 : decode cX7_clearText 17 = .ok (.ireturn, 1) := by decide +kernel
theorem dX7_errorPosition_0 : decode cX7_errorPosition 0 = .ok (.aload_n 0, 1) := by decide +kernel
theorem dX7_errorPosition_1 : decode cX7_errorPosition 1 = .ok (.getfield 10, 3) := by decide +kernel
theorem dX7_errorPosition_4 : decode cX7_errorPosition 4 = .ok (.invokevirtual 77, 3) := by decide +kernel
theorem dX7_errorPosition_7 : decode cX7_errorPosition 7 = .ok (.ireturn, 1) := by decide +kernel
theorem dX7_load_0 : decode cX7_load 0 = .ok (.aload_n 0, 1) := by decide +kernel
theorem dX7_load_1 : decode cX7_load 1 = .ok (.getfield 10, 3) := by decide +kernel
theorem dX7_load_4 : decode cX7_load 4 = .ok (.invokevirtual 77, 3) := by decide +kernel
theorem dX7_load_7 : decode cX7_load 7 = .ok (.bipush (-9), 2) := by decide +kernel
theorem dX7_load_9 : decode cX7_load 9 = .ok (.if_icmp .eq 13, 3) := by decide +kernel
theorem dX7_load_12 : decode cX7_load 12 = .ok (.new 68, 3) := by decide +kernel
theorem dX7_load_15 : decode cX7_load 15 = .ok (.dup, 1) := by decide +kernel
theorem dX7_load_16 : decode cX7_load 16 = .ok (.ldc 81, 2) := by decide +kernel
theorem dX7_load_18 : decode cX7_load 18 = .ok (.invokespecial 72, 3) := by decide +kernel
theorem dX7_load_21 : decode cX7_load 21 = .ok (.athrow, 1) := by decide +kernel
theorem dX7_load_22 : decode cX7_load 22 = .ok (.aload_n 0, 1) := by decide +kernel
theorem dX7_load_23 : decode cX7_load 23 = .ok (.getfield 19, 3) := by decide +kernel
theorem dX7_load_26 : decode cX7_load 26 = .ok (.getfield 83, 3) := by decide +kernel
theorem dX7_load_29 : decode cX7_load 29 = .ok (.aload_n 0, 1) := by decide +kernel
theorem dX7_load_30 : decode cX7_load 30 = .ok (.getfield 10, 3) := by decide +kernel
theorem dX7_load_33 : decode cX7_load 33 = .ok (.getfield 87, 3) := by decide +kernel
theorem dX7_load_36 : decode cX7_load 36 = .ok (.invokevirtual 88, 3) := by decide +kernel
theorem dX7_load_39 : decode cX7_load 39 = .ok (.aload_n 0, 1) := by decide +kernel
theorem dX7_load_40 : decode cX7_load 40 = .ok (.getfield 19, 3) := by decide +kernel
theorem dX7_load_43 : decode cX7_load 43 = .ok (.iconst 0, 1) := by decide +kernel
theorem dX7_load_44 : decode cX7_load 44 = .ok (.invokevirtual 94, 3) := by decide +kernel
theorem dX7_load_47 : decode cX7_load 47 = .ok (.aload_n 0, 1) := by decide +kernel
theorem dX7_load_48 : decode cX7_load 48 = .ok (.getfield 33, 3) := by decide +kernel
theorem dX7_load_51 : decode cX7_load 51 = .ok (.invokevirtual 97, 3) := by decide +kernel
theorem dX7_load_54 : decode cX7_load 54 = .ok (.aload_n 0, 1) := by decide +kernel
theorem dX7_load_55 : decode cX7_load 55 = .ok (.getfield 33, 3) := by decide +kernel
theorem dX7_load_58 : decode cX7_load 58 = .ok (.invokevirtual 100, 3) := by decide +kernel
theorem dX7_load_61 : decode cX7_load 61 = .ok (.aload_n 0, 1) := by decide +kernel
theorem dX7_load_62 : decode cX7_load 62 = .ok (.invokevirtual 103, 3) := by decide +kernel
theorem dX7_load_65 : decode cX7_load 65 = .ok (.aload_n 0, 1) := by decide +kernel
theorem dX7_load_66 : decode cX7_load 66 = .ok (.getfield 19, 3) := by decide +kernel
theorem dX7_load_69 : decode cX7_load 69 = .ok (.getfield 83, 3) := by decide +kernel
theorem dX7_load_72 : decode cX7_load 72 = .ok (.getfield 106, 3) := by decide +kernel
theorem dX7_load_75 : decode cX7_load 75 = .ok (.ireturn, 1) := by decide +kernel
theorem dX7_constraintCount_0 : decode cX7_constraintCount 0 = .ok (.aload_n 0, 1) := by decide +kernel
theorem dX7_constraintCount_1 : decode cX7_constraintCount 1 = .ok (.getfield 19, 3) := by decide +kernel
theorem dX7_constraintCount_4 : decode cX7_constraintCount 4 = .ok (.getfield 83, 3) := by decide +kernel
theorem dX7_constraintCount_7 : decode cX7_constraintCount 7 = .ok (.getfield 106, 3) := by decide +kernel
theorem dX7_constraintCount_10 : decode cX7_constraintCount 10 = .ok (.ireturn, 1) := by decide +kernel
theorem dX7_isParity_0 : decode cX7_isParity 0 = .ok (.aload_n 0, 1) := by decide +kernel
theorem dX7_isParity_1 : decode cX7_isParity 1 = .ok (.iload_n 1, 1) := by decide +kernel
theorem dX7_isParity_2 : decode cX7_isParity 2 = .ok (.invokevirtual 109, 3) := by decide +kernel
theorem dX7_isParity_5 : decode cX7_isParity 5 = .ok (.aload_n 0, 1) := by decide +kernel
theorem dX7_isParity_6 : decode cX7_isParity 6 = .ok (.getfield 19, 3) := by decide +kernel
theorem dX7_isParity_9 : decode cX7_isParity 9 = .ok (.getfield 83, 3) := by decide +kernel
theorem dX7_isParity_12 : decode cX7_isParity 12 = .ok (.iload_n 1, 1) := by decide +kernel
theorem dX7_isParity_13 : decode cX7_isParity 13 = .ok (.invokevirtual 112, 3) := by decide +kernel
theorem dX7_isParity_16 : decode cX7_isParity 16 = .ok (.invokestatic 116, 3) := by decide +kernel
theorem dX7_isParity_19 : decode cX7_isParity 19 = .ok (.ireturn, 1) := by decide +kernel
theorem dX7_variables_0 : decode cX7_variables 0 = .ok (.aload_n 0, 1) := by decide +kernel
theorem dX7_variables_1 : decode cX7_variables 1 = .ok (.iload_n 1, 1) := by decide +kernel
theorem dX7_variables_2 : decode cX7_variables 2 = .ok (.invokevirtual 109, 3) := by decide +kernel
theorem dX7_variables_5 : decode cX7_variables 5 = .ok (.aload_n 0, 1) := by decide +kernel
theorem dX7_variables_6 : decode cX7_variables 6 = .ok (.getfield 19, 3) := by decide +kernel
theorem dX7_variables_9 : decode cX7_variables 9 = .ok (.getfield 83, 3) := by decide +kernel
theorem dX7_variables_12 : decode cX7_variables 12 = .ok (.iload_n 1, 1) := by decide +kernel
theorem dX7_variables_13 : decode cX7_variables 13 = .ok (.invokevirtual 112, 3) := by decide +kernel
theorem dX7_variables_16 : decode cX7_variables 16 = .ok (.invokestatic 120, 3) := by decide +kernel
theorem dX7_variables_19 : decode cX7_variables 19 = .ok (.ireturn, 1) := by decide +kernel
theorem dX7_negated_0 : decode cX7_negated 0 = .ok (.aload_n 0, 1) := by decide +kernel
theorem dX7_negated_1 : decode cX7_negated 1 = .ok (.iload_n 1, 1) := by decide +kernel
theorem dX7_negated_2 : decode cX7_negated 2 = .ok (.invokevirtual 109, 3) := by decide +kernel
theorem dX7_negated_5 : decode cX7_negated 5 = .ok (.aload_n 0, 1) := by decide +kernel
theorem dX7_negated_6 : decode cX7_negated 6 = .ok (.getfield 19, 3) := by decide +kernel
theorem dX7_negated_9 : decode cX7_negated 9 = .ok (.getfield 83, 3) := by decide +kernel
theorem dX7_negated_12 : decode cX7_negated 12 = .ok (.iload_n 1, 1) := by decide +kernel
theorem dX7_negated_13 : decode cX7_negated 13 = .ok (.invokevirtual 112, 3) := by decide +kernel
theorem dX7_negated_16 : decode cX7_negated 16 = .ok (.invokestatic 123, 3) := by decide +kernel
theorem dX7_negated_19 : decode cX7_negated 19 = .ok (.ireturn, 1) := by decide +kernel
theorem dX7_addClause_0 : decode cX7_addClause 0 = .ok (.iload_n 1, 1) := by decide +kernel
theorem dX7_addClause_1 : decode cX7_addClause 1 = .ok (.iload_n 2, 1) := by decide +kernel
theorem dX7_addClause_2 : decode cX7_addClause 2 = .ok (.invokestatic 126, 3) := by decide +kernel
theorem dX7_addClause_5 : decode cX7_addClause 5 = .ok (.aload_n 0, 1) := by decide +kernel
theorem dX7_addClause_6 : decode cX7_addClause 6 = .ok (.invokevirtual 130, 3) := by decide +kernel
theorem dX7_addClause_9 : decode cX7_addClause 9 = .ok (.aload_n 0, 1) := by decide +kernel
theorem dX7_addClause_10 : decode cX7_addClause 10 = .ok (.iload_n 1, 1) := by decide +kernel
theorem dX7_addClause_11 : decode cX7_addClause 11 = .ok (.iload_n 2, 1) := by decide +kernel
theorem dX7_addClause_12 : decode cX7_addClause 12 = .ok (.invokestatic 133, 3) := by decide +kernel
theorem dX7_addClause_15 : decode cX7_addClause 15 = .ok (.invokevirtual 137, 3) := by decide +kernel
theorem dX7_addClause_18 : decode cX7_addClause 18 = .ok (.ireturn, 1) := by decide +kernel
theorem dX7_addParity_0 : decode cX7_addParity 0 = .ok (.iload_n 1, 1) := by decide +kernel
theorem dX7_addParity_1 : decode cX7_addParity 1 = .ok (.iload_n 2, 1) := by decide +kernel
theorem dX7_addParity_2 : decode cX7_addParity 2 = .ok (.invokestatic 140, 3) := by decide +kernel
theorem dX7_addParity_5 : decode cX7_addParity 5 = .ok (.aload_n 0, 1) := by decide +kernel
theorem dX7_addParity_6 : decode cX7_addParity 6 = .ok (.invokevirtual 130, 3) := by decide +kernel
theorem dX7_addParity_9 : decode cX7_addParity 9 = .ok (.aload_n 0, 1) := by decide +kernel
theorem dX7_addParity_10 : decode cX7_addParity 10 = .ok (.iload_n 1, 1) := by decide +kernel
theorem dX7_addParity_11 : decode cX7_addParity 11 = .ok (.iload_n 2, 1) := by decide +kernel
theorem dX7_addParity_12 : decode cX7_addParity 12 = .ok (.invokestatic 143, 3) := by decide +kernel
theorem dX7_addParity_15 : decode cX7_addParity 15 = .ok (.invokevirtual 137, 3) := by decide +kernel
theorem dX7_addParity_18 : decode cX7_addParity 18 = .ok (.ireturn, 1) := by decide +kernel
theorem dX7_removeConstraint_0 : decode cX7_removeConstraint 0 = .ok (.aload_n 0, 1) := by decide +kernel
theorem dX7_removeConstraint_1 : decode cX7_removeConstraint 1 = .ok (.iload_n 1, 1) := by decide +kernel
theorem dX7_removeConstraint_2 : decode cX7_removeConstraint 2 = .ok (.invokevirtual 109, 3) := by decide +kernel
theorem dX7_removeConstraint_5 : decode cX7_removeConstraint 5 = .ok (.aload_n 0, 1) := by decide +kernel
theorem dX7_removeConstraint_6 : decode cX7_removeConstraint 6 = .ok (.getfield 33, 3) := by decide +kernel
theorem dX7_removeConstraint_9 : decode cX7_removeConstraint 9 = .ok (.aload_n 0, 1) := by decide +kernel
theorem dX7_removeConstraint_10 : decode cX7_removeConstraint 10 = .ok (.getfield 19, 3) := by decide +kernel
theorem dX7_removeConstraint_13 : decode cX7_removeConstraint 13 = .ok (.invokevirtual 146, 3) := by decide +kernel
theorem dX7_removeConstraint_16 : decode cX7_removeConstraint 16 = .ok (.aload_n 0, 1) := by decide +kernel
theorem dX7_removeConstraint_17 : decode cX7_removeConstraint 17 = .ok (.getfield 19, 3) := by decide +kernel
theorem dX7_removeConstraint_20 : decode cX7_removeConstraint 20 = .ok (.getfield 83, 3) := by decide +kernel
theorem dX7_removeConstraint_23 : decode cX7_removeConstraint 23 = .ok (.iload_n 1, 1) := by decide +kernel
theorem dX7_removeConstraint_24 : decode cX7_removeConstraint 24 = .ok (.invokevirtual 150, 3) := by decide +kernel
theorem dX7_removeConstraint_27 : decode cX7_removeConstraint 27 = .ok (.aload_n 0, 1) := by decide +kernel
theorem dX7_removeConstraint_28 : decode cX7_removeConstraint 28 = .ok (.invokevirtual 103, 3) := by decide +kernel
theorem dX7_removeConstraint_31 : decode cX7_removeConstraint 31 = .ok (.aload_n 0, 1) := by decide +kernel
theorem dX7_removeConstraint_32 : decode cX7_removeConstraint 32 = .ok (.getfield 19, 3) := by decide +kernel
theorem dX7_removeConstraint_35 : decode cX7_removeConstraint 35 = .ok (.getfield 83, 3) := by decide +kernel
theorem dX7_removeConstraint_38 : decode cX7_removeConstraint 38 = .ok (.getfield 106, 3) := by decide +kernel
theorem dX7_removeConstraint_41 : decode cX7_removeConstraint 41 = .ok (.ireturn, 1) := by decide +kernel
theorem dX7_resolve_0 : decode cX7_resolve 0 = .ok (.aload_n 0, 1) := by decide +kernel
theorem dX7_resolve_1 : decode cX7_resolve 1 = .ok (.iload_n 1, 1) := by decide +kernel
theorem dX7_resolve_2 : decode cX7_resolve 2 = .ok (.invokevirtual 109, 3) := by decide +kernel
theorem dX7_resolve_5 : decode cX7_resolve 5 = .ok (.aload_n 0, 1) := by decide +kernel
theorem dX7_resolve_6 : decode cX7_resolve 6 = .ok (.iload_n 2, 1) := by decide +kernel
theorem dX7_resolve_7 : decode cX7_resolve 7 = .ok (.invokevirtual 109, 3) := by decide +kernel
theorem dX7_resolve_10 : decode cX7_resolve 10 = .ok (.iload_n 3, 1) := by decide +kernel
theorem dX7_resolve_11 : decode cX7_resolve 11 = .ok (.invokestatic 153, 3) := by decide +kernel
theorem dX7_resolve_14 : decode cX7_resolve 14 = .ok (.aload_n 0, 1) := by decide +kernel
theorem dX7_resolve_15 : decode cX7_resolve 15 = .ok (.getfield 19, 3) := by decide +kernel
theorem dX7_resolve_18 : decode cX7_resolve 18 = .ok (.getfield 83, 3) := by decide +kernel
theorem dX7_resolve_21 : decode cX7_resolve 21 = .ok (.iload_n 1, 1) := by decide +kernel
theorem dX7_resolve_22 : decode cX7_resolve 22 = .ok (.invokevirtual 112, 3) := by decide +kernel
theorem dX7_resolve_25 : decode cX7_resolve 25 = .ok (.istore 4, 2) := by decide +kernel
theorem dX7_resolve_27 : decode cX7_resolve 27 = .ok (.aload_n 0, 1) := by decide +kernel
theorem dX7_resolve_28 : decode cX7_resolve 28 = .ok (.getfield 19, 3) := by decide +kernel
theorem dX7_resolve_31 : decode cX7_resolve 31 = .ok (.getfield 83, 3) := by decide +kernel
theorem dX7_resolve_34 : decode cX7_resolve 34 = .ok (.iload_n 2, 1) := by decide +kernel
theorem dX7_resolve_35 : decode cX7_resolve 35 = .ok (.invokevirtual 112, 3) := by decide +kernel
theorem dX7_resolve_38 : decode cX7_resolve 38 = .ok (.istore 5, 2) := by decide +kernel
theorem dX7_resolve_40 : decode cX7_resolve 40 = .ok (.iload 4, 2) := by decide +kernel
theorem dX7_resolve_42 : decode cX7_resolve 42 = .ok (.invokestatic 116, 3) := by decide +kernel
theorem dX7_resolve_45 : decode cX7_resolve 45 = .ok (.ifCond .ne 11, 3) := by decide +kernel
theorem dX7_resolve_48 : decode cX7_resolve 48 = .ok (.iload 5, 2) := by decide +kernel
theorem dX7_resolve_50 : decode cX7_resolve 50 = .ok (.invokestatic 116, 3) := by decide +kernel
theorem dX7_resolve_53 : decode cX7_resolve 53 = .ok (.ifCond .eq 13, 3) := by decide +kernel
theorem dX7_resolve_56 : decode cX7_resolve 56 = .ok (.new 68, 3) := by decide +kernel
theorem dX7_resolve_59 : decode cX7_resolve 59 = .ok (.dup, 1) := by decide +kernel
theorem dX7_resolve_60 : decode cX7_resolve 60 = .ok (.ldc 156, 2) := by decide +kernel
theorem dX7_resolve_62 : decode cX7_resolve 62 = .ok (.invokespecial 72, 3) := by decide +kernel
theorem dX7_resolve_65 : decode cX7_resolve 65 = .ok (.athrow, 1) := by decide +kernel
theorem dX7_resolve_66 : decode cX7_resolve 66 = .ok (.iconst 1, 1) := by decide +kernel
theorem dX7_resolve_67 : decode cX7_resolve 67 = .ok (.iload_n 3, 1) := by decide +kernel
theorem dX7_resolve_68 : decode cX7_resolve 68 = .ok (.ishl, 1) := by decide +kernel
theorem dX7_resolve_69 : decode cX7_resolve 69 = .ok (.istore 6, 2) := by decide +kernel
theorem dX7_resolve_71 : decode cX7_resolve 71 = .ok (.iload 4, 2) := by decide +kernel
theorem dX7_resolve_73 : decode cX7_resolve 73 = .ok (.invokestatic 120, 3) := by decide +kernel
theorem dX7_resolve_76 : decode cX7_resolve 76 = .ok (.iload 6, 2) := by decide +kernel
theorem dX7_resolve_78 : decode cX7_resolve 78 = .ok (.iand, 1) := by decide +kernel
theorem dX7_resolve_79 : decode cX7_resolve 79 = .ok (.ifCond .eq 14, 3) := by decide +kernel
theorem dX7_resolve_82 : decode cX7_resolve 82 = .ok (.iload 5, 2) := by decide +kernel
theorem dX7_resolve_84 : decode cX7_resolve 84 = .ok (.invokestatic 123, 3) := by decide +kernel
theorem dX7_resolve_87 : decode cX7_resolve 87 = .ok (.iload 6, 2) := by decide +kernel
theorem dX7_resolve_89 : decode cX7_resolve 89 = .ok (.iand, 1) := by decide +kernel
theorem dX7_resolve_90 : decode cX7_resolve 90 = .ok (.ifCond .ne 13, 3) := by decide +kernel
theorem dX7_resolve_93 : decode cX7_resolve 93 = .ok (.new 68, 3) := by decide +kernel
theorem dX7_resolve_96 : decode cX7_resolve 96 = .ok (.dup, 1) := by decide +kernel
theorem dX7_resolve_97 : decode cX7_resolve 97 = .ok (.ldc 158, 2) := by decide +kernel
theorem dX7_resolve_99 : decode cX7_resolve 99 = .ok (.invokespecial 72, 3) := by decide +kernel
theorem dX7_resolve_102 : decode cX7_resolve 102 = .ok (.athrow, 1) := by decide +kernel
theorem dX7_resolve_103 : decode cX7_resolve 103 = .ok (.iload 4, 2) := by decide +kernel
theorem dX7_resolve_105 : decode cX7_resolve 105 = .ok (.invokestatic 120, 3) := by decide +kernel
theorem dX7_resolve_108 : decode cX7_resolve 108 = .ok (.iload 5, 2) := by decide +kernel
theorem dX7_resolve_110 : decode cX7_resolve 110 = .ok (.invokestatic 120, 3) := by decide +kernel
theorem dX7_resolve_113 : decode cX7_resolve 113 = .ok (.ior, 1) := by decide +kernel
theorem dX7_resolve_114 : decode cX7_resolve 114 = .ok (.iload 6, 2) := by decide +kernel
theorem dX7_resolve_116 : decode cX7_resolve 116 = .ok (.iconst (-1), 1) := by decide +kernel
theorem dX7_resolve_117 : decode cX7_resolve 117 = .ok (.ixor, 1) := by decide +kernel
theorem dX7_resolve_118 : decode cX7_resolve 118 = .ok (.iand, 1) := by decide +kernel
theorem dX7_resolve_119 : decode cX7_resolve 119 = .ok (.istore 7, 2) := by decide +kernel
theorem dX7_resolve_121 : decode cX7_resolve 121 = .ok (.iload 4, 2) := by decide +kernel
theorem dX7_resolve_123 : decode cX7_resolve 123 = .ok (.invokestatic 123, 3) := by decide +kernel
theorem dX7_resolve_126 : decode cX7_resolve 126 = .ok (.iload 5, 2) := by decide +kernel
theorem dX7_resolve_128 : decode cX7_resolve 128 = .ok (.invokestatic 123, 3) := by decide +kernel
theorem dX7_resolve_131 : decode cX7_resolve 131 = .ok (.ior, 1) := by decide +kernel
theorem dX7_resolve_132 : decode cX7_resolve 132 = .ok (.iload 6, 2) := by decide +kernel
theorem dX7_resolve_134 : decode cX7_resolve 134 = .ok (.iconst (-1), 1) := by decide +kernel
theorem dX7_resolve_135 : decode cX7_resolve 135 = .ok (.ixor, 1) := by decide +kernel
theorem dX7_resolve_136 : decode cX7_resolve 136 = .ok (.iand, 1) := by decide +kernel
theorem dX7_resolve_137 : decode cX7_resolve 137 = .ok (.istore 8, 2) := by decide +kernel
theorem dX7_resolve_139 : decode cX7_resolve 139 = .ok (.iload 7, 2) := by decide +kernel
theorem dX7_resolve_141 : decode cX7_resolve 141 = .ok (.iload 8, 2) := by decide +kernel
theorem dX7_resolve_143 : decode cX7_resolve 143 = .ok (.iand, 1) := by decide +kernel
theorem dX7_resolve_144 : decode cX7_resolve 144 = .ok (.ifCond .eq 13, 3) := by decide +kernel
theorem dX7_resolve_147 : decode cX7_resolve 147 = .ok (.new 68, 3) := by decide +kernel
theorem dX7_resolve_150 : decode cX7_resolve 150 = .ok (.dup, 1) := by decide +kernel
theorem dX7_resolve_151 : decode cX7_resolve 151 = .ok (.ldc 160, 2) := by decide +kernel
theorem dX7_resolve_153 : decode cX7_resolve 153 = .ok (.invokespecial 72, 3) := by decide +kernel
theorem dX7_resolve_156 : decode cX7_resolve 156 = .ok (.athrow, 1) := by decide +kernel
theorem dX7_resolve_157 : decode cX7_resolve 157 = .ok (.aload_n 0, 1) := by decide +kernel
theorem dX7_resolve_158 : decode cX7_resolve 158 = .ok (.invokevirtual 130, 3) := by decide +kernel
theorem dX7_resolve_161 : decode cX7_resolve 161 = .ok (.aload_n 0, 1) := by decide +kernel
theorem dX7_resolve_162 : decode cX7_resolve 162 = .ok (.iload 7, 2) := by decide +kernel
theorem dX7_resolve_164 : decode cX7_resolve 164 = .ok (.iload 8, 2) := by decide +kernel
theorem dX7_resolve_166 : decode cX7_resolve 166 = .ok (.invokestatic 133, 3) := by decide +kernel
theorem dX7_resolve_169 : decode cX7_resolve 169 = .ok (.invokevirtual 137, 3) := by decide +kernel
theorem dX7_resolve_172 : decode cX7_resolve 172 = .ok (.ireturn, 1) := by decide +kernel
theorem dX7_sum_0 : decode cX7_sum 0 = .ok (.aload_n 0, 1) := by decide +kernel
theorem dX7_sum_1 : decode cX7_sum 1 = .ok (.iload_n 1, 1) := by decide +kernel
theorem dX7_sum_2 : decode cX7_sum 2 = .ok (.invokevirtual 109, 3) := by decide +kernel
theorem dX7_sum_5 : decode cX7_sum 5 = .ok (.aload_n 0, 1) := by decide +kernel
theorem dX7_sum_6 : decode cX7_sum 6 = .ok (.iload_n 2, 1) := by decide +kernel
theorem dX7_sum_7 : decode cX7_sum 7 = .ok (.invokevirtual 109, 3) := by decide +kernel
theorem dX7_sum_10 : decode cX7_sum 10 = .ok (.aload_n 0, 1) := by decide +kernel
theorem dX7_sum_11 : decode cX7_sum 11 = .ok (.getfield 19, 3) := by decide +kernel
theorem dX7_sum_14 : decode cX7_sum 14 = .ok (.getfield 83, 3) := by decide +kernel
theorem dX7_sum_17 : decode cX7_sum 17 = .ok (.iload_n 1, 1) := by decide +kernel
theorem dX7_sum_18 : decode cX7_sum 18 = .ok (.invokevirtual 112, 3) := by decide +kernel
theorem dX7_sum_21 : decode cX7_sum 21 = .ok (.istore_n 3, 1) := by decide +kernel
theorem dX7_sum_22 : decode cX7_sum 22 = .ok (.aload_n 0, 1) := by decide +kernel
theorem dX7_sum_23 : decode cX7_sum 23 = .ok (.getfield 19, 3) := by decide +kernel
theorem dX7_sum_26 : decode cX7_sum 26 = .ok (.getfield 83, 3) := by decide +kernel
theorem dX7_sum_29 : decode cX7_sum 29 = .ok (.iload_n 2, 1) := by decide +kernel
theorem dX7_sum_30 : decode cX7_sum 30 = .ok (.invokevirtual 112, 3) := by decide +kernel
theorem dX7_sum_33 : decode cX7_sum 33 = .ok (.istore 4, 2) := by decide +kernel
theorem dX7_sum_35 : decode cX7_sum 35 = .ok (.iload_n 3, 1) := by decide +kernel
theorem dX7_sum_36 : decode cX7_sum 36 = .ok (.invokestatic 116, 3) := by decide +kernel
theorem dX7_sum_39 : decode cX7_sum 39 = .ok (.ifCond .eq 11, 3) := by decide +kernel
theorem dX7_sum_42 : decode cX7_sum 42 = .ok (.iload 4, 2) := by decide +kernel
theorem dX7_sum_44 : decode cX7_sum 44 = .ok (.invokestatic 116, 3) := by decide +kernel
theorem dX7_sum_47 : decode cX7_sum 47 = .ok (.ifCond .ne 13, 3) := by decide +kernel
theorem dX7_sum_50 : decode cX7_sum 50 = .ok (.new 68, 3) := by decide +kernel
theorem dX7_sum_53 : decode cX7_sum 53 = .ok (.dup, 1) := by decide +kernel
theorem dX7_sum_54 : decode cX7_sum 54 = .ok (.ldc 162, 2) := by decide +kernel
theorem dX7_sum_56 : decode cX7_sum 56 = .ok (.invokespecial 72, 3) := by decide +kernel
theorem dX7_sum_59 : decode cX7_sum 59 = .ok (.athrow, 1) := by decide +kernel
theorem dX7_sum_60 : decode cX7_sum 60 = .ok (.aload_n 0, 1) := by decide +kernel
theorem dX7_sum_61 : decode cX7_sum 61 = .ok (.invokevirtual 130, 3) := by decide +kernel
theorem dX7_sum_64 : decode cX7_sum 64 = .ok (.iload_n 3, 1) := by decide +kernel
theorem dX7_sum_65 : decode cX7_sum 65 = .ok (.invokestatic 120, 3) := by decide +kernel
theorem dX7_sum_68 : decode cX7_sum 68 = .ok (.iload 4, 2) := by decide +kernel
theorem dX7_sum_70 : decode cX7_sum 70 = .ok (.invokestatic 120, 3) := by decide +kernel
theorem dX7_sum_73 : decode cX7_sum 73 = .ok (.ixor, 1) := by decide +kernel
theorem dX7_sum_74 : decode cX7_sum 74 = .ok (.istore 5, 2) := by decide +kernel
theorem dX7_sum_76 : decode cX7_sum 76 = .ok (.iload_n 3, 1) := by decide +kernel
theorem dX7_sum_77 : decode cX7_sum 77 = .ok (.invokestatic 123, 3) := by decide +kernel
theorem dX7_sum_80 : decode cX7_sum 80 = .ok (.iload 4, 2) := by decide +kernel
theorem dX7_sum_82 : decode cX7_sum 82 = .ok (.invokestatic 123, 3) := by decide +kernel
theorem dX7_sum_85 : decode cX7_sum 85 = .ok (.ixor, 1) := by decide +kernel
theorem dX7_sum_86 : decode cX7_sum 86 = .ok (.istore 6, 2) := by decide +kernel
theorem dX7_sum_88 : decode cX7_sum 88 = .ok (.aload_n 0, 1) := by decide +kernel
theorem dX7_sum_89 : decode cX7_sum 89 = .ok (.iload 5, 2) := by decide +kernel
theorem dX7_sum_91 : decode cX7_sum 91 = .ok (.iload 6, 2) := by decide +kernel
theorem dX7_sum_93 : decode cX7_sum 93 = .ok (.invokestatic 143, 3) := by decide +kernel
theorem dX7_sum_96 : decode cX7_sum 96 = .ok (.invokevirtual 137, 3) := by decide +kernel
theorem dX7_sum_99 : decode cX7_sum 99 = .ok (.ireturn, 1) := by decide +kernel
theorem dX7_decide_0 : decode cX7_decide 0 = .ok (.iload_n 1, 1) := by decide +kernel
theorem dX7_decide_1 : decode cX7_decide 1 = .ok (.ifCond .lt 9, 3) := by decide +kernel
theorem dX7_decide_4 : decode cX7_decide 4 = .ok (.iload_n 1, 1) := by decide +kernel
theorem dX7_decide_5 : decode cX7_decide 5 = .ok (.bipush 16, 2) := by decide +kernel
theorem dX7_decide_7 : decode cX7_decide 7 = .ok (.if_icmp .lt 13, 3) := by decide +kernel
theorem dX7_decide_10 : decode cX7_decide 10 = .ok (.new 164, 3) := by decide +kernel
theorem dX7_decide_13 : decode cX7_decide 13 = .ok (.dup, 1) := by decide +kernel
theorem dX7_decide_14 : decode cX7_decide 14 = .ok (.ldc 166, 2) := by decide +kernel
theorem dX7_decide_16 : decode cX7_decide 16 = .ok (.invokespecial 168, 3) := by decide +kernel
theorem dX7_decide_19 : decode cX7_decide 19 = .ok (.athrow, 1) := by decide +kernel
theorem dX7_decide_20 : decode cX7_decide 20 = .ok (.aload_n 0, 1) := by decide +kernel
theorem dX7_decide_21 : decode cX7_decide 21 = .ok (.getfield 26, 3) := by decide +kernel
theorem dX7_decide_24 : decode cX7_decide 24 = .ok (.getfield 169, 3) := by decide +kernel
theorem dX7_decide_27 : decode cX7_decide 27 = .ok (.bipush (-9), 2) := by decide +kernel
theorem dX7_decide_29 : decode cX7_decide 29 = .ok (.if_icmp .eq 13, 3) := by decide +kernel
theorem dX7_decide_32 : decode cX7_decide 32 = .ok (.new 68, 3) := by decide +kernel
theorem dX7_decide_35 : decode cX7_decide 35 = .ok (.dup, 1) := by decide +kernel
theorem dX7_decide_36 : decode cX7_decide 36 = .ok (.ldc 172, 2) := by decide +kernel
theorem dX7_decide_38 : decode cX7_decide 38 = .ok (.invokespecial 72, 3) := by decide +kernel
theorem dX7_decide_41 : decode cX7_decide 41 = .ok (.athrow, 1) := by decide +kernel
theorem dX7_decide_42 : decode cX7_decide 42 = .ok (.aload_n 0, 1) := by decide +kernel
theorem dX7_decide_43 : decode cX7_decide 43 = .ok (.getfield 26, 3) := by decide +kernel
theorem dX7_decide_46 : decode cX7_decide 46 = .ok (.iload_n 1, 1) := by decide +kernel
theorem dX7_decide_47 : decode cX7_decide 47 = .ok (.invokestatic 174, 3) := by decide +kernel
theorem dX7_decide_50 : decode cX7_decide 50 = .ok (.invokevirtual 177, 3) := by decide +kernel
theorem dX7_decide_53 : decode cX7_decide 53 = .ok (.ifCond .eq 13, 3) := by decide +kernel
theorem dX7_decide_56 : decode cX7_decide 56 = .ok (.new 68, 3) := by decide +kernel
theorem dX7_decide_59 : decode cX7_decide 59 = .ok (.dup, 1) := by decide +kernel
theorem dX7_decide_60 : decode cX7_decide 60 = .ok (.ldc 180, 2) := by decide +kernel
theorem dX7_decide_62 : decode cX7_decide 62 = .ok (.invokespecial 72, 3) := by decide +kernel
theorem dX7_decide_65 : decode cX7_decide 65 = .ok (.athrow, 1) := by decide +kernel
theorem dX7_decide_66 : decode cX7_decide 66 = .ok (.aload_n 0, 1) := by decide +kernel
theorem dX7_decide_67 : decode cX7_decide 67 = .ok (.getfield 33, 3) := by decide +kernel
theorem dX7_decide_70 : decode cX7_decide 70 = .ok (.aload_n 0, 1) := by decide +kernel
theorem dX7_decide_71 : decode cX7_decide 71 = .ok (.getfield 19, 3) := by decide +kernel
theorem dX7_decide_74 : decode cX7_decide 74 = .ok (.invokevirtual 146, 3) := by decide +kernel
theorem dX7_decide_77 : decode cX7_decide 77 = .ok (.aload_n 0, 1) := by decide +kernel
theorem dX7_decide_78 : decode cX7_decide 78 = .ok (.getfield 19, 3) := by decide +kernel
theorem dX7_decide_81 : decode cX7_decide 81 = .ok (.iload_n 1, 1) := by decide +kernel
theorem dX7_decide_82 : decode cX7_decide 82 = .ok (.invokevirtual 182, 3) := by decide +kernel
theorem dX7_decide_85 : decode cX7_decide 85 = .ok (.aload_n 0, 1) := by decide +kernel
theorem dX7_decide_86 : decode cX7_decide 86 = .ok (.invokevirtual 103, 3) := by decide +kernel
theorem dX7_decide_89 : decode cX7_decide 89 = .ok (.aload_n 0, 1) := by decide +kernel
theorem dX7_decide_90 : decode cX7_decide 90 = .ok (.getfield 26, 3) := by decide +kernel
theorem dX7_decide_93 : decode cX7_decide 93 = .ok (.getfield 185, 3) := by decide +kernel
theorem dX7_decide_96 : decode cX7_decide 96 = .ok (.ireturn, 1) := by decide +kernel
theorem dX7_backtrack_0 : decode cX7_backtrack 0 = .ok (.iload_n 1, 1) := by decide +kernel
theorem dX7_backtrack_1 : decode cX7_backtrack 1 = .ok (.ifCond .lt 14, 3) := by decide +kernel
theorem dX7_backtrack_4 : decode cX7_backtrack 4 = .ok (.iload_n 1, 1) := by decide +kernel
theorem dX7_backtrack_5 : decode cX7_backtrack 5 = .ok (.aload_n 0, 1) := by decide +kernel
theorem dX7_backtrack_6 : decode cX7_backtrack 6 = .ok (.getfield 19, 3) := by decide +kernel
theorem dX7_backtrack_9 : decode cX7_backtrack 9 = .ok (.getfield 186, 3) := by decide +kernel
theorem dX7_backtrack_12 : decode cX7_backtrack 12 = .ok (.if_icmp .le 13, 3) := by decide +kernel
theorem dX7_backtrack_15 : decode cX7_backtrack 15 = .ok (.new 57, 3) := by decide +kernel
theorem dX7_backtrack_18 : decode cX7_backtrack 18 = .ok (.dup, 1) := by decide +kernel
theorem dX7_backtrack_19 : decode cX7_backtrack 19 = .ok (.ldc 189, 2) := by decide +kernel
theorem dX7_backtrack_21 : decode cX7_backtrack 21 = .ok (.invokespecial 61, 3) := by decide +kernel
theorem dX7_backtrack_24 : decode cX7_backtrack 24 = .ok (.athrow, 1) := by decide +kernel
theorem dX7_backtrack_25 : decode cX7_backtrack 25 = .ok (.aload_n 0, 1) := by decide +kernel
theorem dX7_backtrack_26 : decode cX7_backtrack 26 = .ok (.getfield 33, 3) := by decide +kernel
theorem dX7_backtrack_29 : decode cX7_backtrack 29 = .ok (.aload_n 0, 1) := by decide +kernel
theorem dX7_backtrack_30 : decode cX7_backtrack 30 = .ok (.getfield 19, 3) := by decide +kernel
theorem dX7_backtrack_33 : decode cX7_backtrack 33 = .ok (.invokevirtual 146, 3) := by decide +kernel
theorem dX7_backtrack_36 : decode cX7_backtrack 36 = .ok (.aload_n 0, 1) := by decide +kernel
theorem dX7_backtrack_37 : decode cX7_backtrack 37 = .ok (.getfield 19, 3) := by decide +kernel
theorem dX7_backtrack_40 : decode cX7_backtrack 40 = .ok (.iload_n 1, 1) := by decide +kernel
theorem dX7_backtrack_41 : decode cX7_backtrack 41 = .ok (.invokevirtual 94, 3) := by decide +kernel
theorem dX7_backtrack_44 : decode cX7_backtrack 44 = .ok (.aload_n 0, 1) := by decide +kernel
theorem dX7_backtrack_45 : decode cX7_backtrack 45 = .ok (.invokevirtual 103, 3) := by decide +kernel
theorem dX7_backtrack_48 : decode cX7_backtrack 48 = .ok (.aload_n 0, 1) := by decide +kernel
theorem dX7_backtrack_49 : decode cX7_backtrack 49 = .ok (.getfield 26, 3) := by decide +kernel
theorem dX7_backtrack_52 : decode cX7_backtrack 52 = .ok (.getfield 185, 3) := by decide +kernel
theorem dX7_backtrack_55 : decode cX7_backtrack 55 = .ok (.ireturn, 1) := by decide +kernel
theorem dX7_learn_0 : decode cX7_learn 0 = .ok (.aload_n 0, 1) := by decide +kernel
theorem dX7_learn_1 : decode cX7_learn 1 = .ok (.invokevirtual 191, 3) := by decide +kernel
theorem dX7_learn_4 : decode cX7_learn 4 = .ok (.aload_n 0, 1) := by decide +kernel
theorem dX7_learn_5 : decode cX7_learn 5 = .ok (.invokevirtual 130, 3) := by decide +kernel
theorem dX7_learn_8 : decode cX7_learn 8 = .ok (.aload_n 0, 1) := by decide +kernel
theorem dX7_learn_9 : decode cX7_learn 9 = .ok (.getfield 33, 3) := by decide +kernel
theorem dX7_learn_12 : decode cX7_learn 12 = .ok (.aload_n 0, 1) := by decide +kernel
theorem dX7_learn_13 : decode cX7_learn 13 = .ok (.getfield 19, 3) := by decide +kernel
theorem dX7_learn_16 : decode cX7_learn 16 = .ok (.invokevirtual 146, 3) := by decide +kernel
theorem dX7_learn_19 : decode cX7_learn 19 = .ok (.aload_n 0, 1) := by decide +kernel
theorem dX7_learn_20 : decode cX7_learn 20 = .ok (.getfield 19, 3) := by decide +kernel
theorem dX7_learn_23 : decode cX7_learn 23 = .ok (.aload_n 0, 1) := by decide +kernel
theorem dX7_learn_24 : decode cX7_learn 24 = .ok (.getfield 26, 3) := by decide +kernel
theorem dX7_learn_27 : decode cX7_learn 27 = .ok (.invokestatic 194, 3) := by decide +kernel
theorem dX7_learn_30 : decode cX7_learn 30 = .ok (.istore_n 1, 1) := by decide +kernel
theorem dX7_learn_31 : decode cX7_learn 31 = .ok (.aload_n 0, 1) := by decide +kernel
theorem dX7_learn_32 : decode cX7_learn 32 = .ok (.invokevirtual 103, 3) := by decide +kernel
theorem dX7_learn_35 : decode cX7_learn 35 = .ok (.iload_n 1, 1) := by decide +kernel
theorem dX7_learn_36 : decode cX7_learn 36 = .ok (.ireturn, 1) := by decide +kernel
theorem dX7_undo_0 : decode cX7_undo 0 = .ok (.aload_n 0, 1) := by decide +kernel
theorem dX7_undo_1 : decode cX7_undo 1 = .ok (.getfield 33, 3) := by decide +kernel
theorem dX7_undo_4 : decode cX7_undo 4 = .ok (.getfield 198, 3) := by decide +kernel
theorem dX7_undo_7 : decode cX7_undo 7 = .ok (.ifCond .ne 13, 3) := by decide +kernel
theorem dX7_undo_10 : decode cX7_undo 10 = .ok (.new 68, 3) := by decide +kernel
theorem dX7_undo_13 : decode cX7_undo 13 = .ok (.dup, 1) := by decide +kernel
theorem dX7_undo_14 : decode cX7_undo 14 = .ok (.ldc 201, 2) := by decide +kernel
theorem dX7_undo_16 : decode cX7_undo 16 = .ok (.invokespecial 72, 3) := by decide +kernel
theorem dX7_undo_19 : decode cX7_undo 19 = .ok (.athrow, 1) := by decide +kernel
theorem dX7_undo_20 : decode cX7_undo 20 = .ok (.aload_n 0, 1) := by decide +kernel
theorem dX7_undo_21 : decode cX7_undo 21 = .ok (.getfield 33, 3) := by decide +kernel
theorem dX7_undo_24 : decode cX7_undo 24 = .ok (.aload_n 0, 1) := by decide +kernel
theorem dX7_undo_25 : decode cX7_undo 25 = .ok (.getfield 19, 3) := by decide +kernel
theorem dX7_undo_28 : decode cX7_undo 28 = .ok (.invokevirtual 203, 3) := by decide +kernel
theorem dX7_undo_31 : decode cX7_undo 31 = .ok (.aload_n 0, 1) := by decide +kernel
theorem dX7_undo_32 : decode cX7_undo 32 = .ok (.invokevirtual 103, 3) := by decide +kernel
theorem dX7_undo_35 : decode cX7_undo 35 = .ok (.aload_n 0, 1) := by decide +kernel
theorem dX7_undo_36 : decode cX7_undo 36 = .ok (.getfield 33, 3) := by decide +kernel
theorem dX7_undo_39 : decode cX7_undo 39 = .ok (.getfield 198, 3) := by decide +kernel
theorem dX7_undo_42 : decode cX7_undo 42 = .ok (.ireturn, 1) := by decide +kernel
theorem dX7_level_0 : decode cX7_level 0 = .ok (.aload_n 0, 1) := by decide +kernel
theorem dX7_level_1 : decode cX7_level 1 = .ok (.getfield 19, 3) := by decide +kernel
theorem dX7_level_4 : decode cX7_level 4 = .ok (.getfield 186, 3) := by decide +kernel
theorem dX7_level_7 : decode cX7_level 7 = .ok (.ireturn, 1) := by decide +kernel
theorem dX7_value_0 : decode cX7_value 0 = .ok (.iload_n 1, 1) := by decide +kernel
theorem dX7_value_1 : decode cX7_value 1 = .ok (.invokestatic 153, 3) := by decide +kernel
theorem dX7_value_4 : decode cX7_value 4 = .ok (.aload_n 0, 1) := by decide +kernel
theorem dX7_value_5 : decode cX7_value 5 = .ok (.getfield 26, 3) := by decide +kernel
theorem dX7_value_8 : decode cX7_value 8 = .ok (.iload_n 1, 1) := by decide +kernel
theorem dX7_value_9 : decode cX7_value 9 = .ok (.invokevirtual 177, 3) := by decide +kernel
theorem dX7_value_12 : decode cX7_value 12 = .ok (.ifCond .ne 5, 3) := by decide +kernel
theorem dX7_value_15 : decode cX7_value 15 = .ok (.iconst 2, 1) := by decide +kernel
theorem dX7_value_16 : decode cX7_value 16 = .ok (.ireturn, 1) := by decide +kernel
theorem dX7_value_17 : decode cX7_value 17 = .ok (.aload_n 0, 1) := by decide +kernel
theorem dX7_value_18 : decode cX7_value 18 = .ok (.getfield 26, 3) := by decide +kernel
theorem dX7_value_21 : decode cX7_value 21 = .ok (.iload_n 1, 1) := by decide +kernel
theorem dX7_value_22 : decode cX7_value 22 = .ok (.invokevirtual 206, 3) := by decide +kernel
theorem dX7_value_25 : decode cX7_value 25 = .ok (.ifCond .eq 7, 3) := by decide +kernel
theorem dX7_value_28 : decode cX7_value 28 = .ok (.iconst 1, 1) := by decide +kernel
theorem dX7_value_29 : decode cX7_value 29 = .ok (.goto 4, 3) := by decide +kernel
theorem dX7_value_32 : decode cX7_value 32 = .ok (.iconst 0, 1) := by decide +kernel
theorem dX7_value_33 : decode cX7_value 33 = .ok (.ireturn, 1) := by decide +kernel
theorem dX7_trailLiteral_0 : decode cX7_trailLiteral 0 = .ok (.iload_n 1, 1) := by decide +kernel
theorem dX7_trailLiteral_1 : decode cX7_trailLiteral 1 = .ok (.ifCond .lt 14, 3) := by decide +kernel
theorem dX7_trailLiteral_4 : decode cX7_trailLiteral 4 = .ok (.iload_n 1, 1) := by decide +kernel
theorem dX7_trailLiteral_5 : decode cX7_trailLiteral 5 = .ok (.aload_n 0, 1) := by decide +kernel
theorem dX7_trailLiteral_6 : decode cX7_trailLiteral 6 = .ok (.getfield 26, 3) := by decide +kernel
theorem dX7_trailLiteral_9 : decode cX7_trailLiteral 9 = .ok (.getfield 185, 3) := by decide +kernel
theorem dX7_trailLiteral_12 : decode cX7_trailLiteral 12 = .ok (.if_icmp .lt 13, 3) := by decide +kernel
theorem dX7_trailLiteral_15 : decode cX7_trailLiteral 15 = .ok (.new 164, 3) := by decide +kernel
theorem dX7_trailLiteral_18 : decode cX7_trailLiteral 18 = .ok (.dup, 1) := by decide +kernel
theorem dX7_trailLiteral_19 : decode cX7_trailLiteral 19 = .ok (.ldc 209, 2) := by decide +kernel
theorem dX7_trailLiteral_21 : decode cX7_trailLiteral 21 = .ok (.invokespecial 168, 3) := by decide +kernel
theorem dX7_trailLiteral_24 : decode cX7_trailLiteral 24 = .ok (.athrow, 1) := by decide +kernel
theorem dX7_trailLiteral_25 : decode cX7_trailLiteral 25 = .ok (.aload_n 0, 1) := by decide +kernel
theorem dX7_trailLiteral_26 : decode cX7_trailLiteral 26 = .ok (.getfield 26, 3) := by decide +kernel
theorem dX7_trailLiteral_29 : decode cX7_trailLiteral 29 = .ok (.iload_n 1, 1) := by decide +kernel
theorem dX7_trailLiteral_30 : decode cX7_trailLiteral 30 = .ok (.invokevirtual 211, 3) := by decide +kernel
theorem dX7_trailLiteral_33 : decode cX7_trailLiteral 33 = .ok (.ireturn, 1) := by decide +kernel
theorem dX7_reason_0 : decode cX7_reason 0 = .ok (.iload_n 1, 1) := by decide +kernel
theorem dX7_reason_1 : decode cX7_reason 1 = .ok (.invokestatic 153, 3) := by decide +kernel
theorem dX7_reason_4 : decode cX7_reason 4 = .ok (.aload_n 0, 1) := by decide +kernel
theorem dX7_reason_5 : decode cX7_reason 5 = .ok (.getfield 26, 3) := by decide +kernel
theorem dX7_reason_8 : decode cX7_reason 8 = .ok (.iload_n 1, 1) := by decide +kernel
theorem dX7_reason_9 : decode cX7_reason 9 = .ok (.invokevirtual 214, 3) := by decide +kernel
theorem dX7_reason_12 : decode cX7_reason 12 = .ok (.ireturn, 1) := by decide +kernel
theorem dX7_conflict_0 : decode cX7_conflict 0 = .ok (.aload_n 0, 1) := by decide +kernel
theorem dX7_conflict_1 : decode cX7_conflict 1 = .ok (.getfield 26, 3) := by decide +kernel
theorem dX7_conflict_4 : decode cX7_conflict 4 = .ok (.getfield 169, 3) := by decide +kernel
theorem dX7_conflict_7 : decode cX7_conflict 7 = .ok (.ireturn, 1) := by decide +kernel
theorem dX7_learnedClause_0 : decode cX7_learnedClause 0 = .ok (.aload_n 0, 1) := by decide +kernel
theorem dX7_learnedClause_1 : decode cX7_learnedClause 1 = .ok (.invokevirtual 191, 3) := by decide +kernel
theorem dX7_learnedClause_4 : decode cX7_learnedClause 4 = .ok (.aload_n 0, 1) := by decide +kernel
theorem dX7_learnedClause_5 : decode cX7_learnedClause 5 = .ok (.getfield 26, 3) := by decide +kernel
theorem dX7_learnedClause_8 : decode cX7_learnedClause 8 = .ok (.aload_n 0, 1) := by decide +kernel
theorem dX7_learnedClause_9 : decode cX7_learnedClause 9 = .ok (.getfield 26, 3) := by decide +kernel
theorem dX7_learnedClause_12 : decode cX7_learnedClause 12 = .ok (.aload_n 0, 1) := by decide +kernel
theorem dX7_learnedClause_13 : decode cX7_learnedClause 13 = .ok (.getfield 19, 3) := by decide +kernel
theorem dX7_learnedClause_16 : decode cX7_learnedClause 16 = .ok (.getfield 83, 3) := by decide +kernel
theorem dX7_learnedClause_19 : decode cX7_learnedClause 19 = .ok (.invokevirtual 217, 3) := by decide +kernel
theorem dX7_learnedClause_22 : decode cX7_learnedClause 22 = .ok (.invokevirtual 221, 3) := by decide +kernel
theorem dX7_learnedClause_25 : decode cX7_learnedClause 25 = .ok (.ireturn, 1) := by decide +kernel
theorem dX7_modelCount_0 : decode cX7_modelCount 0 = .ok (.aload_n 0, 1) := by decide +kernel
theorem dX7_modelCount_1 : decode cX7_modelCount 1 = .ok (.getfield 40, 3) := by decide +kernel
theorem dX7_modelCount_4 : decode cX7_modelCount 4 = .ok (.aload_n 0, 1) := by decide +kernel
theorem dX7_modelCount_5 : decode cX7_modelCount 5 = .ok (.getfield 19, 3) := by decide +kernel
theorem dX7_modelCount_8 : decode cX7_modelCount 8 = .ok (.getfield 83, 3) := by decide +kernel
theorem dX7_modelCount_11 : decode cX7_modelCount 11 = .ok (.invokevirtual 224, 3) := by decide +kernel
theorem dX7_modelCount_14 : decode cX7_modelCount 14 = .ok (.aload_n 0, 1) := by decide +kernel
theorem dX7_modelCount_15 : decode cX7_modelCount 15 = .ok (.getfield 40, 3) := by decide +kernel
theorem dX7_modelCount_18 : decode cX7_modelCount 18 = .ok (.invokevirtual 227, 3) := by decide +kernel
theorem dX7_modelCount_21 : decode cX7_modelCount 21 = .ok (.ireturn, 1) := by decide +kernel
theorem dX7_model_0 : decode cX7_model 0 = .ok (.aload_n 0, 1) := by decide +kernel
theorem dX7_model_1 : decode cX7_model 1 = .ok (.getfield 40, 3) := by decide +kernel
theorem dX7_model_4 : decode cX7_model 4 = .ok (.aload_n 0, 1) := by decide +kernel
theorem dX7_model_5 : decode cX7_model 5 = .ok (.getfield 19, 3) := by decide +kernel
theorem dX7_model_8 : decode cX7_model 8 = .ok (.getfield 83, 3) := by decide +kernel
theorem dX7_model_11 : decode cX7_model 11 = .ok (.invokevirtual 224, 3) := by decide +kernel
theorem dX7_model_14 : decode cX7_model 14 = .ok (.aload_n 0, 1) := by decide +kernel
theorem dX7_model_15 : decode cX7_model 15 = .ok (.getfield 40, 3) := by decide +kernel
theorem dX7_model_18 : decode cX7_model 18 = .ok (.iload_n 1, 1) := by decide +kernel
theorem dX7_model_19 : decode cX7_model 19 = .ok (.invokevirtual 230, 3) := by decide +kernel
theorem dX7_model_22 : decode cX7_model 22 = .ok (.ireturn, 1) := by decide +kernel
theorem dX7_impliesClause_0 : decode cX7_impliesClause 0 = .ok (.iload_n 1, 1) := by decide +kernel
theorem dX7_impliesClause_1 : decode cX7_impliesClause 1 = .ok (.iload_n 2, 1) := by decide +kernel
theorem dX7_impliesClause_2 : decode cX7_impliesClause 2 = .ok (.invokestatic 126, 3) := by decide +kernel
theorem dX7_impliesClause_5 : decode cX7_impliesClause 5 = .ok (.aload_n 0, 1) := by decide +kernel
theorem dX7_impliesClause_6 : decode cX7_impliesClause 6 = .ok (.getfield 40, 3) := by decide +kernel
theorem dX7_impliesClause_9 : decode cX7_impliesClause 9 = .ok (.aload_n 0, 1) := by decide +kernel
theorem dX7_impliesClause_10 : decode cX7_impliesClause 10 = .ok (.getfield 19, 3) := by decide +kernel
theorem dX7_impliesClause_13 : decode cX7_impliesClause 13 = .ok (.getfield 83, 3) := by decide +kernel
theorem dX7_impliesClause_16 : decode cX7_impliesClause 16 = .ok (.invokevirtual 224, 3) := by decide +kernel
theorem dX7_impliesClause_19 : decode cX7_impliesClause 19 = .ok (.aload_n 0, 1) := by decide +kernel
theorem dX7_impliesClause_20 : decode cX7_impliesClause 20 = .ok (.getfield 40, 3) := by decide +kernel
theorem dX7_impliesClause_23 : decode cX7_impliesClause 23 = .ok (.iload_n 1, 1) := by decide +kernel
theorem dX7_impliesClause_24 : decode cX7_impliesClause 24 = .ok (.iload_n 2, 1) := by decide +kernel
theorem dX7_impliesClause_25 : decode cX7_impliesClause 25 = .ok (.invokestatic 133, 3) := by decide +kernel
theorem dX7_impliesClause_28 : decode cX7_impliesClause 28 = .ok (.invokevirtual 233, 3) := by decide +kernel
theorem dX7_impliesClause_31 : decode cX7_impliesClause 31 = .ok (.ireturn, 1) := by decide +kernel
theorem dX7_impliesParity_0 : decode cX7_impliesParity 0 = .ok (.iload_n 1, 1) := by decide +kernel
theorem dX7_impliesParity_1 : decode cX7_impliesParity 1 = .ok (.iload_n 2, 1) := by decide +kernel
theorem dX7_impliesParity_2 : decode cX7_impliesParity 2 = .ok (.invokestatic 140, 3) := by decide +kernel
theorem dX7_impliesParity_5 : decode cX7_impliesParity 5 = .ok (.aload_n 0, 1) := by decide +kernel
theorem dX7_impliesParity_6 : decode cX7_impliesParity 6 = .ok (.getfield 40, 3) := by decide +kernel
theorem dX7_impliesParity_9 : decode cX7_impliesParity 9 = .ok (.aload_n 0, 1) := by decide +kernel
theorem dX7_impliesParity_10 : decode cX7_impliesParity 10 = .ok (.getfield 19, 3) := by decide +kernel
theorem dX7_impliesParity_13 : decode cX7_impliesParity 13 = .ok (.getfield 83, 3) := by decide +kernel
theorem dX7_impliesParity_16 : decode cX7_impliesParity 16 = .ok (.invokevirtual 224, 3) := by decide +kernel
theorem dX7_impliesParity_19 : decode cX7_impliesParity 19 = .ok (.aload_n 0, 1) := by decide +kernel
theorem dX7_impliesParity_20 : decode cX7_impliesParity 20 = .ok (.getfield 40, 3) := by decide +kernel
theorem dX7_impliesParity_23 : decode cX7_impliesParity 23 = .ok (.iload_n 1, 1) := by decide +kernel
theorem dX7_impliesParity_24 : decode cX7_impliesParity 24 = .ok (.iload_n 2, 1) := by decide +kernel
theorem dX7_impliesParity_25 : decode cX7_impliesParity 25 = .ok (.invokestatic 143, 3) := by decide +kernel
theorem dX7_impliesParity_28 : decode cX7_impliesParity 28 = .ok (.invokevirtual 233, 3) := by decide +kernel
theorem dX7_impliesParity_31 : decode cX7_impliesParity 31 = .ok (.ireturn, 1) := by decide +kernel
theorem dX7_core_0 : decode cX7_core 0 = .ok (.aload_n 0, 1) := by decide +kernel
theorem dX7_core_1 : decode cX7_core 1 = .ok (.getfield 40, 3) := by decide +kernel
theorem dX7_core_4 : decode cX7_core 4 = .ok (.aload_n 0, 1) := by decide +kernel
theorem dX7_core_5 : decode cX7_core 5 = .ok (.getfield 19, 3) := by decide +kernel
theorem dX7_core_8 : decode cX7_core 8 = .ok (.getfield 83, 3) := by decide +kernel
theorem dX7_core_11 : decode cX7_core 11 = .ok (.invokevirtual 224, 3) := by decide +kernel
theorem dX7_core_14 : decode cX7_core 14 = .ok (.iconst 1, 1) := by decide +kernel
theorem dX7_core_15 : decode cX7_core 15 = .ok (.aload_n 0, 1) := by decide +kernel
theorem dX7_core_16 : decode cX7_core 16 = .ok (.getfield 19, 3) := by decide +kernel
theorem dX7_core_19 : decode cX7_core 19 = .ok (.getfield 83, 3) := by decide +kernel
theorem dX7_core_22 : decode cX7_core 22 = .ok (.getfield 106, 3) := by decide +kernel
theorem dX7_core_25 : decode cX7_core 25 = .ok (.ishl, 1) := by decide +kernel
theorem dX7_core_26 : decode cX7_core 26 = .ok (.iconst 1, 1) := by decide +kernel
theorem dX7_core_27 : decode cX7_core 27 = .ok (.isub, 1) := by decide +kernel
theorem dX7_core_28 : decode cX7_core 28 = .ok (.istore_n 1, 1) := by decide +kernel
theorem dX7_core_29 : decode cX7_core 29 = .ok (.aload_n 0, 1) := by decide +kernel
theorem dX7_core_30 : decode cX7_core 30 = .ok (.getfield 40, 3) := by decide +kernel
theorem dX7_core_33 : decode cX7_core 33 = .ok (.iload_n 1, 1) := by decide +kernel
theorem dX7_core_34 : decode cX7_core 34 = .ok (.invokevirtual 236, 3) := by decide +kernel
theorem dX7_core_37 : decode cX7_core 37 = .ok (.ifCond .eq 6, 3) := by decide +kernel
theorem dX7_core_40 : decode cX7_core 40 = .ok (.bipush (-9), 2) := by decide +kernel
theorem dX7_core_42 : decode cX7_core 42 = .ok (.ireturn, 1) := by decide +kernel
theorem dX7_core_43 : decode cX7_core 43 = .ok (.iconst 0, 1) := by decide +kernel
theorem dX7_core_44 : decode cX7_core 44 = .ok (.istore_n 2, 1) := by decide +kernel
theorem dX7_core_45 : decode cX7_core 45 = .ok (.iload_n 2, 1) := by decide +kernel
theorem dX7_core_46 : decode cX7_core 46 = .ok (.aload_n 0, 1) := by decide +kernel
theorem dX7_core_47 : decode cX7_core 47 = .ok (.getfield 19, 3) := by decide +kernel
theorem dX7_core_50 : decode cX7_core 50 = .ok (.getfield 83, 3) := by decide +kernel
theorem dX7_core_53 : decode cX7_core 53 = .ok (.getfield 106, 3) := by decide +kernel
theorem dX7_core_56 : decode cX7_core 56 = .ok (.if_icmp .ge 30, 3) := by decide +kernel
theorem dX7_core_59 : decode cX7_core 59 = .ok (.iload_n 1, 1) := by decide +kernel
theorem dX7_core_60 : decode cX7_core 60 = .ok (.iconst 1, 1) := by decide +kernel
theorem dX7_core_61 : decode cX7_core 61 = .ok (.iload_n 2, 1) := by decide +kernel
theorem dX7_core_62 : decode cX7_core 62 = .ok (.ishl, 1) := by decide +kernel
theorem dX7_core_63 : decode cX7_core 63 = .ok (.iconst (-1), 1) := by decide +kernel
theorem dX7_core_64 : decode cX7_core 64 = .ok (.ixor, 1) := by decide +kernel
theorem dX7_core_65 : decode cX7_core 65 = .ok (.iand, 1) := by decide +kernel
theorem dX7_core_66 : decode cX7_core 66 = .ok (.istore_n 3, 1) := by decide +kernel
theorem dX7_core_67 : decode cX7_core 67 = .ok (.aload_n 0, 1) := by decide +kernel
theorem dX7_core_68 : decode cX7_core 68 = .ok (.getfield 40, 3) := by decide +kernel
theorem dX7_core_71 : decode cX7_core 71 = .ok (.iload_n 3, 1) := by decide +kernel
theorem dX7_core_72 : decode cX7_core 72 = .ok (.invokevirtual 236, 3) := by decide +kernel
theorem dX7_core_75 : decode cX7_core 75 = .ok (.ifCond .ne 5, 3) := by decide +kernel
theorem dX7_core_78 : decode cX7_core 78 = .ok (.iload_n 3, 1) := by decide +kernel
theorem dX7_core_79 : decode cX7_core 79 = .ok (.istore_n 1, 1) := by decide +kernel
theorem dX7_core_80 : decode cX7_core 80 = .ok (.iinc 2 1, 3) := by decide +kernel
theorem dX7_core_83 : decode cX7_core 83 = .ok (.goto (-38), 3) := by decide +kernel
theorem dX7_core_86 : decode cX7_core 86 = .ok (.iload_n 1, 1) := by decide +kernel
theorem dX7_core_87 : decode cX7_core 87 = .ok (.ireturn, 1) := by decide +kernel
theorem dX7_rank_0 : decode cX7_rank 0 = .ok (.aload_n 0, 1) := by decide +kernel
theorem dX7_rank_1 : decode cX7_rank 1 = .ok (.getfield 47, 3) := by decide +kernel
theorem dX7_rank_4 : decode cX7_rank 4 = .ok (.aload_n 0, 1) := by decide +kernel
theorem dX7_rank_5 : decode cX7_rank 5 = .ok (.getfield 19, 3) := by decide +kernel
theorem dX7_rank_8 : decode cX7_rank 8 = .ok (.getfield 83, 3) := by decide +kernel
theorem dX7_rank_11 : decode cX7_rank 11 = .ok (.invokevirtual 239, 3) := by decide +kernel
theorem dX7_rank_14 : decode cX7_rank 14 = .ok (.aload_n 0, 1) := by decide +kernel
theorem dX7_rank_15 : decode cX7_rank 15 = .ok (.getfield 47, 3) := by decide +kernel
theorem dX7_rank_18 : decode cX7_rank 18 = .ok (.getfield 242, 3) := by decide +kernel
theorem dX7_rank_21 : decode cX7_rank 21 = .ok (.ireturn, 1) := by decide +kernel
theorem dX7_isConsistent_0 : decode cX7_isConsistent 0 = .ok (.aload_n 0, 1) := by decide +kernel
theorem dX7_isConsistent_1 : decode cX7_isConsistent 1 = .ok (.getfield 47, 3) := by decide +kernel
theorem dX7_isConsistent_4 : decode cX7_isConsistent 4 = .ok (.aload_n 0, 1) := by decide +kernel
theorem dX7_isConsistent_5 : decode cX7_isConsistent 5 = .ok (.getfield 19, 3) := by decide +kernel
theorem dX7_isConsistent_8 : decode cX7_isConsistent 8 = .ok (.getfield 83, 3) := by decide +kernel
theorem dX7_isConsistent_11 : decode cX7_isConsistent 11 = .ok (.invokevirtual 239, 3) := by decide +kernel
theorem dX7_isConsistent_14 : decode cX7_isConsistent 14 = .ok (.aload_n 0, 1) := by decide +kernel
theorem dX7_isConsistent_15 : decode cX7_isConsistent 15 = .ok (.getfield 47, 3) := by decide +kernel
theorem dX7_isConsistent_18 : decode cX7_isConsistent 18 = .ok (.getfield 245, 3) := by decide +kernel
theorem dX7_isConsistent_21 : decode cX7_isConsistent 21 = .ok (.ireturn, 1) := by decide +kernel
theorem dX7_eliminatedRow_0 : decode cX7_eliminatedRow 0 = .ok (.aload_n 0, 1) := by decide +kernel
theorem dX7_eliminatedRow_1 : decode cX7_eliminatedRow 1 = .ok (.getfield 47, 3) := by decide +kernel
theorem dX7_eliminatedRow_4 : decode cX7_eliminatedRow 4 = .ok (.aload_n 0, 1) := by decide +kernel
theorem dX7_eliminatedRow_5 : decode cX7_eliminatedRow 5 = .ok (.getfield 19, 3) := by decide +kernel
theorem dX7_eliminatedRow_8 : decode cX7_eliminatedRow 8 = .ok (.getfield 83, 3) := by decide +kernel
theorem dX7_eliminatedRow_11 : decode cX7_eliminatedRow 11 = .ok (.invokevirtual 239, 3) := by decide +kernel
theorem dX7_eliminatedRow_14 : decode cX7_eliminatedRow 14 = .ok (.aload_n 0, 1) := by decide +kernel
theorem dX7_eliminatedRow_15 : decode cX7_eliminatedRow 15 = .ok (.getfield 47, 3) := by decide +kernel
theorem dX7_eliminatedRow_18 : decode cX7_eliminatedRow 18 = .ok (.getfield 245, 3) := by decide +kernel
theorem dX7_eliminatedRow_21 : decode cX7_eliminatedRow 21 = .ok (.ifCond .ne 13, 3) := by decide +kernel
theorem dX7_eliminatedRow_24 : decode cX7_eliminatedRow 24 = .ok (.new 68, 3) := by decide +kernel
theorem dX7_eliminatedRow_27 : decode cX7_eliminatedRow 27 = .ok (.dup, 1) := by decide +kernel
theorem dX7_eliminatedRow_28 : decode cX7_eliminatedRow 28 = .ok (.ldc 249, 2) := by decide +kernel
theorem dX7_eliminatedRow_30 : decode cX7_eliminatedRow 30 = .ok (.invokespecial 72, 3) := by decide +kernel
theorem dX7_eliminatedRow_33 : decode cX7_eliminatedRow 33 = .ok (.athrow, 1) := by decide +kernel
theorem dX7_eliminatedRow_34 : decode cX7_eliminatedRow 34 = .ok (.aload_n 0, 1) := by decide +kernel
theorem dX7_eliminatedRow_35 : decode cX7_eliminatedRow 35 = .ok (.getfield 47, 3) := by decide +kernel
theorem dX7_eliminatedRow_38 : decode cX7_eliminatedRow 38 = .ok (.iload_n 1, 1) := by decide +kernel
theorem dX7_eliminatedRow_39 : decode cX7_eliminatedRow 39 = .ok (.invokevirtual 251, 3) := by decide +kernel
theorem dX7_eliminatedRow_42 : decode cX7_eliminatedRow 42 = .ok (.ireturn, 1) := by decide +kernel
theorem dX7_solve_0 : decode cX7_solve 0 = .ok (.aload_n 0, 1) := by decide +kernel
theorem dX7_solve_1 : decode cX7_solve 1 = .ok (.getfield 51, 3) := by decide +kernel
theorem dX7_solve_4 : decode cX7_solve 4 = .ok (.getfield 83, 3) := by decide +kernel
theorem dX7_solve_7 : decode cX7_solve 7 = .ok (.aload_n 0, 1) := by decide +kernel
theorem dX7_solve_8 : decode cX7_solve 8 = .ok (.getfield 19, 3) := by decide +kernel
theorem dX7_solve_11 : decode cX7_solve 11 = .ok (.getfield 83, 3) := by decide +kernel
theorem dX7_solve_14 : decode cX7_solve 14 = .ok (.invokevirtual 88, 3) := by decide +kernel
theorem dX7_solve_17 : decode cX7_solve 17 = .ok (.aload_n 0, 1) := by decide +kernel
theorem dX7_solve_18 : decode cX7_solve 18 = .ok (.getfield 51, 3) := by decide +kernel
theorem dX7_solve_21 : decode cX7_solve 21 = .ok (.iconst 0, 1) := by decide +kernel
theorem dX7_solve_22 : decode cX7_solve 22 = .ok (.invokevirtual 94, 3) := by decide +kernel
theorem dX7_solve_25 : decode cX7_solve 25 = .ok (.aload_n 0, 1) := by decide +kernel
theorem dX7_solve_26 : decode cX7_solve 26 = .ok (.getfield 54, 3) := by decide +kernel
theorem dX7_solve_29 : decode cX7_solve 29 = .ok (.aload_n 0, 1) := by decide +kernel
theorem dX7_solve_30 : decode cX7_solve 30 = .ok (.getfield 51, 3) := by decide +kernel
theorem dX7_solve_33 : decode cX7_solve 33 = .ok (.invokevirtual 254, 3) := by decide +kernel
theorem dX7_solve_36 : decode cX7_solve 36 = .ok (.iconst 0, 1) := by decide +kernel
theorem dX7_solve_37 : decode cX7_solve 37 = .ok (.istore_n 1, 1) := by decide +kernel
theorem dX7_solve_38 : decode cX7_solve 38 = .ok (.iload_n 1, 1) := by decide +kernel
theorem dX7_solve_39 : decode cX7_solve 39 = .ok (.bipush 24, 2) := by decide +kernel
theorem dX7_solve_41 : decode cX7_solve 41 = .ok (.if_icmp .gt 80, 3) := by decide +kernel
theorem dX7_solve_44 : decode cX7_solve 44 = .ok (.aload_n 0, 1) := by decide +kernel
theorem dX7_solve_45 : decode cX7_solve 45 = .ok (.invokevirtual 257, 3) := by decide +kernel
theorem dX7_solve_48 : decode cX7_solve 48 = .ok (.aload_n 0, 1) := by decide +kernel
theorem dX7_solve_49 : decode cX7_solve 49 = .ok (.getfield 54, 3) := by decide +kernel
theorem dX7_solve_52 : decode cX7_solve 52 = .ok (.getfield 169, 3) := by decide +kernel
theorem dX7_solve_55 : decode cX7_solve 55 = .ok (.bipush (-9), 2) := by decide +kernel
theorem dX7_solve_57 : decode cX7_solve 57 = .ok (.if_icmp .ne 5, 3) := by decide +kernel
theorem dX7_solve_60 : decode cX7_solve 60 = .ok (.iload_n 1, 1) := by decide +kernel
theorem dX7_solve_61 : decode cX7_solve 61 = .ok (.ireturn, 1) := by decide +kernel
theorem dX7_solve_62 : decode cX7_solve 62 = .ok (.aload_n 0, 1) := by decide +kernel
theorem dX7_solve_63 : decode cX7_solve 63 = .ok (.getfield 51, 3) := by decide +kernel
theorem dX7_solve_66 : decode cX7_solve 66 = .ok (.getfield 186, 3) := by decide +kernel
theorem dX7_solve_69 : decode cX7_solve 69 = .ok (.ifCond .ne 7, 3) := by decide +kernel
theorem dX7_solve_72 : decode cX7_solve 72 = .ok (.iconst (-1), 1) := by decide +kernel
theorem dX7_solve_73 : decode cX7_solve 73 = .ok (.iload_n 1, 1) := by decide +kernel
theorem dX7_solve_74 : decode cX7_solve 74 = .ok (.isub, 1) := by decide +kernel
theorem dX7_solve_75 : decode cX7_solve 75 = .ok (.ireturn, 1) := by decide +kernel
theorem dX7_solve_76 : decode cX7_solve 76 = .ok (.aload_n 0, 1) := by decide +kernel
theorem dX7_solve_77 : decode cX7_solve 77 = .ok (.getfield 51, 3) := by decide +kernel
theorem dX7_solve_80 : decode cX7_solve 80 = .ok (.getfield 83, 3) := by decide +kernel
theorem dX7_solve_83 : decode cX7_solve 83 = .ok (.invokevirtual 260, 3) := by decide +kernel
theorem dX7_solve_86 : decode cX7_solve 86 = .ok (.ifCond .eq 6, 3) := by decide +kernel
theorem dX7_solve_89 : decode cX7_solve 89 = .ok (.bipush (-90), 2) := by decide +kernel
theorem dX7_solve_91 : decode cX7_solve 91 = .ok (.ireturn, 1) := by decide +kernel
theorem dX7_solve_92 : decode cX7_solve 92 = .ok (.aload_n 0, 1) := by decide +kernel
theorem dX7_solve_93 : decode cX7_solve 93 = .ok (.getfield 51, 3) := by decide +kernel
theorem dX7_solve_96 : decode cX7_solve 96 = .ok (.aload_n 0, 1) := by decide +kernel
theorem dX7_solve_97 : decode cX7_solve 97 = .ok (.getfield 54, 3) := by decide +kernel
theorem dX7_solve_100 : decode cX7_solve 100 = .ok (.invokestatic 194, 3) := by decide +kernel
theorem dX7_solve_103 : decode cX7_solve 103 = .ok (.pop, 1) := by decide +kernel
theorem dX7_solve_104 : decode cX7_solve 104 = .ok (.aload_n 0, 1) := by decide +kernel
theorem dX7_solve_105 : decode cX7_solve 105 = .ok (.getfield 54, 3) := by decide +kernel
theorem dX7_solve_108 : decode cX7_solve 108 = .ok (.aload_n 0, 1) := by decide +kernel
theorem dX7_solve_109 : decode cX7_solve 109 = .ok (.getfield 51, 3) := by decide +kernel
theorem dX7_solve_112 : decode cX7_solve 112 = .ok (.invokevirtual 254, 3) := by decide +kernel
theorem dX7_solve_115 : decode cX7_solve 115 = .ok (.iinc 1 1, 3) := by decide +kernel
theorem dX7_solve_118 : decode cX7_solve 118 = .ok (.goto (-80), 3) := by decide +kernel
theorem dX7_solve_121 : decode cX7_solve 121 = .ok (.bipush (-90), 2) := by decide +kernel
theorem dX7_solve_123 : decode cX7_solve 123 = .ok (.ireturn, 1) := by decide +kernel
theorem dX7_save_0 : decode cX7_save 0 = .ok (.iload_n 1, 1) := by decide +kernel
theorem dX7_save_1 : decode cX7_save 1 = .ok (.invokestatic 264, 3) := by decide +kernel
theorem dX7_save_4 : decode cX7_save 4 = .ok (.aload_n 0, 1) := by decide +kernel
theorem dX7_save_5 : decode cX7_save 5 = .ok (.getfield 33, 3) := by decide +kernel
theorem dX7_save_8 : decode cX7_save 8 = .ok (.iload_n 1, 1) := by decide +kernel
theorem dX7_save_9 : decode cX7_save 9 = .ok (.aload_n 0, 1) := by decide +kernel
theorem dX7_save_10 : decode cX7_save 10 = .ok (.getfield 19, 3) := by decide +kernel
theorem dX7_save_13 : decode cX7_save 13 = .ok (.invokevirtual 267, 3) := by decide +kernel
theorem dX7_save_16 : decode cX7_save 16 = .ok (.aload_n 0, 1) := by decide +kernel
theorem dX7_save_17 : decode cX7_save 17 = .ok (.getfield 19, 3) := by decide +kernel
theorem dX7_save_20 : decode cX7_save 20 = .ok (.getfield 83, 3) := by decide +kernel
theorem dX7_save_23 : decode cX7_save 23 = .ok (.getfield 106, 3) := by decide +kernel
theorem dX7_save_26 : decode cX7_save 26 = .ok (.ireturn, 1) := by decide +kernel
theorem dX7_restore_0 : decode cX7_restore 0 = .ok (.iload_n 1, 1) := by decide +kernel
theorem dX7_restore_1 : decode cX7_restore 1 = .ok (.invokestatic 264, 3) := by decide +kernel
theorem dX7_restore_4 : decode cX7_restore 4 = .ok (.aload_n 0, 1) := by decide +kernel
theorem dX7_restore_5 : decode cX7_restore 5 = .ok (.getfield 33, 3) := by decide +kernel
theorem dX7_restore_8 : decode cX7_restore 8 = .ok (.iload_n 1, 1) := by decide +kernel
theorem dX7_restore_9 : decode cX7_restore 9 = .ok (.invokevirtual 271, 3) := by decide +kernel
theorem dX7_restore_12 : decode cX7_restore 12 = .ok (.ifCond .ne 14, 3) := by decide +kernel
theorem dX7_restore_15 : decode cX7_restore 15 = .ok (.new 68, 3) := by decide +kernel
theorem dX7_restore_18 : decode cX7_restore 18 = .ok (.dup, 1) := by decide +kernel
theorem dX7_restore_19 : decode cX7_restore 19 = .ok (.ldc_w 274, 3) := by decide +kernel
theorem dX7_restore_22 : decode cX7_restore 22 = .ok (.invokespecial 72, 3) := by decide +kernel
theorem dX7_restore_25 : decode cX7_restore 25 = .ok (.athrow, 1) := by decide +kernel
theorem dX7_restore_26 : decode cX7_restore 26 = .ok (.aload_n 0, 1) := by decide +kernel
theorem dX7_restore_27 : decode cX7_restore 27 = .ok (.getfield 33, 3) := by decide +kernel
theorem dX7_restore_30 : decode cX7_restore 30 = .ok (.iload_n 1, 1) := by decide +kernel
theorem dX7_restore_31 : decode cX7_restore 31 = .ok (.aload_n 0, 1) := by decide +kernel
theorem dX7_restore_32 : decode cX7_restore 32 = .ok (.getfield 19, 3) := by decide +kernel
theorem dX7_restore_35 : decode cX7_restore 35 = .ok (.invokevirtual 276, 3) := by decide +kernel
theorem dX7_restore_38 : decode cX7_restore 38 = .ok (.aload_n 0, 1) := by decide +kernel
theorem dX7_restore_39 : decode cX7_restore 39 = .ok (.getfield 33, 3) := by decide +kernel
theorem dX7_restore_42 : decode cX7_restore 42 = .ok (.invokevirtual 97, 3) := by decide +kernel
theorem dX7_restore_45 : decode cX7_restore 45 = .ok (.aload_n 0, 1) := by decide +kernel
theorem dX7_restore_46 : decode cX7_restore 46 = .ok (.invokevirtual 103, 3) := by decide +kernel
theorem dX7_restore_49 : decode cX7_restore 49 = .ok (.aload_n 0, 1) := by decide +kernel
theorem dX7_restore_50 : decode cX7_restore 50 = .ok (.getfield 19, 3) := by decide +kernel
theorem dX7_restore_53 : decode cX7_restore 53 = .ok (.getfield 83, 3) := by decide +kernel
theorem dX7_restore_56 : decode cX7_restore 56 = .ok (.getfield 106, 3) := by decide +kernel
theorem dX7_restore_59 : decode cX7_restore 59 = .ok (.ireturn, 1) := by decide +kernel
theorem dX7_rebuild_0 : decode cX7_rebuild 0 = .ok (.aload_n 0, 1) := by decide +kernel
theorem dX7_rebuild_1 : decode cX7_rebuild 1 = .ok (.getfield 40, 3) := by decide +kernel
theorem dX7_rebuild_4 : decode cX7_rebuild 4 = .ok (.iconst 1, 1) := by decide +kernel
theorem dX7_rebuild_5 : decode cX7_rebuild 5 = .ok (.putfield 279, 3) := by decide +kernel
theorem dX7_rebuild_8 : decode cX7_rebuild 8 = .ok (.aload_n 0, 1) := by decide +kernel
theorem dX7_rebuild_9 : decode cX7_rebuild 9 = .ok (.getfield 26, 3) := by decide +kernel
theorem dX7_rebuild_12 : decode cX7_rebuild 12 = .ok (.aload_n 0, 1) := by decide +kernel
theorem dX7_rebuild_13 : decode cX7_rebuild 13 = .ok (.getfield 19, 3) := by decide +kernel
theorem dX7_rebuild_16 : decode cX7_rebuild 16 = .ok (.invokevirtual 254, 3) := by decide +kernel
theorem dX7_rebuild_19 : decode cX7_rebuild 19 = .ok (.return_, 1) := by decide +kernel
theorem dX7_addConstraint_0 : decode cX7_addConstraint 0 = .ok (.aload_n 0, 1) := by decide +kernel
theorem dX7_addConstraint_1 : decode cX7_addConstraint 1 = .ok (.getfield 33, 3) := by decide +kernel
theorem dX7_addConstraint_4 : decode cX7_addConstraint 4 = .ok (.aload_n 0, 1) := by decide +kernel
theorem dX7_addConstraint_5 : decode cX7_addConstraint 5 = .ok (.getfield 19, 3) := by decide +kernel
theorem dX7_addConstraint_8 : decode cX7_addConstraint 8 = .ok (.invokevirtual 146, 3) := by decide +kernel
theorem dX7_addConstraint_11 : decode cX7_addConstraint 11 = .ok (.aload_n 0, 1) := by decide +kernel
theorem dX7_addConstraint_12 : decode cX7_addConstraint 12 = .ok (.getfield 19, 3) := by decide +kernel
theorem dX7_addConstraint_15 : decode cX7_addConstraint 15 = .ok (.getfield 83, 3) := by decide +kernel
theorem dX7_addConstraint_18 : decode cX7_addConstraint 18 = .ok (.iload_n 1, 1) := by decide +kernel
theorem dX7_addConstraint_19 : decode cX7_addConstraint 19 = .ok (.invokevirtual 282, 3) := by decide +kernel
theorem dX7_addConstraint_22 : decode cX7_addConstraint 22 = .ok (.aload_n 0, 1) := by decide +kernel
theorem dX7_addConstraint_23 : decode cX7_addConstraint 23 = .ok (.invokevirtual 103, 3) := by decide +kernel
theorem dX7_addConstraint_26 : decode cX7_addConstraint 26 = .ok (.aload_n 0, 1) := by decide +kernel
theorem dX7_addConstraint_27 : decode cX7_addConstraint 27 = .ok (.getfield 19, 3) := by decide +kernel
theorem dX7_addConstraint_30 : decode cX7_addConstraint 30 = .ok (.getfield 83, 3) := by decide +kernel
theorem dX7_addConstraint_33 : decode cX7_addConstraint 33 = .ok (.getfield 106, 3) := by decide +kernel
theorem dX7_addConstraint_36 : decode cX7_addConstraint 36 = .ok (.iconst 1, 1) := by decide +kernel
theorem dX7_addConstraint_37 : decode cX7_addConstraint 37 = .ok (.isub, 1) := by decide +kernel
theorem dX7_addConstraint_38 : decode cX7_addConstraint 38 = .ok (.ireturn, 1) := by decide +kernel
theorem dX7_learnInto_0 : decode cX7_learnInto 0 = .ok (.aload_n 1, 1) := by decide +kernel
theorem dX7_learnInto_1 : decode cX7_learnInto 1 = .ok (.aload_n 0, 1) := by decide +kernel
theorem dX7_learnInto_2 : decode cX7_learnInto 2 = .ok (.getfield 83, 3) := by decide +kernel
theorem dX7_learnInto_5 : decode cX7_learnInto 5 = .ok (.invokevirtual 217, 3) := by decide +kernel
theorem dX7_learnInto_8 : decode cX7_learnInto 8 = .ok (.istore_n 2, 1) := by decide +kernel
theorem dX7_learnInto_9 : decode cX7_learnInto 9 = .ok (.aload_n 1, 1) := by decide +kernel
theorem dX7_learnInto_10 : decode cX7_learnInto 10 = .ok (.iload_n 2, 1) := by decide +kernel
theorem dX7_learnInto_11 : decode cX7_learnInto 11 = .ok (.invokevirtual 285, 3) := by decide +kernel
theorem dX7_learnInto_14 : decode cX7_learnInto 14 = .ok (.istore_n 3, 1) := by decide +kernel
theorem dX7_learnInto_15 : decode cX7_learnInto 15 = .ok (.aload_n 0, 1) := by decide +kernel
theorem dX7_learnInto_16 : decode cX7_learnInto 16 = .ok (.getfield 83, 3) := by decide +kernel
theorem dX7_learnInto_19 : decode cX7_learnInto 19 = .ok (.aload_n 1, 1) := by decide +kernel
theorem dX7_learnInto_20 : decode cX7_learnInto 20 = .ok (.iload_n 2, 1) := by decide +kernel
theorem dX7_learnInto_21 : decode cX7_learnInto 21 = .ok (.invokevirtual 221, 3) := by decide +kernel
theorem dX7_learnInto_24 : decode cX7_learnInto 24 = .ok (.invokevirtual 282, 3) := by decide +kernel
theorem dX7_learnInto_27 : decode cX7_learnInto 27 = .ok (.aload_n 0, 1) := by decide +kernel
theorem dX7_learnInto_28 : decode cX7_learnInto 28 = .ok (.iload_n 3, 1) := by decide +kernel
theorem dX7_learnInto_29 : decode cX7_learnInto 29 = .ok (.invokevirtual 94, 3) := by decide +kernel
theorem dX7_learnInto_32 : decode cX7_learnInto 32 = .ok (.iload_n 3, 1) := by decide +kernel
theorem dX7_learnInto_33 : decode cX7_learnInto 33 = .ok (.ireturn, 1) := by decide +kernel
theorem dX7_decideOpenVariables_0 : decode cX7_decideOpenVariables 0 = .ok (.iconst 0, 1) := by decide +kernel
theorem dX7_decideOpenVariables_1 : decode cX7_decideOpenVariables 1 = .ok (.istore_n 1, 1) := by decide +kernel
theorem dX7_decideOpenVariables_2 : decode cX7_decideOpenVariables 2 = .ok (.iload_n 1, 1) := by decide +kernel
theorem dX7_decideOpenVariables_3 : decode cX7_decideOpenVariables 3 = .ok (.bipush 8, 2) := by decide +kernel
theorem dX7_decideOpenVariables_5 : decode cX7_decideOpenVariables 5 = .ok (.if_icmp .ge 55, 3) := by decide +kernel
theorem dX7_decideOpenVariables_8 : decode cX7_decideOpenVariables 8 = .ok (.aload_n 0, 1) := by decide +kernel
theorem dX7_decideOpenVariables_9 : decode cX7_decideOpenVariables 9 = .ok (.getfield 54, 3) := by decide +kernel
theorem dX7_decideOpenVariables_12 : decode cX7_decideOpenVariables 12 = .ok (.getfield 169, 3) := by decide +kernel
theorem dX7_decideOpenVariables_15 : decode cX7_decideOpenVariables 15 = .ok (.bipush (-9), 2) := by decide +kernel
theorem dX7_decideOpenVariables_17 : decode cX7_decideOpenVariables 17 = .ok (.if_icmp .ne 43, 3) := by decide +kernel
theorem dX7_decideOpenVariables_20 : decode cX7_decideOpenVariables 20 = .ok (.aload_n 0, 1) := by decide +kernel
theorem dX7_decideOpenVariables_21 : decode cX7_decideOpenVariables 21 = .ok (.getfield 54, 3) := by decide +kernel
theorem dX7_decideOpenVariables_24 : decode cX7_decideOpenVariables 24 = .ok (.iload_n 1, 1) := by decide +kernel
theorem dX7_decideOpenVariables_25 : decode cX7_decideOpenVariables 25 = .ok (.invokevirtual 177, 3) := by decide +kernel
theorem dX7_decideOpenVariables_28 : decode cX7_decideOpenVariables 28 = .ok (.ifCond .ne 26, 3) := by decide +kernel
theorem dX7_decideOpenVariables_31 : decode cX7_decideOpenVariables 31 = .ok (.aload_n 0, 1) := by decide +kernel
theorem dX7_decideOpenVariables_32 : decode cX7_decideOpenVariables 32 = .ok (.getfield 51, 3) := by decide +kernel
theorem dX7_decideOpenVariables_35 : decode cX7_decideOpenVariables 35 = .ok (.iload_n 1, 1) := by decide +kernel
theorem dX7_decideOpenVariables_36 : decode cX7_decideOpenVariables 36 = .ok (.iconst 1, 1) := by decide +kernel
theorem dX7_decideOpenVariables_37 : decode cX7_decideOpenVariables 37 = .ok (.invokestatic 288, 3) := by decide +kernel
theorem dX7_decideOpenVariables_40 : decode cX7_decideOpenVariables 40 = .ok (.invokevirtual 182, 3) := by decide +kernel
theorem dX7_decideOpenVariables_43 : decode cX7_decideOpenVariables 43 = .ok (.aload_n 0, 1) := by decide +kernel
theorem dX7_decideOpenVariables_44 : decode cX7_decideOpenVariables 44 = .ok (.getfield 54, 3) := by decide +kernel
theorem dX7_decideOpenVariables_47 : decode cX7_decideOpenVariables 47 = .ok (.aload_n 0, 1) := by decide +kernel
theorem dX7_decideOpenVariables_48 : decode cX7_decideOpenVariables 48 = .ok (.getfield 51, 3) := by decide +kernel
theorem dX7_decideOpenVariables_51 : decode cX7_decideOpenVariables 51 = .ok (.invokevirtual 254, 3) := by decide +kernel
theorem dX7_decideOpenVariables_54 : decode cX7_decideOpenVariables 54 = .ok (.iinc 1 1, 3) := by decide +kernel
theorem dX7_decideOpenVariables_57 : decode cX7_decideOpenVariables 57 = .ok (.goto (-55), 3) := by decide +kernel
theorem dX7_decideOpenVariables_60 : decode cX7_decideOpenVariables 60 = .ok (.return_, 1) := by decide +kernel
theorem dX7_requireConstraint_0 : decode cX7_requireConstraint 0 = .ok (.aload_n 0, 1) := by decide +kernel
theorem dX7_requireConstraint_1 : decode cX7_requireConstraint 1 = .ok (.getfield 19, 3) := by decide +kernel
theorem dX7_requireConstraint_4 : decode cX7_requireConstraint 4 = .ok (.getfield 83, 3) := by decide +kernel
theorem dX7_requireConstraint_7 : decode cX7_requireConstraint 7 = .ok (.iload_n 1, 1) := by decide +kernel
theorem dX7_requireConstraint_8 : decode cX7_requireConstraint 8 = .ok (.invokevirtual 292, 3) := by decide +kernel
theorem dX7_requireConstraint_11 : decode cX7_requireConstraint 11 = .ok (.ifCond .ne 14, 3) := by decide +kernel
theorem dX7_requireConstraint_14 : decode cX7_requireConstraint 14 = .ok (.new 164, 3) := by decide +kernel
theorem dX7_requireConstraint_17 : decode cX7_requireConstraint 17 = .ok (.dup, 1) := by decide +kernel
theorem dX7_requireConstraint_18 : decode cX7_requireConstraint 18 = .ok (.ldc_w 295, 3) := by decide +kernel
theorem dX7_requireConstraint_21 : decode cX7_requireConstraint 21 = .ok (.invokespecial 168, 3) := by decide +kernel
theorem dX7_requireConstraint_24 : decode cX7_requireConstraint 24 = .ok (.athrow, 1) := by decide +kernel
theorem dX7_requireConstraint_25 : decode cX7_requireConstraint 25 = .ok (.return_, 1) := by decide +kernel
theorem dX7_requireRoom_0 : decode cX7_requireRoom 0 = .ok (.aload_n 0, 1) := by decide +kernel
theorem dX7_requireRoom_1 : decode cX7_requireRoom 1 = .ok (.getfield 19, 3) := by decide +kernel
theorem dX7_requireRoom_4 : decode cX7_requireRoom 4 = .ok (.getfield 83, 3) := by decide +kernel
theorem dX7_requireRoom_7 : decode cX7_requireRoom 7 = .ok (.invokevirtual 260, 3) := by decide +kernel
theorem dX7_requireRoom_10 : decode cX7_requireRoom 10 = .ok (.ifCond .eq 14, 3) := by decide +kernel
theorem dX7_requireRoom_13 : decode cX7_requireRoom 13 = .ok (.new 68, 3) := by decide +kernel
theorem dX7_requireRoom_16 : decode cX7_requireRoom 16 = .ok (.dup, 1) := by decide +kernel
theorem dX7_requireRoom_17 : decode cX7_requireRoom 17 = .ok (.ldc_w 297, 3) := by decide +kernel
theorem dX7_requireRoom_20 : decode cX7_requireRoom 20 = .ok (.invokespecial 72, 3) := by decide +kernel
theorem dX7_requireRoom_23 : decode cX7_requireRoom 23 = .ok (.athrow, 1) := by decide +kernel
theorem dX7_requireRoom_24 : decode cX7_requireRoom 24 = .ok (.return_, 1) := by decide +kernel
theorem dX7_requireAnalysis_0 : decode cX7_requireAnalysis 0 = .ok (.aload_n 0, 1) := by decide +kernel
theorem dX7_requireAnalysis_1 : decode cX7_requireAnalysis 1 = .ok (.getfield 26, 3) := by decide +kernel
theorem dX7_requireAnalysis_4 : decode cX7_requireAnalysis 4 = .ok (.getfield 169, 3) := by decide +kernel
theorem dX7_requireAnalysis_7 : decode cX7_requireAnalysis 7 = .ok (.bipush (-9), 2) := by decide +kernel
theorem dX7_requireAnalysis_9 : decode cX7_requireAnalysis 9 = .ok (.if_icmp .eq 13, 3) := by decide +kernel
theorem dX7_requireAnalysis_12 : decode cX7_requireAnalysis 12 = .ok (.aload_n 0, 1) := by decide +kernel
theorem dX7_requireAnalysis_13 : decode cX7_requireAnalysis 13 = .ok (.getfield 19, 3) := by decide +kernel
theorem dX7_requireAnalysis_16 : decode cX7_requireAnalysis 16 = .ok (.getfield 186, 3) := by decide +kernel
theorem dX7_requireAnalysis_19 : decode cX7_requireAnalysis 19 = .ok (.ifCond .ne 14, 3) := by decide +kernel
theorem dX7_requireAnalysis_22 : decode cX7_requireAnalysis 22 = .ok (.new 68, 3) := by decide +kernel
theorem dX7_requireAnalysis_25 : decode cX7_requireAnalysis 25 = .ok (.dup, 1) := by decide +kernel
theorem dX7_requireAnalysis_26 : decode cX7_requireAnalysis 26 = .ok (.ldc_w 299, 3) := by decide +kernel
theorem dX7_requireAnalysis_29 : decode cX7_requireAnalysis 29 = .ok (.invokespecial 72, 3) := by decide +kernel
theorem dX7_requireAnalysis_32 : decode cX7_requireAnalysis 32 = .ok (.athrow, 1) := by decide +kernel
theorem dX7_requireAnalysis_33 : decode cX7_requireAnalysis 33 = .ok (.return_, 1) := by decide +kernel
theorem dX7_requireVariable_0 : decode cX7_requireVariable 0 = .ok (.iload_n 0, 1) := by decide +kernel
theorem dX7_requireVariable_1 : decode cX7_requireVariable 1 = .ok (.invokestatic 301, 3) := by decide +kernel
theorem dX7_requireVariable_4 : decode cX7_requireVariable 4 = .ok (.ifCond .ne 14, 3) := by decide +kernel
theorem dX7_requireVariable_7 : decode cX7_requireVariable 7 = .ok (.new 164, 3) := by decide +kernel
theorem dX7_requireVariable_10 : decode cX7_requireVariable 10 = .ok (.dup, 1) := by decide +kernel
theorem dX7_requireVariable_11 : decode cX7_requireVariable 11 = .ok (.ldc_w 304, 3) := by decide +kernel
theorem dX7_requireVariable_14 : decode cX7_requireVariable 14 = .ok (.invokespecial 168, 3) := by decide +kernel
theorem dX7_requireVariable_17 : decode cX7_requireVariable 17 = .ok (.athrow, 1) := by decide +kernel
theorem dX7_requireVariable_18 : decode cX7_requireVariable 18 = .ok (.return_, 1) := by decide +kernel
theorem dX7_requireSlot_0 : decode cX7_requireSlot 0 = .ok (.iload_n 0, 1) := by decide +kernel
theorem dX7_requireSlot_1 : decode cX7_requireSlot 1 = .ok (.ifCond .lt 8, 3) := by decide +kernel
theorem dX7_requireSlot_4 : decode cX7_requireSlot 4 = .ok (.iload_n 0, 1) := by decide +kernel
theorem dX7_requireSlot_5 : decode cX7_requireSlot 5 = .ok (.iconst 2, 1) := by decide +kernel
theorem dX7_requireSlot_6 : decode cX7_requireSlot 6 = .ok (.if_icmp .lt 14, 3) := by decide +kernel
theorem dX7_requireSlot_9 : decode cX7_requireSlot 9 = .ok (.new 164, 3) := by decide +kernel
theorem dX7_requireSlot_12 : decode cX7_requireSlot 12 = .ok (.dup, 1) := by decide +kernel
theorem dX7_requireSlot_13 : decode cX7_requireSlot 13 = .ok (.ldc_w 306, 3) := by decide +kernel
theorem dX7_requireSlot_16 : decode cX7_requireSlot 16 = .ok (.invokespecial 168, 3) := by decide +kernel
theorem dX7_requireSlot_19 : decode cX7_requireSlot 19 = .ok (.athrow, 1) := by decide +kernel
theorem dX7_requireSlot_20 : decode cX7_requireSlot 20 = .ok (.return_, 1) := by decide +kernel
theorem dX7_requireClause_0 : decode cX7_requireClause 0 = .ok (.iload_n 0, 1) := by decide +kernel
theorem dX7_requireClause_1 : decode cX7_requireClause 1 = .ok (.invokestatic 308, 3) := by decide +kernel
theorem dX7_requireClause_4 : decode cX7_requireClause 4 = .ok (.ifCond .eq 10, 3) := by decide +kernel
theorem dX7_requireClause_7 : decode cX7_requireClause 7 = .ok (.iload_n 1, 1) := by decide +kernel
