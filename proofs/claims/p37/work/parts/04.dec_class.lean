theorem dX0_init_0 : decode cX0_init 0 = .ok (.aload_n 0, 1) := by decide +kernel
theorem dX0_init_1 : decode cX0_init 1 = .ok (.invokespecial 3, 3) := by decide +kernel
theorem dX0_init_4 : decode cX0_init 4 = .ok (.aload_n 0, 1) := by decide +kernel
theorem dX0_init_5 : decode cX0_init 5 = .ok (.new 9, 3) := by decide +kernel
theorem dX0_init_8 : decode cX0_init 8 = .ok (.dup, 1) := by decide +kernel
theorem dX0_init_9 : decode cX0_init 9 = .ok (.bipush 8, 2) := by decide +kernel
theorem dX0_init_11 : decode cX0_init 11 = .ok (.invokespecial 11, 3) := by decide +kernel
theorem dX0_init_14 : decode cX0_init 14 = .ok (.putfield 14, 3) := by decide +kernel
theorem dX0_init_17 : decode cX0_init 17 = .ok (.aload_n 0, 1) := by decide +kernel
theorem dX0_init_18 : decode cX0_init 18 = .ok (.new 9, 3) := by decide +kernel
theorem dX0_init_21 : decode cX0_init 21 = .ok (.dup, 1) := by decide +kernel
theorem dX0_init_22 : decode cX0_init 22 = .ok (.bipush 8, 2) := by decide +kernel
theorem dX0_init_24 : decode cX0_init 24 = .ok (.invokespecial 11, 3) := by decide +kernel
theorem dX0_init_27 : decode cX0_init 27 = .ok (.putfield 20, 3) := by decide +kernel
theorem dX0_init_30 : decode cX0_init 30 = .ok (.aload_n 0, 1) := by decide +kernel
theorem dX0_init_31 : decode cX0_init 31 = .ok (.new 9, 3) := by decide +kernel
theorem dX0_init_34 : decode cX0_init 34 = .ok (.dup, 1) := by decide +kernel
theorem dX0_init_35 : decode cX0_init 35 = .ok (.bipush 30, 2) := by decide +kernel
theorem dX0_init_37 : decode cX0_init 37 = .ok (.invokespecial 11, 3) := by decide +kernel
theorem dX0_init_40 : decode cX0_init 40 = .ok (.putfield 23, 3) := by decide +kernel
theorem dX0_init_43 : decode cX0_init 43 = .ok (.aload_n 0, 1) := by decide +kernel
theorem dX0_init_44 : decode cX0_init 44 = .ok (.iload_n 1, 1) := by decide +kernel
theorem dX0_init_45 : decode cX0_init 45 = .ok (.putfield 26, 3) := by decide +kernel
theorem dX0_init_48 : decode cX0_init 48 = .ok (.aload_n 0, 1) := by decide +kernel
theorem dX0_init_49 : decode cX0_init 49 = .ok (.aload_n 2, 1) := by decide +kernel
theorem dX0_init_50 : decode cX0_init 50 = .ok (.putfield 30, 3) := by decide +kernel
theorem dX0_init_53 : decode cX0_init 53 = .ok (.aload_n 0, 1) := by decide +kernel
theorem dX0_init_54 : decode cX0_init 54 = .ok (.iload_n 3, 1) := by decide +kernel
theorem dX0_init_55 : decode cX0_init 55 = .ok (.putfield 34, 3) := by decide +kernel
theorem dX0_init_58 : decode cX0_init 58 = .ok (.aload_n 0, 1) := by decide +kernel
theorem dX0_init_59 : decode cX0_init 59 = .ok (.aload 4, 2) := by decide +kernel
theorem dX0_init_61 : decode cX0_init 61 = .ok (.putfield 37, 3) := by decide +kernel
theorem dX0_init_64 : decode cX0_init 64 = .ok (.return_, 1) := by decide +kernel
theorem dX0_markNow_0 : decode cX0_markNow 0 = .ok (.aload_n 0, 1) := by decide +kernel
theorem dX0_markNow_1 : decode cX0_markNow 1 = .ok (.aload_n 0, 1) := by decide +kernel
theorem dX0_markNow_2 : decode cX0_markNow 2 = .ok (.getfield 30, 3) := by decide +kernel
theorem dX0_markNow_5 : decode cX0_markNow 5 = .ok (.aload_n 0, 1) := by decide +kernel
theorem dX0_markNow_6 : decode cX0_markNow 6 = .ok (.getfield 20, 3) := by decide +kernel
theorem dX0_markNow_9 : decode cX0_markNow 9 = .ok (.invokevirtual 41, 3) := by decide +kernel
theorem dX0_markNow_12 : decode cX0_markNow 12 = .ok (.invokevirtual 47, 3) := by decide +kernel
theorem dX0_markNow_15 : decode cX0_markNow 15 = .ok (.ireturn, 1) := by decide +kernel
theorem dX0_markFor_0 : decode cX0_markFor 0 = .ok (.aload_n 0, 1) := by decide +kernel
theorem dX0_markFor_1 : decode cX0_markFor 1 = .ok (.getfield 51, 3) := by decide +kernel
theorem dX0_markFor_4 : decode cX0_markFor 4 = .ok (.ifCond .eq 5, 3) := by decide +kernel
theorem dX0_markFor_7 : decode cX0_markFor 7 = .ok (.iconst 0, 1) := by decide +kernel
theorem dX0_markFor_8 : decode cX0_markFor 8 = .ok (.ireturn, 1) := by decide +kernel
theorem dX0_markFor_9 : decode cX0_markFor 9 = .ok (.iconst 0, 1) := by decide +kernel
theorem dX0_markFor_10 : decode cX0_markFor 10 = .ok (.aload_n 0, 1) := by decide +kernel
theorem dX0_markFor_11 : decode cX0_markFor 11 = .ok (.getfield 34, 3) := by decide +kernel
theorem dX0_markFor_14 : decode cX0_markFor 14 = .ok (.aload_n 0, 1) := by decide +kernel
theorem dX0_markFor_15 : decode cX0_markFor 15 = .ok (.getfield 30, 3) := by decide +kernel
theorem dX0_markFor_18 : decode cX0_markFor 18 = .ok (.getfield 55, 3) := by decide +kernel
theorem dX0_markFor_21 : decode cX0_markFor 21 = .ok (.isub, 1) := by decide +kernel
theorem dX0_markFor_22 : decode cX0_markFor 22 = .ok (.invokestatic 58, 3) := by decide +kernel
theorem dX0_markFor_25 : decode cX0_markFor 25 = .ok (.istore_n 2, 1) := by decide +kernel
theorem dX0_markFor_26 : decode cX0_markFor 26 = .ok (.bipush 50, 2) := by decide +kernel
theorem dX0_markFor_28 : decode cX0_markFor 28 = .ok (.bipush 10, 2) := by decide +kernel
theorem dX0_markFor_30 : decode cX0_markFor 30 = .ok (.iload_n 2, 1) := by decide +kernel
theorem dX0_markFor_31 : decode cX0_markFor 31 = .ok (.imul, 1) := by decide +kernel
theorem dX0_markFor_32 : decode cX0_markFor 32 = .ok (.invokestatic 64, 3) := by decide +kernel
theorem dX0_markFor_35 : decode cX0_markFor 35 = .ok (.istore_n 3, 1) := by decide +kernel
theorem dX0_markFor_36 : decode cX0_markFor 36 = .ok (.iload_n 1, 1) := by decide +kernel
theorem dX0_markFor_37 : decode cX0_markFor 37 = .ok (.bipush 100, 2) := by decide +kernel
theorem dX0_markFor_39 : decode cX0_markFor 39 = .ok (.iload_n 3, 1) := by decide +kernel
theorem dX0_markFor_40 : decode cX0_markFor 40 = .ok (.isub, 1) := by decide +kernel
theorem dX0_markFor_41 : decode cX0_markFor 41 = .ok (.imul, 1) := by decide +kernel
theorem dX0_markFor_42 : decode cX0_markFor 42 = .ok (.bipush 100, 2) := by decide +kernel
theorem dX0_markFor_44 : decode cX0_markFor 44 = .ok (.idiv, 1) := by decide +kernel
theorem dX0_markFor_45 : decode cX0_markFor 45 = .ok (.ireturn, 1) := by decide +kernel
theorem dX1_init_0 : decode cX1_init 0 = .ok (.aload_n 0, 1) := by decide +kernel
theorem dX1_init_1 : decode cX1_init 1 = .ok (.invokespecial 1, 3) := by decide +kernel
theorem dX1_init_4 : decode cX1_init 4 = .ok (.aload_n 0, 1) := by decide +kernel
theorem dX1_init_5 : decode cX1_init 5 = .ok (.new 7, 3) := by decide +kernel
theorem dX1_init_8 : decode cX1_init 8 = .ok (.dup, 1) := by decide +kernel
theorem dX1_init_9 : decode cX1_init 9 = .ok (.invokespecial 9, 3) := by decide +kernel
theorem dX1_init_12 : decode cX1_init 12 = .ok (.putfield 10, 3) := by decide +kernel
theorem dX1_init_15 : decode cX1_init 15 = .ok (.aload_n 0, 1) := by decide +kernel
theorem dX1_init_16 : decode cX1_init 16 = .ok (.iload_n 1, 1) := by decide +kernel
theorem dX1_init_17 : decode cX1_init 17 = .ok (.putfield 16, 3) := by decide +kernel
theorem dX1_init_20 : decode cX1_init 20 = .ok (.aload_n 0, 1) := by decide +kernel
theorem dX1_init_21 : decode cX1_init 21 = .ok (.iload_n 2, 1) := by decide +kernel
theorem dX1_init_22 : decode cX1_init 22 = .ok (.putfield 20, 3) := by decide +kernel
theorem dX1_init_25 : decode cX1_init 25 = .ok (.aload_n 0, 1) := by decide +kernel
theorem dX1_init_26 : decode cX1_init 26 = .ok (.iload_n 3, 1) := by decide +kernel
theorem dX1_init_27 : decode cX1_init 27 = .ok (.putfield 23, 3) := by decide +kernel
theorem dX1_init_30 : decode cX1_init 30 = .ok (.return_, 1) := by decide +kernel
theorem dX1_add_0 : decode cX1_add 0 = .ok (.aload_n 0, 1) := by decide +kernel
theorem dX1_add_1 : decode cX1_add 1 = .ok (.getfield 10, 3) := by decide +kernel
theorem dX1_add_4 : decode cX1_add 4 = .ok (.aload_n 1, 1) := by decide +kernel
theorem dX1_add_5 : decode cX1_add 5 = .ok (.invokevirtual 26, 3) := by decide +kernel
theorem dX1_add_8 : decode cX1_add 8 = .ok (.pop, 1) := by decide +kernel
theorem dX1_add_9 : decode cX1_add 9 = .ok (.return_, 1) := by decide +kernel
theorem dX1_testCount_0 : decode cX1_testCount 0 = .ok (.aload_n 0, 1) := by decide +kernel
theorem dX1_testCount_1 : decode cX1_testCount 1 = .ok (.getfield 10, 3) := by decide +kernel
theorem dX1_testCount_4 : decode cX1_testCount 4 = .ok (.invokevirtual 30, 3) := by decide +kernel
theorem dX1_testCount_7 : decode cX1_testCount 7 = .ok (.ireturn, 1) := by decide +kernel
theorem dX1_test_0 : decode cX1_test 0 = .ok (.iload_n 1, 1) := by decide +kernel
theorem dX1_test_1 : decode cX1_test 1 = .ok (.ifCond .lt 28, 3) := by decide +kernel
theorem dX1_test_4 : decode cX1_test 4 = .ok (.iload_n 1, 1) := by decide +kernel
theorem dX1_test_5 : decode cX1_test 5 = .ok (.aload_n 0, 1) := by decide +kernel
theorem dX1_test_6 : decode cX1_test 6 = .ok (.getfield 10, 3) := by decide +kernel
theorem dX1_test_9 : decode cX1_test 9 = .ok (.invokevirtual 30, 3) := by decide +kernel
theorem dX1_test_12 : decode cX1_test 12 = .ok (.if_icmp .ge 17, 3) := by decide +kernel
theorem dX1_test_15 : decode cX1_test 15 = .ok (.aload_n 0, 1) := by decide +kernel
theorem dX1_test_16 : decode cX1_test 16 = .ok (.getfield 10, 3) := by decide +kernel
theorem dX1_test_19 : decode cX1_test 19 = .ok (.iload_n 1, 1) := by decide +kernel
theorem dX1_test_20 : decode cX1_test 20 = .ok (.invokevirtual 34, 3) := by decide +kernel
theorem dX1_test_23 : decode cX1_test 23 = .ok (.checkcast 38, 3) := by decide +kernel
theorem dX1_test_26 : decode cX1_test 26 = .ok (.goto 4, 3) := by decide +kernel
theorem dX1_test_29 : decode cX1_test 29 = .ok (.aconst_null, 1) := by decide +kernel
theorem dX1_test_30 : decode cX1_test 30 = .ok (.areturn, 1) := by decide +kernel
theorem dX1_pointsFor_0 : decode cX1_pointsFor 0 = .ok (.iconst 0, 1) := by decide +kernel
theorem dX1_pointsFor_1 : decode cX1_pointsFor 1 = .ok (.istore_n 2, 1) := by decide +kernel
theorem dX1_pointsFor_2 : decode cX1_pointsFor 2 = .ok (.iconst 0, 1) := by decide +kernel
theorem dX1_pointsFor_3 : decode cX1_pointsFor 3 = .ok (.istore_n 3, 1) := by decide +kernel
theorem dX1_pointsFor_4 : decode cX1_pointsFor 4 = .ok (.iconst 0, 1) := by decide +kernel
theorem dX1_pointsFor_5 : decode cX1_pointsFor 5 = .ok (.istore 4, 2) := by decide +kernel
theorem dX1_pointsFor_7 : decode cX1_pointsFor 7 = .ok (.iload 4, 2) := by decide +kernel
theorem dX1_pointsFor_9 : decode cX1_pointsFor 9 = .ok (.aload_n 0, 1) := by decide +kernel
theorem dX1_pointsFor_10 : decode cX1_pointsFor 10 = .ok (.getfield 10, 3) := by decide +kernel
theorem dX1_pointsFor_13 : decode cX1_pointsFor 13 = .ok (.invokevirtual 30, 3) := by decide +kernel
theorem dX1_pointsFor_16 : decode cX1_pointsFor 16 = .ok (.if_icmp .ge 61, 3) := by decide +kernel
theorem dX1_pointsFor_19 : decode cX1_pointsFor 19 = .ok (.aload_n 0, 1) := by decide +kernel
theorem dX1_pointsFor_20 : decode cX1_pointsFor 20 = .ok (.getfield 10, 3) := by decide +kernel
theorem dX1_pointsFor_23 : decode cX1_pointsFor 23 = .ok (.iload 4, 2) := by decide +kernel
theorem dX1_pointsFor_25 : decode cX1_pointsFor 25 = .ok (.invokevirtual 34, 3) := by decide +kernel
theorem dX1_pointsFor_28 : decode cX1_pointsFor 28 = .ok (.checkcast 38, 3) := by decide +kernel
theorem dX1_pointsFor_31 : decode cX1_pointsFor 31 = .ok (.astore 5, 2) := by decide +kernel
theorem dX1_pointsFor_33 : decode cX1_pointsFor 33 = .ok (.aload 5, 2) := by decide +kernel
theorem dX1_pointsFor_35 : decode cX1_pointsFor 35 = .ok (.getfield 40, 3) := by decide +kernel
theorem dX1_pointsFor_38 : decode cX1_pointsFor 38 = .ok (.ifCond .ne 33, 3) := by decide +kernel
theorem dX1_pointsFor_41 : decode cX1_pointsFor 41 = .ok (.iload_n 2, 1) := by decide +kernel
theorem dX1_pointsFor_42 : decode cX1_pointsFor 42 = .ok (.aload 5, 2) := by decide +kernel
theorem dX1_pointsFor_44 : decode cX1_pointsFor 44 = .ok (.getfield 44, 3) := by decide +kernel
theorem dX1_pointsFor_47 : decode cX1_pointsFor 47 = .ok (.iadd, 1) := by decide +kernel
theorem dX1_pointsFor_48 : decode cX1_pointsFor 48 = .ok (.istore_n 2, 1) := by decide +kernel
theorem dX1_pointsFor_49 : decode cX1_pointsFor 49 = .ok (.iload_n 3, 1) := by decide +kernel
theorem dX1_pointsFor_50 : decode cX1_pointsFor 50 = .ok (.aload_n 1, 1) := by decide +kernel
theorem dX1_pointsFor_51 : decode cX1_pointsFor 51 = .ok (.iload 4, 2) := by decide +kernel
theorem dX1_pointsFor_53 : decode cX1_pointsFor 53 = .ok (.invokevirtual 47, 3) := by decide +kernel
theorem dX1_pointsFor_56 : decode cX1_pointsFor 56 = .ok (.iconst 1, 1) := by decide +kernel
theorem dX1_pointsFor_57 : decode cX1_pointsFor 57 = .ok (.if_icmp .ne 11, 3) := by decide +kernel
theorem dX1_pointsFor_60 : decode cX1_pointsFor 60 = .ok (.aload 5, 2) := by decide +kernel
theorem dX1_pointsFor_62 : decode cX1_pointsFor 62 = .ok (.getfield 44, 3) := by decide +kernel
theorem dX1_pointsFor_65 : decode cX1_pointsFor 65 = .ok (.goto 4, 3) := by decide +kernel
theorem dX1_pointsFor_68 : decode cX1_pointsFor 68 = .ok (.iconst 0, 1) := by decide +kernel
theorem dX1_pointsFor_69 : decode cX1_pointsFor 69 = .ok (.iadd, 1) := by decide +kernel
theorem dX1_pointsFor_70 : decode cX1_pointsFor 70 = .ok (.istore_n 3, 1) := by decide +kernel
theorem dX1_pointsFor_71 : decode cX1_pointsFor 71 = .ok (.iinc 4 1, 3) := by decide +kernel
theorem dX1_pointsFor_74 : decode cX1_pointsFor 74 = .ok (.goto (-67), 3) := by decide +kernel
theorem dX1_pointsFor_77 : decode cX1_pointsFor 77 = .ok (.iload_n 2, 1) := by decide +kernel
theorem dX1_pointsFor_78 : decode cX1_pointsFor 78 = .ok (.ifCond .ne 7, 3) := by decide +kernel
theorem dX1_pointsFor_81 : decode cX1_pointsFor 81 = .ok (.iconst 0, 1) := by decide +kernel
theorem dX1_pointsFor_82 : decode cX1_pointsFor 82 = .ok (.goto 9, 3) := by decide +kernel
theorem dX1_pointsFor_85 : decode cX1_pointsFor 85 = .ok (.bipush 100, 2) := by decide +kernel
theorem dX1_pointsFor_87 : decode cX1_pointsFor 87 = .ok (.iload_n 3, 1) := by decide +kernel
theorem dX1_pointsFor_88 : decode cX1_pointsFor 88 = .ok (.imul, 1) := by decide +kernel
theorem dX1_pointsFor_89 : decode cX1_pointsFor 89 = .ok (.iload_n 2, 1) := by decide +kernel
theorem dX1_pointsFor_90 : decode cX1_pointsFor 90 = .ok (.idiv, 1) := by decide +kernel
theorem dX1_pointsFor_91 : decode cX1_pointsFor 91 = .ok (.ireturn, 1) := by decide +kernel
theorem dX2_init_0 : decode cX2_init 0 = .ok (.aload_n 0, 1) := by decide +kernel
theorem dX2_init_1 : decode cX2_init 1 = .ok (.invokespecial 3, 3) := by decide +kernel
theorem dX2_init_4 : decode cX2_init 4 = .ok (.aload_n 0, 1) := by decide +kernel
theorem dX2_init_5 : decode cX2_init 5 = .ok (.new 9, 3) := by decide +kernel
theorem dX2_init_8 : decode cX2_init 8 = .ok (.dup, 1) := by decide +kernel
theorem dX2_init_9 : decode cX2_init 9 = .ok (.sipush 1650, 3) := by decide +kernel
theorem dX2_init_12 : decode cX2_init 12 = .ok (.invokespecial 11, 3) := by decide +kernel
theorem dX2_init_15 : decode cX2_init 15 = .ok (.putfield 14, 3) := by decide +kernel
theorem dX2_init_18 : decode cX2_init 18 = .ok (.aload_n 0, 1) := by decide +kernel
theorem dX2_init_19 : decode cX2_init 19 = .ok (.aload_n 1, 1) := by decide +kernel
theorem dX2_init_20 : decode cX2_init 20 = .ok (.putfield 20, 3) := by decide +kernel
theorem dX2_init_23 : decode cX2_init 23 = .ok (.aload_n 0, 1) := by decide +kernel
theorem dX2_init_24 : decode cX2_init 24 = .ok (.aload_n 2, 1) := by decide +kernel
theorem dX2_init_25 : decode cX2_init 25 = .ok (.putfield 24, 3) := by decide +kernel
theorem dX2_init_28 : decode cX2_init 28 = .ok (.return_, 1) := by decide +kernel
theorem dX2_run_0 : decode cX2_run 0 = .ok (.aload_n 0, 1) := by decide +kernel
theorem dX2_run_1 : decode cX2_run 1 = .ok (.aload_n 1, 1) := by decide +kernel
theorem dX2_run_2 : decode cX2_run 2 = .ok (.putfield 20, 3) := by decide +kernel
theorem dX2_run_5 : decode cX2_run 5 = .ok (.aload_n 0, 1) := by decide +kernel
theorem dX2_run_6 : decode cX2_run 6 = .ok (.aload_n 2, 1) := by decide +kernel
theorem dX2_run_7 : decode cX2_run 7 = .ok (.putfield 24, 3) := by decide +kernel
theorem dX2_run_10 : decode cX2_run 10 = .ok (.aload_n 0, 1) := by decide +kernel
theorem dX2_run_11 : decode cX2_run 11 = .ok (.getfield 24, 3) := by decide +kernel
theorem dX2_run_14 : decode cX2_run 14 = .ok (.iload_n 3, 1) := by decide +kernel
theorem dX2_run_15 : decode cX2_run 15 = .ok (.iload 4, 2) := by decide +kernel
theorem dX2_run_17 : decode cX2_run 17 = .ok (.iload 5, 2) := by decide +kernel
theorem dX2_run_19 : decode cX2_run 19 = .ok (.invokevirtual 28, 3) := by decide +kernel
theorem dX2_run_22 : decode cX2_run 22 = .ok (.aload_n 0, 1) := by decide +kernel
theorem dX2_run_23 : decode cX2_run 23 = .ok (.getfield 14, 3) := by decide +kernel
theorem dX2_run_26 : decode cX2_run 26 = .ok (.invokevirtual 34, 3) := by decide +kernel
theorem dX2_run_29 : decode cX2_run 29 = .ok (.aload_n 0, 1) := by decide +kernel
theorem dX2_run_30 : decode cX2_run 30 = .ok (.iconst 0, 1) := by decide +kernel
theorem dX2_run_31 : decode cX2_run 31 = .ok (.putfield 37, 3) := by decide +kernel
theorem dX2_run_34 : decode cX2_run 34 = .ok (.iconst 0, 1) := by decide +kernel
theorem dX2_run_35 : decode cX2_run 35 = .ok (.istore 6, 2) := by decide +kernel
theorem dX2_run_37 : decode cX2_run 37 = .ok (.iload 6, 2) := by decide +kernel
theorem dX2_run_39 : decode cX2_run 39 = .ok (.ldc 41, 2) := by decide +kernel
theorem dX2_run_41 : decode cX2_run 41 = .ok (.if_icmp .ge 81, 3) := by decide +kernel
theorem dX2_run_44 : decode cX2_run 44 = .ok (.aload_n 0, 1) := by decide +kernel
theorem dX2_run_45 : decode cX2_run 45 = .ok (.getfield 24, 3) := by decide +kernel
theorem dX2_run_48 : decode cX2_run 48 = .ok (.invokevirtual 42, 3) := by decide +kernel
theorem dX2_run_51 : decode cX2_run 51 = .ok (.ifCond .eq 71, 3) := by decide +kernel
theorem dX2_run_54 : decode cX2_run 54 = .ok (.aload_n 0, 1) := by decide +kernel
theorem dX2_run_55 : decode cX2_run 55 = .ok (.getfield 20, 3) := by decide +kernel
theorem dX2_run_58 : decode cX2_run 58 = .ok (.aload_n 0, 1) := by decide +kernel
theorem dX2_run_59 : decode cX2_run 59 = .ok (.getfield 37, 3) := by decide +kernel
theorem dX2_run_62 : decode cX2_run 62 = .ok (.invokevirtual 46, 3) := by decide +kernel
theorem dX2_run_65 : decode cX2_run 65 = .ok (.istore 7, 2) := by decide +kernel
theorem dX2_run_67 : decode cX2_run 67 = .ok (.aload_n 0, 1) := by decide +kernel
theorem dX2_run_68 : decode cX2_run 68 = .ok (.getfield 20, 3) := by decide +kernel
theorem dX2_run_71 : decode cX2_run 71 = .ok (.aload_n 0, 1) := by decide +kernel
theorem dX2_run_72 : decode cX2_run 72 = .ok (.getfield 37, 3) := by decide +kernel
theorem dX2_run_75 : decode cX2_run 75 = .ok (.invokevirtual 52, 3) := by decide +kernel
theorem dX2_run_78 : decode cX2_run 78 = .ok (.istore 8, 2) := by decide +kernel
theorem dX2_run_80 : decode cX2_run 80 = .ok (.aload_n 0, 1) := by decide +kernel
theorem dX2_run_81 : decode cX2_run 81 = .ok (.dup, 1) := by decide +kernel
theorem dX2_run_82 : decode cX2_run 82 = .ok (.getfield 37, 3) := by decide +kernel
theorem dX2_run_85 : decode cX2_run 85 = .ok (.iconst 1, 1) := by decide +kernel
theorem dX2_run_86 : decode cX2_run 86 = .ok (.iadd, 1) := by decide +kernel
theorem dX2_run_87 : decode cX2_run 87 = .ok (.putfield 37, 3) := by decide +kernel
theorem dX2_run_90 : decode cX2_run 90 = .ok (.iload 7, 2) := by decide +kernel
theorem dX2_run_92 : decode cX2_run 92 = .ok (.bipush 11, 2) := by decide +kernel
theorem dX2_run_94 : decode cX2_run 94 = .ok (.if_icmp .ge 14, 3) := by decide +kernel
theorem dX2_run_97 : decode cX2_run 97 = .ok (.aload_n 0, 1) := by decide +kernel
theorem dX2_run_98 : decode cX2_run 98 = .ok (.iload 7, 2) := by decide +kernel
theorem dX2_run_100 : decode cX2_run 100 = .ok (.iload 8, 2) := by decide +kernel
theorem dX2_run_102 : decode cX2_run 102 = .ok (.invokevirtual 55, 3) := by decide +kernel
theorem dX2_run_105 : decode cX2_run 105 = .ok (.goto 11, 3) := by decide +kernel
theorem dX2_run_108 : decode cX2_run 108 = .ok (.aload_n 0, 1) := by decide +kernel
theorem dX2_run_109 : decode cX2_run 109 = .ok (.iload 7, 2) := by decide +kernel
theorem dX2_run_111 : decode cX2_run 111 = .ok (.iload 8, 2) := by decide +kernel
theorem dX2_run_113 : decode cX2_run 113 = .ok (.invokevirtual 59, 3) := by decide +kernel
theorem dX2_run_116 : decode cX2_run 116 = .ok (.iinc 6 1, 3) := by decide +kernel
theorem dX2_run_119 : decode cX2_run 119 = .ok (.goto (-82), 3) := by decide +kernel
theorem dX2_run_122 : decode cX2_run 122 = .ok (.return_, 1) := by decide +kernel
theorem dX2_compute_0 : decode cX2_compute 0 = .ok (.iload_n 1, 1) := by decide +kernel
theorem dX2_compute_1 : decode cX2_compute 1 = .ok (.tableswitch 245 0 9 #[55, 66, 77, 95, 113, 139, 156, 173, 184, 209], 55) := by decide +kernel
theorem dX2_compute_56 : decode cX2_compute 56 = .ok (.aload_n 0, 1) := by decide +kernel
theorem dX2_compute_57 : decode cX2_compute 57 = .ok (.getfield 24, 3) := by decide +kernel
theorem dX2_compute_60 : decode cX2_compute 60 = .ok (.invokevirtual 62, 3) := by decide +kernel
theorem dX2_compute_63 : decode cX2_compute 63 = .ok (.pop, 1) := by decide +kernel
theorem dX2_compute_64 : decode cX2_compute 64 = .ok (.goto 204, 3) := by decide +kernel
theorem dX2_compute_67 : decode cX2_compute 67 = .ok (.aload_n 0, 1) := by decide +kernel
theorem dX2_compute_68 : decode cX2_compute 68 = .ok (.getfield 14, 3) := by decide +kernel
theorem dX2_compute_71 : decode cX2_compute 71 = .ok (.iload_n 2, 1) := by decide +kernel
theorem dX2_compute_72 : decode cX2_compute 72 = .ok (.invokevirtual 65, 3) := by decide +kernel
theorem dX2_compute_75 : decode cX2_compute 75 = .ok (.goto 193, 3) := by decide +kernel
theorem dX2_compute_78 : decode cX2_compute 78 = .ok (.aload_n 0, 1) := by decide +kernel
theorem dX2_compute_79 : decode cX2_compute 79 = .ok (.getfield 14, 3) := by decide +kernel
theorem dX2_compute_82 : decode cX2_compute 82 = .ok (.aload_n 0, 1) := by decide +kernel
theorem dX2_compute_83 : decode cX2_compute 83 = .ok (.getfield 24, 3) := by decide +kernel
theorem dX2_compute_86 : decode cX2_compute 86 = .ok (.iload_n 2, 1) := by decide +kernel
theorem dX2_compute_87 : decode cX2_compute 87 = .ok (.invokevirtual 68, 3) := by decide +kernel
theorem dX2_compute_90 : decode cX2_compute 90 = .ok (.invokevirtual 65, 3) := by decide +kernel
theorem dX2_compute_93 : decode cX2_compute 93 = .ok (.goto 175, 3) := by decide +kernel
theorem dX2_compute_96 : decode cX2_compute 96 = .ok (.aload_n 0, 1) := by decide +kernel
theorem dX2_compute_97 : decode cX2_compute 97 = .ok (.getfield 24, 3) := by decide +kernel
theorem dX2_compute_100 : decode cX2_compute 100 = .ok (.iload_n 2, 1) := by decide +kernel
theorem dX2_compute_101 : decode cX2_compute 101 = .ok (.aload_n 0, 1) := by decide +kernel
theorem dX2_compute_102 : decode cX2_compute 102 = .ok (.getfield 14, 3) := by decide +kernel
theorem dX2_compute_105 : decode cX2_compute 105 = .ok (.invokevirtual 71, 3) := by decide +kernel
theorem dX2_compute_108 : decode cX2_compute 108 = .ok (.invokevirtual 75, 3) := by decide +kernel
theorem dX2_compute_111 : decode cX2_compute 111 = .ok (.goto 157, 3) := by decide +kernel
theorem dX2_compute_114 : decode cX2_compute 114 = .ok (.aload_n 0, 1) := by decide +kernel
theorem dX2_compute_115 : decode cX2_compute 115 = .ok (.getfield 14, 3) := by decide +kernel
theorem dX2_compute_118 : decode cX2_compute 118 = .ok (.invokevirtual 71, 3) := by decide +kernel
theorem dX2_compute_121 : decode cX2_compute 121 = .ok (.istore_n 3, 1) := by decide +kernel
theorem dX2_compute_122 : decode cX2_compute 122 = .ok (.aload_n 0, 1) := by decide +kernel
theorem dX2_compute_123 : decode cX2_compute 123 = .ok (.getfield 24, 3) := by decide +kernel
theorem dX2_compute_126 : decode cX2_compute 126 = .ok (.aload_n 0, 1) := by decide +kernel
theorem dX2_compute_127 : decode cX2_compute 127 = .ok (.getfield 14, 3) := by decide +kernel
theorem dX2_compute_130 : decode cX2_compute 130 = .ok (.invokevirtual 71, 3) := by decide +kernel
theorem dX2_compute_133 : decode cX2_compute 133 = .ok (.iload_n 3, 1) := by decide +kernel
theorem dX2_compute_134 : decode cX2_compute 134 = .ok (.invokevirtual 78, 3) := by decide +kernel
theorem dX2_compute_137 : decode cX2_compute 137 = .ok (.goto 131, 3) := by decide +kernel
theorem dX2_compute_140 : decode cX2_compute 140 = .ok (.aload_n 0, 1) := by decide +kernel
theorem dX2_compute_141 : decode cX2_compute 141 = .ok (.getfield 14, 3) := by decide +kernel
theorem dX2_compute_144 : decode cX2_compute 144 = .ok (.aload_n 0, 1) := by decide +kernel
theorem dX2_compute_145 : decode cX2_compute 145 = .ok (.getfield 24, 3) := by decide +kernel
theorem dX2_compute_148 : decode cX2_compute 148 = .ok (.invokevirtual 81, 3) := by decide +kernel
theorem dX2_compute_151 : decode cX2_compute 151 = .ok (.invokevirtual 65, 3) := by decide +kernel
theorem dX2_compute_154 : decode cX2_compute 154 = .ok (.goto 114, 3) := by decide +kernel
theorem dX2_compute_157 : decode cX2_compute 157 = .ok (.aload_n 0, 1) := by decide +kernel
theorem dX2_compute_158 : decode cX2_compute 158 = .ok (.getfield 24, 3) := by decide +kernel
theorem dX2_compute_161 : decode cX2_compute 161 = .ok (.aload_n 0, 1) := by decide +kernel
theorem dX2_compute_162 : decode cX2_compute 162 = .ok (.getfield 14, 3) := by decide +kernel
theorem dX2_compute_165 : decode cX2_compute 165 = .ok (.invokevirtual 71, 3) := by decide +kernel
theorem dX2_compute_168 : decode cX2_compute 168 = .ok (.invokevirtual 84, 3) := by decide +kernel
theorem dX2_compute_171 : decode cX2_compute 171 = .ok (.goto 97, 3) := by decide +kernel
theorem dX2_compute_174 : decode cX2_compute 174 = .ok (.aload_n 0, 1) := by decide +kernel
theorem dX2_compute_175 : decode cX2_compute 175 = .ok (.getfield 14, 3) := by decide +kernel
theorem dX2_compute_178 : decode cX2_compute 178 = .ok (.invokevirtual 71, 3) := by decide +kernel
theorem dX2_compute_181 : decode cX2_compute 181 = .ok (.pop, 1) := by decide +kernel
theorem dX2_compute_182 : decode cX2_compute 182 = .ok (.goto 86, 3) := by decide +kernel
theorem dX2_compute_185 : decode cX2_compute 185 = .ok (.aload_n 0, 1) := by decide +kernel
theorem dX2_compute_186 : decode cX2_compute 186 = .ok (.getfield 14, 3) := by decide +kernel
theorem dX2_compute_189 : decode cX2_compute 189 = .ok (.aload_n 0, 1) := by decide +kernel
theorem dX2_compute_190 : decode cX2_compute 190 = .ok (.getfield 24, 3) := by decide +kernel
theorem dX2_compute_193 : decode cX2_compute 193 = .ok (.iload_n 2, 1) := by decide +kernel
theorem dX2_compute_194 : decode cX2_compute 194 = .ok (.aload_n 0, 1) := by decide +kernel
theorem dX2_compute_195 : decode cX2_compute 195 = .ok (.getfield 14, 3) := by decide +kernel
theorem dX2_compute_198 : decode cX2_compute 198 = .ok (.invokevirtual 71, 3) := by decide +kernel
theorem dX2_compute_201 : decode cX2_compute 201 = .ok (.invokevirtual 87, 3) := by decide +kernel
theorem dX2_compute_204 : decode cX2_compute 204 = .ok (.invokevirtual 65, 3) := by decide +kernel
theorem dX2_compute_207 : decode cX2_compute 207 = .ok (.goto 61, 3) := by decide +kernel
theorem dX2_compute_210 : decode cX2_compute 210 = .ok (.aload_n 0, 1) := by decide +kernel
theorem dX2_compute_211 : decode cX2_compute 211 = .ok (.getfield 14, 3) := by decide +kernel
theorem dX2_compute_214 : decode cX2_compute 214 = .ok (.invokevirtual 71, 3) := by decide +kernel
theorem dX2_compute_217 : decode cX2_compute 217 = .ok (.istore 4, 2) := by decide +kernel
theorem dX2_compute_219 : decode cX2_compute 219 = .ok (.aload_n 0, 1) := by decide +kernel
theorem dX2_compute_220 : decode cX2_compute 220 = .ok (.getfield 14, 3) := by decide +kernel
theorem dX2_compute_223 : decode cX2_compute 223 = .ok (.aload_n 0, 1) := by decide +kernel
theorem dX2_compute_224 : decode cX2_compute 224 = .ok (.getfield 24, 3) := by decide +kernel
theorem dX2_compute_227 : decode cX2_compute 227 = .ok (.iload_n 2, 1) := by decide +kernel
theorem dX2_compute_228 : decode cX2_compute 228 = .ok (.aload_n 0, 1) := by decide +kernel
theorem dX2_compute_229 : decode cX2_compute 229 = .ok (.getfield 14, 3) := by decide +kernel
theorem dX2_compute_232 : decode cX2_compute 232 = .ok (.invokevirtual 71, 3) := by decide +kernel
theorem dX2_compute_235 : decode cX2_compute 235 = .ok (.iload 4, 2) := by decide +kernel
theorem dX2_compute_237 : decode cX2_compute 237 = .ok (.invokevirtual 91, 3) := by decide +kernel
theorem dX2_compute_240 : decode cX2_compute 240 = .ok (.invokevirtual 65, 3) := by decide +kernel
theorem dX2_compute_243 : decode cX2_compute 243 = .ok (.goto 25, 3) := by decide +kernel
theorem dX2_compute_246 : decode cX2_compute 246 = .ok (.aload_n 0, 1) := by decide +kernel
theorem dX2_compute_247 : decode cX2_compute 247 = .ok (.getfield 14, 3) := by decide +kernel
theorem dX2_compute_250 : decode cX2_compute 250 = .ok (.aload_n 0, 1) := by decide +kernel
theorem dX2_compute_251 : decode cX2_compute 251 = .ok (.getfield 14, 3) := by decide +kernel
theorem dX2_compute_254 : decode cX2_compute 254 = .ok (.invokevirtual 71, 3) := by decide +kernel
theorem dX2_compute_257 : decode cX2_compute 257 = .ok (.ifCond .ne 7, 3) := by decide +kernel
theorem dX2_compute_260 : decode cX2_compute 260 = .ok (.iconst 0, 1) := by decide +kernel
theorem dX2_compute_261 : decode cX2_compute 261 = .ok (.goto 4, 3) := by decide +kernel
theorem dX2_compute_264 : decode cX2_compute 264 = .ok (.iconst 1, 1) := by decide +kernel
theorem dX2_compute_265 : decode cX2_compute 265 = .ok (.invokevirtual 65, 3) := by decide +kernel
theorem dX2_compute_268 : decode cX2_compute 268 = .ok (.return_, 1) := by decide +kernel
theorem dX2_go_0 : decode cX2_go 0 = .ok (.iload_n 1, 1) := by decide +kernel
theorem dX2_go_1 : decode cX2_go 1 = .ok (.tableswitch 123 11 16 #[39, 39, 68, 76, 101, 109], 39) := by decide +kernel
theorem dX2_go_40 : decode cX2_go 40 = .ok (.aload_n 0, 1) := by decide +kernel
theorem dX2_go_41 : decode cX2_go 41 = .ok (.getfield 24, 3) := by decide +kernel
theorem dX2_go_44 : decode cX2_go 44 = .ok (.invokevirtual 62, 3) := by decide +kernel
theorem dX2_go_47 : decode cX2_go 47 = .ok (.ifCond .eq 85, 3) := by decide +kernel
theorem dX2_go_50 : decode cX2_go 50 = .ok (.aload_n 0, 1) := by decide +kernel
theorem dX2_go_51 : decode cX2_go 51 = .ok (.iload_n 1, 1) := by decide +kernel
theorem dX2_go_52 : decode cX2_go 52 = .ok (.bipush 12, 2) := by decide +kernel
theorem dX2_go_54 : decode cX2_go 54 = .ok (.if_icmp .ne 7, 3) := by decide +kernel
theorem dX2_go_57 : decode cX2_go 57 = .ok (.iconst 1, 1) := by decide +kernel
theorem dX2_go_58 : decode cX2_go 58 = .ok (.goto 4, 3) := by decide +kernel
theorem dX2_go_61 : decode cX2_go 61 = .ok (.iconst 0, 1) := by decide +kernel
theorem dX2_go_62 : decode cX2_go 62 = .ok (.iload_n 2, 1) := by decide +kernel
theorem dX2_go_63 : decode cX2_go 63 = .ok (.invokevirtual 95, 3) := by decide +kernel
theorem dX2_go_66 : decode cX2_go 66 = .ok (.goto 66, 3) := by decide +kernel
theorem dX2_go_69 : decode cX2_go 69 = .ok (.aload_n 0, 1) := by decide +kernel
theorem dX2_go_70 : decode cX2_go 70 = .ok (.iload_n 2, 1) := by decide +kernel
theorem dX2_go_71 : decode cX2_go 71 = .ok (.putfield 37, 3) := by decide +kernel
theorem dX2_go_74 : decode cX2_go 74 = .ok (.goto 58, 3) := by decide +kernel
theorem dX2_go_77 : decode cX2_go 77 = .ok (.aload_n 0, 1) := by decide +kernel
theorem dX2_go_78 : decode cX2_go 78 = .ok (.aload_n 0, 1) := by decide +kernel
theorem dX2_go_79 : decode cX2_go 79 = .ok (.getfield 14, 3) := by decide +kernel
theorem dX2_go_82 : decode cX2_go 82 = .ok (.invokevirtual 71, 3) := by decide +kernel
theorem dX2_go_85 : decode cX2_go 85 = .ok (.ifCond .ne 7, 3) := by decide +kernel
theorem dX2_go_88 : decode cX2_go 88 = .ok (.iload_n 2, 1) := by decide +kernel
theorem dX2_go_89 : decode cX2_go 89 = .ok (.goto 7, 3) := by decide +kernel
theorem dX2_go_92 : decode cX2_go 92 = .ok (.aload_n 0, 1) := by decide +kernel
theorem dX2_go_93 : decode cX2_go 93 = .ok (.getfield 37, 3) := by decide +kernel
theorem dX2_go_96 : decode cX2_go 96 = .ok (.putfield 37, 3) := by decide +kernel
theorem dX2_go_99 : decode cX2_go 99 = .ok (.goto 33, 3) := by decide +kernel
theorem dX2_go_102 : decode cX2_go 102 = .ok (.aload_n 0, 1) := by decide +kernel
theorem dX2_go_103 : decode cX2_go 103 = .ok (.iload_n 2, 1) := by decide +kernel
theorem dX2_go_104 : decode cX2_go 104 = .ok (.invokevirtual 99, 3) := by decide +kernel
theorem dX2_go_107 : decode cX2_go 107 = .ok (.goto 25, 3) := by decide +kernel
theorem dX2_go_110 : decode cX2_go 110 = .ok (.aload_n 0, 1) := by decide +kernel
theorem dX2_go_111 : decode cX2_go 111 = .ok (.aload_n 0, 1) := by decide +kernel
theorem dX2_go_112 : decode cX2_go 112 = .ok (.getfield 24, 3) := by decide +kernel
theorem dX2_go_115 : decode cX2_go 115 = .ok (.invokevirtual 102, 3) := by decide +kernel
theorem dX2_go_118 : decode cX2_go 118 = .ok (.putfield 37, 3) := by decide +kernel
theorem dX2_go_121 : decode cX2_go 121 = .ok (.goto 11, 3) := by decide +kernel
theorem dX2_go_124 : decode cX2_go 124 = .ok (.aload_n 0, 1) := by decide +kernel
theorem dX2_go_125 : decode cX2_go 125 = .ok (.getfield 24, 3) := by decide +kernel
theorem dX2_go_128 : decode cX2_go 128 = .ok (.iconst 0, 1) := by decide +kernel
theorem dX2_go_129 : decode cX2_go 129 = .ok (.invokevirtual 105, 3) := by decide +kernel
theorem dX2_go_132 : decode cX2_go 132 = .ok (.return_, 1) := by decide +kernel
theorem dX2_decide_0 : decode cX2_decide 0 = .ok (.aload_n 0, 1) := by decide +kernel
theorem dX2_decide_1 : decode cX2_decide 1 = .ok (.getfield 14, 3) := by decide +kernel
theorem dX2_decide_4 : decode cX2_decide 4 = .ok (.invokevirtual 71, 3) := by decide +kernel
theorem dX2_decide_7 : decode cX2_decide 7 = .ok (.ifCond .eq 7, 3) := by decide +kernel
theorem dX2_decide_10 : decode cX2_decide 10 = .ok (.iconst 1, 1) := by decide +kernel
theorem dX2_decide_11 : decode cX2_decide 11 = .ok (.goto 4, 3) := by decide +kernel
theorem dX2_decide_14 : decode cX2_decide 14 = .ok (.iconst 0, 1) := by decide +kernel
theorem dX2_decide_15 : decode cX2_decide 15 = .ok (.istore_n 3, 1) := by decide +kernel
theorem dX2_decide_16 : decode cX2_decide 16 = .ok (.iload_n 3, 1) := by decide +kernel
theorem dX2_decide_17 : decode cX2_decide 17 = .ok (.iload_n 1, 1) := by decide +kernel
theorem dX2_decide_18 : decode cX2_decide 18 = .ok (.if_icmp .ne 24, 3) := by decide +kernel
theorem dX2_decide_21 : decode cX2_decide 21 = .ok (.aload_n 0, 1) := by decide +kernel
theorem dX2_decide_22 : decode cX2_decide 22 = .ok (.getfield 14, 3) := by decide +kernel
theorem dX2_decide_25 : decode cX2_decide 25 = .ok (.iload_n 3, 1) := by decide +kernel
theorem dX2_decide_26 : decode cX2_decide 26 = .ok (.ifCond .eq 7, 3) := by decide +kernel
theorem dX2_decide_29 : decode cX2_decide 29 = .ok (.iconst 1, 1) := by decide +kernel
theorem dX2_decide_30 : decode cX2_decide 30 = .ok (.goto 4, 3) := by decide +kernel
theorem dX2_decide_33 : decode cX2_decide 33 = .ok (.iconst 0, 1) := by decide +kernel
theorem dX2_decide_34 : decode cX2_decide 34 = .ok (.invokevirtual 65, 3) := by decide +kernel
theorem dX2_decide_37 : decode cX2_decide 37 = .ok (.aload_n 0, 1) := by decide +kernel
theorem dX2_decide_38 : decode cX2_decide 38 = .ok (.iload_n 2, 1) := by decide +kernel
theorem dX2_decide_39 : decode cX2_decide 39 = .ok (.putfield 37, 3) := by decide +kernel
theorem dX2_decide_42 : decode cX2_decide 42 = .ok (.return_, 1) := by decide +kernel
theorem dX2_call_0 : decode cX2_call 0 = .ok (.aload_n 0, 1) := by decide +kernel
theorem dX2_call_1 : decode cX2_call 1 = .ok (.getfield 24, 3) := by decide +kernel
theorem dX2_call_4 : decode cX2_call 4 = .ok (.aload_n 0, 1) := by decide +kernel
theorem dX2_call_5 : decode cX2_call 5 = .ok (.getfield 37, 3) := by decide +kernel
theorem dX2_call_8 : decode cX2_call 8 = .ok (.invokevirtual 108, 3) := by decide +kernel
theorem dX2_call_11 : decode cX2_call 11 = .ok (.ifCond .eq 51, 3) := by decide +kernel
theorem dX2_call_14 : decode cX2_call 14 = .ok (.aload_n 0, 1) := by decide +kernel
theorem dX2_call_15 : decode cX2_call 15 = .ok (.getfield 20, 3) := by decide +kernel
theorem dX2_call_18 : decode cX2_call 18 = .ok (.iload_n 1, 1) := by decide +kernel
theorem dX2_call_19 : decode cX2_call 19 = .ok (.invokevirtual 112, 3) := by decide +kernel
theorem dX2_call_22 : decode cX2_call 22 = .ok (.iconst 1, 1) := by decide +kernel
theorem dX2_call_23 : decode cX2_call 23 = .ok (.isub, 1) := by decide +kernel
theorem dX2_call_24 : decode cX2_call 24 = .ok (.istore_n 2, 1) := by decide +kernel
theorem dX2_call_25 : decode cX2_call 25 = .ok (.iload_n 2, 1) := by decide +kernel
theorem dX2_call_26 : decode cX2_call 26 = .ok (.ifCond .lt 24, 3) := by decide +kernel
theorem dX2_call_29 : decode cX2_call 29 = .ok (.aload_n 0, 1) := by decide +kernel
theorem dX2_call_30 : decode cX2_call 30 = .ok (.getfield 24, 3) := by decide +kernel
theorem dX2_call_33 : decode cX2_call 33 = .ok (.iload_n 2, 1) := by decide +kernel
theorem dX2_call_34 : decode cX2_call 34 = .ok (.aload_n 0, 1) := by decide +kernel
theorem dX2_call_35 : decode cX2_call 35 = .ok (.getfield 14, 3) := by decide +kernel
theorem dX2_call_38 : decode cX2_call 38 = .ok (.invokevirtual 71, 3) := by decide +kernel
theorem dX2_call_41 : decode cX2_call 41 = .ok (.invokevirtual 75, 3) := by decide +kernel
theorem dX2_call_44 : decode cX2_call 44 = .ok (.iinc 2 (-1), 3) := by decide +kernel
theorem dX2_call_47 : decode cX2_call 47 = .ok (.goto (-22), 3) := by decide +kernel
theorem dX2_call_50 : decode cX2_call 50 = .ok (.aload_n 0, 1) := by decide +kernel
theorem dX2_call_51 : decode cX2_call 51 = .ok (.aload_n 0, 1) := by decide +kernel
theorem dX2_call_52 : decode cX2_call 52 = .ok (.getfield 20, 3) := by decide +kernel
theorem dX2_call_55 : decode cX2_call 55 = .ok (.iload_n 1, 1) := by decide +kernel
theorem dX2_call_56 : decode cX2_call 56 = .ok (.invokevirtual 115, 3) := by decide +kernel
theorem dX2_call_59 : decode cX2_call 59 = .ok (.putfield 37, 3) := by decide +kernel
theorem dX2_call_62 : decode cX2_call 62 = .ok (.return_, 1) := by decide +kernel
theorem dX3_init_0 : decode cX3_init 0 = .ok (.aload_n 0, 1) := by decide +kernel
theorem dX3_init_1 : decode cX3_init 1 = .ok (.invokespecial 3, 3) := by decide +kernel
theorem dX3_init_4 : decode cX3_init 4 = .ok (.aload_n 0, 1) := by decide +kernel
theorem dX3_init_5 : decode cX3_init 5 = .ok (.new 9, 3) := by decide +kernel
theorem dX3_init_8 : decode cX3_init 8 = .ok (.dup, 1) := by decide +kernel
theorem dX3_init_9 : decode cX3_init 9 = .ok (.invokespecial 11, 3) := by decide +kernel
theorem dX3_init_12 : decode cX3_init 12 = .ok (.putfield 12, 3) := by decide +kernel
theorem dX3_init_15 : decode cX3_init 15 = .ok (.aload_n 0, 1) := by decide +kernel
theorem dX3_init_16 : decode cX3_init 16 = .ok (.new 18, 3) := by decide +kernel
theorem dX3_init_19 : decode cX3_init 19 = .ok (.dup, 1) := by decide +kernel
theorem dX3_init_20 : decode cX3_init 20 = .ok (.sipush 150, 3) := by decide +kernel
theorem dX3_init_23 : decode cX3_init 23 = .ok (.invokespecial 20, 3) := by decide +kernel
theorem dX3_init_26 : decode cX3_init 26 = .ok (.putfield 23, 3) := by decide +kernel
theorem dX3_init_29 : decode cX3_init 29 = .ok (.aload_n 0, 1) := by decide +kernel
theorem dX3_init_30 : decode cX3_init 30 = .ok (.new 18, 3) := by decide +kernel
theorem dX3_init_33 : decode cX3_init 33 = .ok (.dup, 1) := by decide +kernel
theorem dX3_init_34 : decode cX3_init 34 = .ok (.sipush 150, 3) := by decide +kernel
theorem dX3_init_37 : decode cX3_init 37 = .ok (.invokespecial 20, 3) := by decide +kernel
theorem dX3_init_40 : decode cX3_init 40 = .ok (.putfield 27, 3) := by decide +kernel
theorem dX3_init_43 : decode cX3_init 43 = .ok (.aload_n 0, 1) := by decide +kernel
theorem dX3_init_44 : decode cX3_init 44 = .ok (.new 18, 3) := by decide +kernel
theorem dX3_init_47 : decode cX3_init 47 = .ok (.dup, 1) := by decide +kernel
theorem dX3_init_48 : decode cX3_init 48 = .ok (.sipush 600, 3) := by decide +kernel
theorem dX3_init_51 : decode cX3_init 51 = .ok (.invokespecial 20, 3) := by decide +kernel
theorem dX3_init_54 : decode cX3_init 54 = .ok (.putfield 30, 3) := by decide +kernel
theorem dX3_init_57 : decode cX3_init 57 = .ok (.aload_n 0, 1) := by decide +kernel
theorem dX3_init_58 : decode cX3_init 58 = .ok (.new 18, 3) := by decide +kernel
theorem dX3_init_61 : decode cX3_init 61 = .ok (.dup, 1) := by decide +kernel
theorem dX3_init_62 : decode cX3_init 62 = .ok (.sipush 600, 3) := by decide +kernel
theorem dX3_init_65 : decode cX3_init 65 = .ok (.invokespecial 20, 3) := by decide +kernel
theorem dX3_init_68 : decode cX3_init 68 = .ok (.putfield 33, 3) := by decide +kernel
theorem dX3_init_71 : decode cX3_init 71 = .ok (.aload_n 0, 1) := by decide +kernel
theorem dX3_init_72 : decode cX3_init 72 = .ok (.new 18, 3) := by decide +kernel
theorem dX3_init_75 : decode cX3_init 75 = .ok (.dup, 1) := by decide +kernel
theorem dX3_init_76 : decode cX3_init 76 = .ok (.bipush 75, 2) := by decide +kernel
theorem dX3_init_78 : decode cX3_init 78 = .ok (.invokespecial 20, 3) := by decide +kernel
theorem dX3_init_81 : decode cX3_init 81 = .ok (.putfield 36, 3) := by decide +kernel
theorem dX3_init_84 : decode cX3_init 84 = .ok (.aload_n 0, 1) := by decide +kernel
theorem dX3_init_85 : decode cX3_init 85 = .ok (.new 18, 3) := by decide +kernel
theorem dX3_init_88 : decode cX3_init 88 = .ok (.dup, 1) := by decide +kernel
theorem dX3_init_89 : decode cX3_init 89 = .ok (.bipush 75, 2) := by decide +kernel
theorem dX3_init_91 : decode cX3_init 91 = .ok (.invokespecial 20, 3) := by decide +kernel
theorem dX3_init_94 : decode cX3_init 94 = .ok (.putfield 39, 3) := by decide +kernel
theorem dX3_init_97 : decode cX3_init 97 = .ok (.aload_n 0, 1) := by decide +kernel
theorem dX3_init_98 : decode cX3_init 98 = .ok (.new 18, 3) := by decide +kernel
theorem dX3_init_101 : decode cX3_init 101 = .ok (.dup, 1) := by decide +kernel
theorem dX3_init_102 : decode cX3_init 102 = .ok (.bipush 75, 2) := by decide +kernel
theorem dX3_init_104 : decode cX3_init 104 = .ok (.invokespecial 20, 3) := by decide +kernel
theorem dX3_init_107 : decode cX3_init 107 = .ok (.putfield 42, 3) := by decide +kernel
theorem dX3_init_110 : decode cX3_init 110 = .ok (.aload_n 0, 1) := by decide +kernel
theorem dX3_init_111 : decode cX3_init 111 = .ok (.new 18, 3) := by decide +kernel
theorem dX3_init_114 : decode cX3_init 114 = .ok (.dup, 1) := by decide +kernel
theorem dX3_init_115 : decode cX3_init 115 = .ok (.bipush 75, 2) := by decide +kernel
theorem dX3_init_117 : decode cX3_init 117 = .ok (.invokespecial 20, 3) := by decide +kernel
theorem dX3_init_120 : decode cX3_init 120 = .ok (.putfield 45, 3) := by decide +kernel
theorem dX3_init_123 : decode cX3_init 123 = .ok (.aload_n 0, 1) := by decide +kernel
theorem dX3_init_124 : decode cX3_init 124 = .ok (.iconst 0, 1) := by decide +kernel
theorem dX3_init_125 : decode cX3_init 125 = .ok (.putfield 48, 3) := by decide +kernel
theorem dX3_init_128 : decode cX3_init 128 = .ok (.return_, 1) := by decide +kernel
theorem dX3_begin_0 : decode cX3_begin 0 = .ok (.aload_n 0, 1) := by decide +kernel
theorem dX3_begin_1 : decode cX3_begin 1 = .ok (.getfield 23, 3) := by decide +kernel
theorem dX3_begin_4 : decode cX3_begin 4 = .ok (.invokevirtual 52, 3) := by decide +kernel
theorem dX3_begin_7 : decode cX3_begin 7 = .ok (.aload_n 0, 1) := by decide +kernel
theorem dX3_begin_8 : decode cX3_begin 8 = .ok (.getfield 27, 3) := by decide +kernel
theorem dX3_begin_11 : decode cX3_begin 11 = .ok (.invokevirtual 52, 3) := by decide +kernel
theorem dX3_begin_14 : decode cX3_begin 14 = .ok (.aload_n 0, 1) := by decide +kernel
theorem dX3_begin_15 : decode cX3_begin 15 = .ok (.getfield 30, 3) := by decide +kernel
theorem dX3_begin_18 : decode cX3_begin 18 = .ok (.invokevirtual 52, 3) := by decide +kernel
theorem dX3_begin_21 : decode cX3_begin 21 = .ok (.aload_n 0, 1) := by decide +kernel
theorem dX3_begin_22 : decode cX3_begin 22 = .ok (.getfield 33, 3) := by decide +kernel
theorem dX3_begin_25 : decode cX3_begin 25 = .ok (.invokevirtual 52, 3) := by decide +kernel
theorem dX3_begin_28 : decode cX3_begin 28 = .ok (.aload_n 0, 1) := by decide +kernel
theorem dX3_begin_29 : decode cX3_begin 29 = .ok (.getfield 36, 3) := by decide +kernel
theorem dX3_begin_32 : decode cX3_begin 32 = .ok (.invokevirtual 52, 3) := by decide +kernel
theorem dX3_begin_35 : decode cX3_begin 35 = .ok (.aload_n 0, 1) := by decide +kernel
theorem dX3_begin_36 : decode cX3_begin 36 = .ok (.getfield 39, 3) := by decide +kernel
theorem dX3_begin_39 : decode cX3_begin 39 = .ok (.invokevirtual 52, 3) := by decide +kernel
theorem dX3_begin_42 : decode cX3_begin 42 = .ok (.aload_n 0, 1) := by decide +kernel
theorem dX3_begin_43 : decode cX3_begin 43 = .ok (.getfield 42, 3) := by decide +kernel
theorem dX3_begin_46 : decode cX3_begin 46 = .ok (.invokevirtual 52, 3) := by decide +kernel
theorem dX3_begin_49 : decode cX3_begin 49 = .ok (.aload_n 0, 1) := by decide +kernel
theorem dX3_begin_50 : decode cX3_begin 50 = .ok (.getfield 45, 3) := by decide +kernel
theorem dX3_begin_53 : decode cX3_begin 53 = .ok (.invokevirtual 52, 3) := by decide +kernel
theorem dX3_begin_56 : decode cX3_begin 56 = .ok (.aload_n 0, 1) := by decide +kernel
theorem dX3_begin_57 : decode cX3_begin 57 = .ok (.iconst 0, 1) := by decide +kernel
theorem dX3_begin_58 : decode cX3_begin 58 = .ok (.putfield 48, 3) := by decide +kernel
theorem dX3_begin_61 : decode cX3_begin 61 = .ok (.return_, 1) := by decide +kernel
theorem dX3_beginPart_0 : decode cX3_beginPart 0 = .ok (.aload_n 0, 1) := by decide +kernel
theorem dX3_beginPart_1 : decode cX3_beginPart 1 = .ok (.getfield 23, 3) := by decide +kernel
theorem dX3_beginPart_4 : decode cX3_beginPart 4 = .ok (.iload_n 1, 1) := by decide +kernel
theorem dX3_beginPart_5 : decode cX3_beginPart 5 = .ok (.invokevirtual 55, 3) := by decide +kernel
theorem dX3_beginPart_8 : decode cX3_beginPart 8 = .ok (.aload_n 0, 1) := by decide +kernel
theorem dX3_beginPart_9 : decode cX3_beginPart 9 = .ok (.getfield 27, 3) := by decide +kernel
theorem dX3_beginPart_12 : decode cX3_beginPart 12 = .ok (.iload_n 1, 1) := by decide +kernel
theorem dX3_beginPart_13 : decode cX3_beginPart 13 = .ok (.invokevirtual 55, 3) := by decide +kernel
theorem dX3_beginPart_16 : decode cX3_beginPart 16 = .ok (.aload_n 0, 1) := by decide +kernel
theorem dX3_beginPart_17 : decode cX3_beginPart 17 = .ok (.getfield 23, 3) := by decide +kernel
theorem dX3_beginPart_20 : decode cX3_beginPart 20 = .ok (.invokevirtual 58, 3) := by decide +kernel
theorem dX3_beginPart_23 : decode cX3_beginPart 23 = .ok (.iconst 1, 1) := by decide +kernel
theorem dX3_beginPart_24 : decode cX3_beginPart 24 = .ok (.isub, 1) := by decide +kernel
theorem dX3_beginPart_25 : decode cX3_beginPart 25 = .ok (.ireturn, 1) := by decide +kernel
theorem dX3_endPart_0 : decode cX3_endPart 0 = .ok (.aload_n 0, 1) := by decide +kernel
theorem dX3_endPart_1 : decode cX3_endPart 1 = .ok (.getfield 27, 3) := by decide +kernel
theorem dX3_endPart_4 : decode cX3_endPart 4 = .ok (.iload_n 1, 1) := by decide +kernel
theorem dX3_endPart_5 : decode cX3_endPart 5 = .ok (.iload_n 2, 1) := by decide +kernel
theorem dX3_endPart_6 : decode cX3_endPart 6 = .ok (.invokevirtual 62, 3) := by decide +kernel
theorem dX3_endPart_9 : decode cX3_endPart 9 = .ok (.return_, 1) := by decide +kernel
theorem dX3_partCount_0 : decode cX3_partCount 0 = .ok (.aload_n 0, 1) := by decide +kernel
theorem dX3_partCount_1 : decode cX3_partCount 1 = .ok (.getfield 23, 3) := by decide +kernel
theorem dX3_partCount_4 : decode cX3_partCount 4 = .ok (.invokevirtual 58, 3) := by decide +kernel
theorem dX3_partCount_7 : decode cX3_partCount 7 = .ok (.ireturn, 1) := by decide +kernel
theorem dX3_addCode_0 : decode cX3_addCode 0 = .ok (.aload_n 0, 1) := by decide +kernel
theorem dX3_addCode_1 : decode cX3_addCode 1 = .ok (.getfield 30, 3) := by decide +kernel
theorem dX3_addCode_4 : decode cX3_addCode 4 = .ok (.iload_n 1, 1) := by decide +kernel
theorem dX3_addCode_5 : decode cX3_addCode 5 = .ok (.invokevirtual 55, 3) := by decide +kernel
theorem dX3_addCode_8 : decode cX3_addCode 8 = .ok (.aload_n 0, 1) := by decide +kernel
theorem dX3_addCode_9 : decode cX3_addCode 9 = .ok (.getfield 33, 3) := by decide +kernel
theorem dX3_addCode_12 : decode cX3_addCode 12 = .ok (.iload_n 2, 1) := by decide +kernel
theorem dX3_addCode_13 : decode cX3_addCode 13 = .ok (.invokevirtual 55, 3) := by decide +kernel
theorem dX3_addCode_16 : decode cX3_addCode 16 = .ok (.aload_n 0, 1) := by decide +kernel
theorem dX3_addCode_17 : decode cX3_addCode 17 = .ok (.getfield 30, 3) := by decide +kernel
theorem dX3_addCode_20 : decode cX3_addCode 20 = .ok (.invokevirtual 58, 3) := by decide +kernel
theorem dX3_addCode_23 : decode cX3_addCode 23 = .ok (.iconst 1, 1) := by decide +kernel
theorem dX3_addCode_24 : decode cX3_addCode 24 = .ok (.isub, 1) := by decide +kernel
theorem dX3_addCode_25 : decode cX3_addCode 25 = .ok (.ireturn, 1) := by decide +kernel
theorem dX3_codeCount_0 : decode cX3_codeCount 0 = .ok (.aload_n 0, 1) := by decide +kernel
theorem dX3_codeCount_1 : decode cX3_codeCount 1 = .ok (.getfield 30, 3) := by decide +kernel
theorem dX3_codeCount_4 : decode cX3_codeCount 4 = .ok (.invokevirtual 58, 3) := by decide +kernel
theorem dX3_codeCount_7 : decode cX3_codeCount 7 = .ok (.ireturn, 1) := by decide +kernel
theorem dX3_code_0 : decode cX3_code 0 = .ok (.aload_n 0, 1) := by decide +kernel
theorem dX3_code_1 : decode cX3_code 1 = .ok (.getfield 30, 3) := by decide +kernel
theorem dX3_code_4 : decode cX3_code 4 = .ok (.iload_n 1, 1) := by decide +kernel
theorem dX3_code_5 : decode cX3_code 5 = .ok (.invokevirtual 66, 3) := by decide +kernel
theorem dX3_code_8 : decode cX3_code 8 = .ok (.ireturn, 1) := by decide +kernel
theorem dX3_operand_0 : decode cX3_operand 0 = .ok (.aload_n 0, 1) := by decide +kernel
theorem dX3_operand_1 : decode cX3_operand 1 = .ok (.getfield 33, 3) := by decide +kernel
theorem dX3_operand_4 : decode cX3_operand 4 = .ok (.iload_n 1, 1) := by decide +kernel
theorem dX3_operand_5 : decode cX3_operand 5 = .ok (.invokevirtual 66, 3) := by decide +kernel
theorem dX3_operand_8 : decode cX3_operand 8 = .ok (.ireturn, 1) := by decide +kernel
theorem dX3_setOperand_0 : decode cX3_setOperand 0 = .ok (.aload_n 0, 1) := by decide +kernel
theorem dX3_setOperand_1 : decode cX3_setOperand 1 = .ok (.getfield 33, 3) := by decide +kernel
theorem dX3_setOperand_4 : decode cX3_setOperand 4 = .ok (.iload_n 1, 1) := by decide +kernel
theorem dX3_setOperand_5 : decode cX3_setOperand 5 = .ok (.iload_n 2, 1) := by decide +kernel
theorem dX3_setOperand_6 : decode cX3_setOperand 6 = .ok (.invokevirtual 62, 3) := by decide +kernel
theorem dX3_setOperand_9 : decode cX3_setOperand 9 = .ok (.return_, 1) := by decide +kernel
theorem dX3_addDef_0 : decode cX3_addDef 0 = .ok (.aload_n 0, 1) := by decide +kernel
theorem dX3_addDef_1 : decode cX3_addDef 1 = .ok (.getfield 36, 3) := by decide +kernel
theorem dX3_addDef_4 : decode cX3_addDef 4 = .ok (.iload_n 1, 1) := by decide +kernel
theorem dX3_addDef_5 : decode cX3_addDef 5 = .ok (.invokevirtual 55, 3) := by decide +kernel
theorem dX3_addDef_8 : decode cX3_addDef 8 = .ok (.aload_n 0, 1) := by decide +kernel
theorem dX3_addDef_9 : decode cX3_addDef 9 = .ok (.getfield 39, 3) := by decide +kernel
theorem dX3_addDef_12 : decode cX3_addDef 12 = .ok (.iconst 0, 1) := by decide +kernel
theorem dX3_addDef_13 : decode cX3_addDef 13 = .ok (.invokevirtual 55, 3) := by decide +kernel
theorem dX3_addDef_16 : decode cX3_addDef 16 = .ok (.aload_n 0, 1) := by decide +kernel
theorem dX3_addDef_17 : decode cX3_addDef 17 = .ok (.getfield 42, 3) := by decide +kernel
theorem dX3_addDef_20 : decode cX3_addDef 20 = .ok (.iconst 0, 1) := by decide +kernel
theorem dX3_addDef_21 : decode cX3_addDef 21 = .ok (.invokevirtual 55, 3) := by decide +kernel
theorem dX3_addDef_24 : decode cX3_addDef 24 = .ok (.aload_n 0, 1) := by decide +kernel
theorem dX3_addDef_25 : decode cX3_addDef 25 = .ok (.getfield 45, 3) := by decide +kernel
theorem dX3_addDef_28 : decode cX3_addDef 28 = .ok (.iconst 0, 1) := by decide +kernel
theorem dX3_addDef_29 : decode cX3_addDef 29 = .ok (.invokevirtual 55, 3) := by decide +kernel
theorem dX3_addDef_32 : decode cX3_addDef 32 = .ok (.aload_n 0, 1) := by decide +kernel
theorem dX3_addDef_33 : decode cX3_addDef 33 = .ok (.getfield 36, 3) := by decide +kernel
theorem dX3_addDef_36 : decode cX3_addDef 36 = .ok (.invokevirtual 58, 3) := by decide +kernel
theorem dX3_addDef_39 : decode cX3_addDef 39 = .ok (.iconst 1, 1) := by decide +kernel
theorem dX3_addDef_40 : decode cX3_addDef 40 = .ok (.isub, 1) := by decide +kernel
theorem dX3_addDef_41 : decode cX3_addDef 41 = .ok (.ireturn, 1) := by decide +kernel
theorem dX3_setDef_0 : decode cX3_setDef 0 = .ok (.aload_n 0, 1) := by decide +kernel
theorem dX3_setDef_1 : decode cX3_setDef 1 = .ok (.getfield 39, 3) := by decide +kernel
theorem dX3_setDef_4 : decode cX3_setDef 4 = .ok (.iload_n 1, 1) := by decide +kernel
theorem dX3_setDef_5 : decode cX3_setDef 5 = .ok (.iload_n 2, 1) := by decide +kernel
theorem dX3_setDef_6 : decode cX3_setDef 6 = .ok (.invokevirtual 62, 3) := by decide +kernel
theorem dX3_setDef_9 : decode cX3_setDef 9 = .ok (.aload_n 0, 1) := by decide +kernel
theorem dX3_setDef_10 : decode cX3_setDef 10 = .ok (.getfield 42, 3) := by decide +kernel
theorem dX3_setDef_13 : decode cX3_setDef 13 = .ok (.iload_n 1, 1) := by decide +kernel
theorem dX3_setDef_14 : decode cX3_setDef 14 = .ok (.iload_n 3, 1) := by decide +kernel
theorem dX3_setDef_15 : decode cX3_setDef 15 = .ok (.invokevirtual 62, 3) := by decide +kernel
theorem dX3_setDef_18 : decode cX3_setDef 18 = .ok (.aload_n 0, 1) := by decide +kernel
theorem dX3_setDef_19 : decode cX3_setDef 19 = .ok (.getfield 45, 3) := by decide +kernel
theorem dX3_setDef_22 : decode cX3_setDef 22 = .ok (.iload_n 1, 1) := by decide +kernel
theorem dX3_setDef_23 : decode cX3_setDef 23 = .ok (.iload 4, 2) := by decide +kernel
theorem dX3_setDef_25 : decode cX3_setDef 25 = .ok (.invokevirtual 62, 3) := by decide +kernel
theorem dX3_setDef_28 : decode cX3_setDef 28 = .ok (.return_, 1) := by decide +kernel
theorem dX3_defNamed_0 : decode cX3_defNamed 0 = .ok (.aload_n 0, 1) := by decide +kernel
theorem dX3_defNamed_1 : decode cX3_defNamed 1 = .ok (.getfield 36, 3) := by decide +kernel
theorem dX3_defNamed_4 : decode cX3_defNamed 4 = .ok (.iload_n 1, 1) := by decide +kernel
theorem dX3_defNamed_5 : decode cX3_defNamed 5 = .ok (.invokevirtual 70, 3) := by decide +kernel
theorem dX3_defNamed_8 : decode cX3_defNamed 8 = .ok (.ireturn, 1) := by decide +kernel
theorem dX3_parameters_0 : decode cX3_parameters 0 = .ok (.aload_n 0, 1) := by decide +kernel
theorem dX3_parameters_1 : decode cX3_parameters 1 = .ok (.getfield 39, 3) := by decide +kernel
theorem dX3_parameters_4 : decode cX3_parameters 4 = .ok (.iload_n 1, 1) := by decide +kernel
theorem dX3_parameters_5 : decode cX3_parameters 5 = .ok (.invokevirtual 66, 3) := by decide +kernel
theorem dX3_parameters_8 : decode cX3_parameters 8 = .ok (.ireturn, 1) := by decide +kernel
theorem dX3_block_0 : decode cX3_block 0 = .ok (.aload_n 0, 1) := by decide +kernel
theorem dX3_block_1 : decode cX3_block 1 = .ok (.getfield 42, 3) := by decide +kernel
theorem dX3_block_4 : decode cX3_block 4 = .ok (.iload_n 1, 1) := by decide +kernel
theorem dX3_block_5 : decode cX3_block 5 = .ok (.invokevirtual 66, 3) := by decide +kernel
theorem dX3_block_8 : decode cX3_block 8 = .ok (.ireturn, 1) := by decide +kernel
theorem dX3_entry_0 : decode cX3_entry 0 = .ok (.aload_n 0, 1) := by decide +kernel
theorem dX3_entry_1 : decode cX3_entry 1 = .ok (.getfield 45, 3) := by decide +kernel
theorem dX3_entry_4 : decode cX3_entry 4 = .ok (.iload_n 1, 1) := by decide +kernel
theorem dX3_entry_5 : decode cX3_entry 5 = .ok (.invokevirtual 66, 3) := by decide +kernel
theorem dX3_entry_8 : decode cX3_entry 8 = .ok (.ireturn, 1) := by decide +kernel
theorem dX3_partsInCommon_0 : decode cX3_partsInCommon 0 = .ok (.new 18, 3) := by decide +kernel
theorem dX3_partsInCommon_3 : decode cX3_partsInCommon 3 = .ok (.dup, 1) := by decide +kernel
theorem dX3_partsInCommon_4 : decode cX3_partsInCommon 4 = .ok (.aload_n 1, 1) := by decide +kernel
theorem dX3_partsInCommon_5 : decode cX3_partsInCommon 5 = .ok (.invokevirtual 73, 3) := by decide +kernel
theorem dX3_partsInCommon_8 : decode cX3_partsInCommon 8 = .ok (.invokespecial 20, 3) := by decide +kernel
theorem dX3_partsInCommon_11 : decode cX3_partsInCommon 11 = .ok (.astore_n 2, 1) := by decide +kernel
theorem dX3_partsInCommon_12 : decode cX3_partsInCommon 12 = .ok (.aload_n 2, 1) := by decide +kernel
theorem dX3_partsInCommon_13 : decode cX3_partsInCommon 13 = .ok (.invokevirtual 76, 3) := by decide +kernel
theorem dX3_partsInCommon_16 : decode cX3_partsInCommon 16 = .ok (.iconst 0, 1) := by decide +kernel
theorem dX3_partsInCommon_17 : decode cX3_partsInCommon 17 = .ok (.istore_n 3, 1) := by decide +kernel
theorem dX3_partsInCommon_18 : decode cX3_partsInCommon 18 = .ok (.iconst 0, 1) := by decide +kernel
theorem dX3_partsInCommon_19 : decode cX3_partsInCommon 19 = .ok (.istore 4, 2) := by decide +kernel
theorem dX3_partsInCommon_21 : decode cX3_partsInCommon 21 = .ok (.iload 4, 2) := by decide +kernel
theorem dX3_partsInCommon_23 : decode cX3_partsInCommon 23 = .ok (.aload_n 0, 1) := by decide +kernel
theorem dX3_partsInCommon_24 : decode cX3_partsInCommon 24 = .ok (.invokevirtual 73, 3) := by decide +kernel
theorem dX3_partsInCommon_27 : decode cX3_partsInCommon 27 = .ok (.if_icmp .ge 35, 3) := by decide +kernel
theorem dX3_partsInCommon_30 : decode cX3_partsInCommon 30 = .ok (.aload_n 0, 1) := by decide +kernel
theorem dX3_partsInCommon_31 : decode cX3_partsInCommon 31 = .ok (.iload 4, 2) := by decide +kernel
theorem dX3_partsInCommon_33 : decode cX3_partsInCommon 33 = .ok (.aload_n 1, 1) := by decide +kernel
theorem dX3_partsInCommon_34 : decode cX3_partsInCommon 34 = .ok (.aload_n 2, 1) := by decide +kernel
theorem dX3_partsInCommon_35 : decode cX3_partsInCommon 35 = .ok (.invokevirtual 79, 3) := by decide +kernel
theorem dX3_partsInCommon_38 : decode cX3_partsInCommon 38 = .ok (.istore 5, 2) := by decide +kernel
theorem dX3_partsInCommon_40 : decode cX3_partsInCommon 40 = .ok (.iload 5, 2) := by decide +kernel
theorem dX3_partsInCommon_42 : decode cX3_partsInCommon 42 = .ok (.iconst (-1), 1) := by decide +kernel
theorem dX3_partsInCommon_43 : decode cX3_partsInCommon 43 = .ok (.if_icmp .eq 13, 3) := by decide +kernel
theorem dX3_partsInCommon_46 : decode cX3_partsInCommon 46 = .ok (.aload_n 2, 1) := by decide +kernel
theorem dX3_partsInCommon_47 : decode cX3_partsInCommon 47 = .ok (.iload 5, 2) := by decide +kernel
theorem dX3_partsInCommon_49 : decode cX3_partsInCommon 49 = .ok (.iconst 1, 1) := by decide +kernel
theorem dX3_partsInCommon_50 : decode cX3_partsInCommon 50 = .ok (.invokevirtual 62, 3) := by decide +kernel
theorem dX3_partsInCommon_53 : decode cX3_partsInCommon 53 = .ok (.iinc 3 1, 3) := by decide +kernel
theorem dX3_partsInCommon_56 : decode cX3_partsInCommon 56 = .ok (.iinc 4 1, 3) := by decide +kernel
theorem dX3_partsInCommon_59 : decode cX3_partsInCommon 59 = .ok (.goto (-38), 3) := by decide +kernel
theorem dX3_partsInCommon_62 : decode cX3_partsInCommon 62 = .ok (.iload_n 3, 1) := by decide +kernel
theorem dX3_partsInCommon_63 : decode cX3_partsInCommon 63 = .ok (.ireturn, 1) := by decide +kernel
theorem dX3_freePartLike_0 : decode cX3_freePartLike 0 = .ok (.iconst 0, 1) := by decide +kernel
theorem dX3_freePartLike_1 : decode cX3_freePartLike 1 = .ok (.istore 4, 2) := by decide +kernel
theorem dX3_freePartLike_3 : decode cX3_freePartLike 3 = .ok (.iload 4, 2) := by decide +kernel
theorem dX3_freePartLike_5 : decode cX3_freePartLike 5 = .ok (.aload_n 2, 1) := by decide +kernel
theorem dX3_freePartLike_6 : decode cX3_freePartLike 6 = .ok (.invokevirtual 73, 3) := by decide +kernel
theorem dX3_freePartLike_9 : decode cX3_freePartLike 9 = .ok (.if_icmp .ge 32, 3) := by decide +kernel
theorem dX3_freePartLike_12 : decode cX3_freePartLike 12 = .ok (.aload_n 3, 1) := by decide +kernel
theorem dX3_freePartLike_13 : decode cX3_freePartLike 13 = .ok (.iload 4, 2) := by decide +kernel
theorem dX3_freePartLike_15 : decode cX3_freePartLike 15 = .ok (.invokevirtual 66, 3) := by decide +kernel
theorem dX3_freePartLike_18 : decode cX3_freePartLike 18 = .ok (.ifCond .ne 17, 3) := by decide +kernel
theorem dX3_freePartLike_21 : decode cX3_freePartLike 21 = .ok (.aload_n 0, 1) := by decide +kernel
theorem dX3_freePartLike_22 : decode cX3_freePartLike 22 = .ok (.iload_n 1, 1) := by decide +kernel
theorem dX3_freePartLike_23 : decode cX3_freePartLike 23 = .ok (.aload_n 2, 1) := by decide +kernel
theorem dX3_freePartLike_24 : decode cX3_freePartLike 24 = .ok (.iload 4, 2) := by decide +kernel
theorem dX3_freePartLike_26 : decode cX3_freePartLike 26 = .ok (.invokevirtual 83, 3) := by decide +kernel
theorem dX3_freePartLike_29 : decode cX3_freePartLike 29 = .ok (.ifCond .eq 6, 3) := by decide +kernel
theorem dX3_freePartLike_32 : decode cX3_freePartLike 32 = .ok (.iload 4, 2) := by decide +kernel
theorem dX3_freePartLike_34 : decode cX3_freePartLike 34 = .ok (.ireturn, 1) := by decide +kernel
theorem dX3_freePartLike_35 : decode cX3_freePartLike 35 = .ok (.iinc 4 1, 3) := by decide +kernel
theorem dX3_freePartLike_38 : decode cX3_freePartLike 38 = .ok (.goto (-35), 3) := by decide +kernel
theorem dX3_freePartLike_41 : decode cX3_freePartLike 41 = .ok (.iconst (-1), 1) := by decide +kernel
theorem dX3_freePartLike_42 : decode cX3_freePartLike 42 = .ok (.ireturn, 1) := by decide +kernel
theorem dX3_areAlike_0 : decode cX3_areAlike 0 = .ok (.aload_n 0, 1) := by decide +kernel
theorem dX3_areAlike_1 : decode cX3_areAlike 1 = .ok (.getfield 23, 3) := by decide +kernel
theorem dX3_areAlike_4 : decode cX3_areAlike 4 = .ok (.iload_n 1, 1) := by decide +kernel
theorem dX3_areAlike_5 : decode cX3_areAlike 5 = .ok (.invokevirtual 66, 3) := by decide +kernel
theorem dX3_areAlike_8 : decode cX3_areAlike 8 = .ok (.istore 4, 2) := by decide +kernel
theorem dX3_areAlike_10 : decode cX3_areAlike 10 = .ok (.aload_n 2, 1) := by decide +kernel
theorem dX3_areAlike_11 : decode cX3_areAlike 11 = .ok (.getfield 23, 3) := by decide +kernel
theorem dX3_areAlike_14 : decode cX3_areAlike 14 = .ok (.iload_n 3, 1) := by decide +kernel
theorem dX3_areAlike_15 : decode cX3_areAlike 15 = .ok (.invokevirtual 66, 3) := by decide +kernel
theorem dX3_areAlike_18 : decode cX3_areAlike 18 = .ok (.istore 5, 2) := by decide +kernel
theorem dX3_areAlike_20 : decode cX3_areAlike 20 = .ok (.aload_n 0, 1) := by decide +kernel
theorem dX3_areAlike_21 : decode cX3_areAlike 21 = .ok (.getfield 27, 3) := by decide +kernel
theorem dX3_areAlike_24 : decode cX3_areAlike 24 = .ok (.iload_n 1, 1) := by decide +kernel
theorem dX3_areAlike_25 : decode cX3_areAlike 25 = .ok (.invokevirtual 66, 3) := by decide +kernel
theorem dX3_areAlike_28 : decode cX3_areAlike 28 = .ok (.iload 4, 2) := by decide +kernel
theorem dX3_areAlike_30 : decode cX3_areAlike 30 = .ok (.isub, 1) := by decide +kernel
theorem dX3_areAlike_31 : decode cX3_areAlike 31 = .ok (.istore 6, 2) := by decide +kernel
theorem dX3_areAlike_33 : decode cX3_areAlike 33 = .ok (.aload_n 2, 1) := by decide +kernel
theorem dX3_areAlike_34 : decode cX3_areAlike 34 = .ok (.getfield 27, 3) := by decide +kernel
theorem dX3_areAlike_37 : decode cX3_areAlike 37 = .ok (.iload_n 3, 1) := by decide +kernel
theorem dX3_areAlike_38 : decode cX3_areAlike 38 = .ok (.invokevirtual 66, 3) := by decide +kernel
theorem dX3_areAlike_41 : decode cX3_areAlike 41 = .ok (.iload 5, 2) := by decide +kernel
theorem dX3_areAlike_43 : decode cX3_areAlike 43 = .ok (.isub, 1) := by decide +kernel
theorem dX3_areAlike_44 : decode cX3_areAlike 44 = .ok (.iload 6, 2) := by decide +kernel
theorem dX3_areAlike_46 : decode cX3_areAlike 46 = .ok (.if_icmp .eq 5, 3) := by decide +kernel
theorem dX3_areAlike_49 : decode cX3_areAlike 49 = .ok (.iconst 0, 1) := by decide +kernel
theorem dX3_areAlike_50 : decode cX3_areAlike 50 = .ok (.ireturn, 1) := by decide +kernel
theorem dX3_areAlike_51 : decode cX3_areAlike 51 = .ok (.iconst 0, 1) := by decide +kernel
theorem dX3_areAlike_52 : decode cX3_areAlike 52 = .ok (.istore 7, 2) := by decide +kernel
theorem dX3_areAlike_54 : decode cX3_areAlike 54 = .ok (.iload 7, 2) := by decide +kernel
theorem dX3_areAlike_56 : decode cX3_areAlike 56 = .ok (.iload 6, 2) := by decide +kernel
theorem dX3_areAlike_58 : decode cX3_areAlike 58 = .ok (.if_icmp .ge 44, 3) := by decide +kernel
theorem dX3_areAlike_61 : decode cX3_areAlike 61 = .ok (.aload_n 0, 1) := by decide +kernel
theorem dX3_areAlike_62 : decode cX3_areAlike 62 = .ok (.getfield 12, 3) := by decide +kernel
theorem dX3_areAlike_65 : decode cX3_areAlike 65 = .ok (.getfield 87, 3) := by decide +kernel
theorem dX3_areAlike_68 : decode cX3_areAlike 68 = .ok (.iload 4, 2) := by decide +kernel
theorem dX3_areAlike_70 : decode cX3_areAlike 70 = .ok (.iload 7, 2) := by decide +kernel
theorem dX3_areAlike_72 : decode cX3_areAlike 72 = .ok (.iadd, 1) := by decide +kernel
theorem dX3_areAlike_73 : decode cX3_areAlike 73 = .ok (.invokevirtual 66, 3) := by decide +kernel
theorem dX3_areAlike_76 : decode cX3_areAlike 76 = .ok (.aload_n 2, 1) := by decide +kernel
theorem dX3_areAlike_77 : decode cX3_areAlike 77 = .ok (.getfield 12, 3) := by decide +kernel
theorem dX3_areAlike_80 : decode cX3_areAlike 80 = .ok (.getfield 87, 3) := by decide +kernel
theorem dX3_areAlike_83 : decode cX3_areAlike 83 = .ok (.iload 5, 2) := by decide +kernel
theorem dX3_areAlike_85 : decode cX3_areAlike 85 = .ok (.iload 7, 2) := by decide +kernel
theorem dX3_areAlike_87 : decode cX3_areAlike 87 = .ok (.iadd, 1) := by decide +kernel
theorem dX3_areAlike_88 : decode cX3_areAlike 88 = .ok (.invokevirtual 66, 3) := by decide +kernel
theorem dX3_areAlike_91 : decode cX3_areAlike 91 = .ok (.if_icmp .eq 5, 3) := by decide +kernel
theorem dX3_areAlike_94 : decode cX3_areAlike 94 = .ok (.iconst 0, 1) := by decide +kernel
theorem dX3_areAlike_95 : decode cX3_areAlike 95 = .ok (.ireturn, 1) := by decide +kernel
theorem dX3_areAlike_96 : decode cX3_areAlike 96 = .ok (.iinc 7 1, 3) := by decide +kernel
theorem dX3_areAlike_99 : decode cX3_areAlike 99 = .ok (.goto (-45), 3) := by decide +kernel
theorem dX3_areAlike_102 : decode cX3_areAlike 102 = .ok (.iconst 1, 1) := by decide +kernel
theorem dX3_areAlike_103 : decode cX3_areAlike 103 = .ok (.ireturn, 1) := by decide +kernel
theorem dX4_init_0 : decode cX4_init 0 = .ok (.aload_n 0, 1) := by decide +kernel
theorem dX4_init_1 : decode cX4_init 1 = .ok (.invokespecial 3, 3) := by decide +kernel
theorem dX4_init_4 : decode cX4_init 4 = .ok (.aload_n 0, 1) := by decide +kernel
theorem dX4_init_5 : decode cX4_init 5 = .ok (.new 9, 3) := by decide +kernel
theorem dX4_init_8 : decode cX4_init 8 = .ok (.dup, 1) := by decide +kernel
theorem dX4_init_9 : decode cX4_init 9 = .ok (.bipush 8, 2) := by decide +kernel
theorem dX4_init_11 : decode cX4_init 11 = .ok (.invokespecial 11, 3) := by decide +kernel
theorem dX4_init_14 : decode cX4_init 14 = .ok (.putfield 14, 3) := by decide +kernel
theorem dX4_init_17 : decode cX4_init 17 = .ok (.aload_n 0, 1) := by decide +kernel
theorem dX4_init_18 : decode cX4_init 18 = .ok (.new 9, 3) := by decide +kernel
theorem dX4_init_21 : decode cX4_init 21 = .ok (.dup, 1) := by decide +kernel
theorem dX4_init_22 : decode cX4_init 22 = .ok (.bipush 8, 2) := by decide +kernel
theorem dX4_init_24 : decode cX4_init 24 = .ok (.invokespecial 11, 3) := by decide +kernel
theorem dX4_init_27 : decode cX4_init 27 = .ok (.putfield 20, 3) := by decide +kernel
theorem dX4_init_30 : decode cX4_init 30 = .ok (.aload_n 0, 1) := by decide +kernel
theorem dX4_init_31 : decode cX4_init 31 = .ok (.new 9, 3) := by decide +kernel
theorem dX4_init_34 : decode cX4_init 34 = .ok (.dup, 1) := by decide +kernel
theorem dX4_init_35 : decode cX4_init 35 = .ok (.sipush 150, 3) := by decide +kernel
theorem dX4_init_38 : decode cX4_init 38 = .ok (.invokespecial 11, 3) := by decide +kernel
theorem dX4_init_41 : decode cX4_init 41 = .ok (.putfield 23, 3) := by decide +kernel
theorem dX4_init_44 : decode cX4_init 44 = .ok (.aload_n 0, 1) := by decide +kernel
theorem dX4_init_45 : decode cX4_init 45 = .ok (.new 9, 3) := by decide +kernel
theorem dX4_init_48 : decode cX4_init 48 = .ok (.dup, 1) := by decide +kernel
theorem dX4_init_49 : decode cX4_init 49 = .ok (.sipush 150, 3) := by decide +kernel
theorem dX4_init_52 : decode cX4_init 52 = .ok (.invokespecial 11, 3) := by decide +kernel
theorem dX4_init_55 : decode cX4_init 55 = .ok (.putfield 26, 3) := by decide +kernel
theorem dX4_init_58 : decode cX4_init 58 = .ok (.aload_n 0, 1) := by decide +kernel
theorem dX4_init_59 : decode cX4_init 59 = .ok (.new 9, 3) := by decide +kernel
theorem dX4_init_62 : decode cX4_init 62 = .ok (.dup, 1) := by decide +kernel
theorem dX4_init_63 : decode cX4_init 63 = .ok (.sipush 150, 3) := by decide +kernel
theorem dX4_init_66 : decode cX4_init 66 = .ok (.invokespecial 11, 3) := by decide +kernel
theorem dX4_init_69 : decode cX4_init 69 = .ok (.putfield 29, 3) := by decide +kernel
theorem dX4_init_72 : decode cX4_init 72 = .ok (.aload_n 0, 1) := by decide +kernel
theorem dX4_init_73 : decode cX4_init 73 = .ok (.aload_n 1, 1) := by decide +kernel
theorem dX4_init_74 : decode cX4_init 74 = .ok (.putfield 32, 3) := by decide +kernel
theorem dX4_init_77 : decode cX4_init 77 = .ok (.aload_n 0, 1) := by decide +kernel
theorem dX4_init_78 : decode cX4_init 78 = .ok (.aload_n 1, 1) := by decide +kernel
theorem dX4_init_79 : decode cX4_init 79 = .ok (.getfield 36, 3) := by decide +kernel
theorem dX4_init_82 : decode cX4_init 82 = .ok (.putfield 42, 3) := by decide +kernel
theorem dX4_init_85 : decode cX4_init 85 = .ok (.return_, 1) := by decide +kernel
theorem dX4_read_0 : decode cX4_read 0 = .ok (.aload_n 0, 1) := by decide +kernel
theorem dX4_read_1 : decode cX4_read 1 = .ok (.aload_n 1, 1) := by decide +kernel
theorem dX4_read_2 : decode cX4_read 2 = .ok (.putfield 32, 3) := by decide +kernel
theorem dX4_read_5 : decode cX4_read 5 = .ok (.aload_n 0, 1) := by decide +kernel
theorem dX4_read_6 : decode cX4_read 6 = .ok (.aload_n 1, 1) := by decide +kernel
theorem dX4_read_7 : decode cX4_read 7 = .ok (.getfield 36, 3) := by decide +kernel
theorem dX4_read_10 : decode cX4_read 10 = .ok (.putfield 42, 3) := by decide +kernel
theorem dX4_read_13 : decode cX4_read 13 = .ok (.aload_n 0, 1) := by decide +kernel
theorem dX4_read_14 : decode cX4_read 14 = .ok (.getfield 32, 3) := by decide +kernel
theorem dX4_read_17 : decode cX4_read 17 = .ok (.invokevirtual 43, 3) := by decide +kernel
theorem dX4_read_20 : decode cX4_read 20 = .ok (.aload_n 0, 1) := by decide +kernel
theorem dX4_read_21 : decode cX4_read 21 = .ok (.iconst 0, 1) := by decide +kernel
theorem dX4_read_22 : decode cX4_read 22 = .ok (.putfield 46, 3) := by decide +kernel
theorem dX4_read_25 : decode cX4_read 25 = .ok (.aload_n 0, 1) := by decide +kernel
theorem dX4_read_26 : decode cX4_read 26 = .ok (.aload_n 0, 1) := by decide +kernel
theorem dX4_read_27 : decode cX4_read 27 = .ok (.getfield 42, 3) := by decide +kernel
theorem dX4_read_30 : decode cX4_read 30 = .ok (.invokevirtual 50, 3) := by decide +kernel
theorem dX4_read_33 : decode cX4_read 33 = .ok (.putfield 56, 3) := by decide +kernel
theorem dX4_read_36 : decode cX4_read 36 = .ok (.aload_n 0, 1) := by decide +kernel
theorem dX4_read_37 : decode cX4_read 37 = .ok (.iconst 0, 1) := by decide +kernel
theorem dX4_read_38 : decode cX4_read 38 = .ok (.putfield 59, 3) := by decide +kernel
theorem dX4_read_41 : decode cX4_read 41 = .ok (.aload_n 0, 1) := by decide +kernel
theorem dX4_read_42 : decode cX4_read 42 = .ok (.iconst 0, 1) := by decide +kernel
theorem dX4_read_43 : decode cX4_read 43 = .ok (.putfield 62, 3) := by decide +kernel
theorem dX4_read_46 : decode cX4_read 46 = .ok (.aload_n 0, 1) := by decide +kernel
theorem dX4_read_47 : decode cX4_read 47 = .ok (.getfield 14, 3) := by decide +kernel
theorem dX4_read_50 : decode cX4_read 50 = .ok (.invokevirtual 66, 3) := by decide +kernel
theorem dX4_read_53 : decode cX4_read 53 = .ok (.aload_n 0, 1) := by decide +kernel
theorem dX4_read_54 : decode cX4_read 54 = .ok (.getfield 23, 3) := by decide +kernel
theorem dX4_read_57 : decode cX4_read 57 = .ok (.invokevirtual 66, 3) := by decide +kernel
theorem dX4_read_60 : decode cX4_read 60 = .ok (.aload_n 0, 1) := by decide +kernel
theorem dX4_read_61 : decode cX4_read 61 = .ok (.getfield 26, 3) := by decide +kernel
theorem dX4_read_64 : decode cX4_read 64 = .ok (.invokevirtual 66, 3) := by decide +kernel
theorem dX4_read_67 : decode cX4_read 67 = .ok (.aload_n 0, 1) := by decide +kernel
theorem dX4_read_68 : decode cX4_read 68 = .ok (.getfield 29, 3) := by decide +kernel
theorem dX4_read_71 : decode cX4_read 71 = .ok (.invokevirtual 66, 3) := by decide +kernel
theorem dX4_read_74 : decode cX4_read 74 = .ok (.iconst 0, 1) := by decide +kernel
theorem dX4_read_75 : decode cX4_read 75 = .ok (.istore_n 2, 1) := by decide +kernel
theorem dX4_read_76 : decode cX4_read 76 = .ok (.iload_n 2, 1) := by decide +kernel
theorem dX4_read_77 : decode cX4_read 77 = .ok (.sipush 300, 3) := by decide +kernel
theorem dX4_read_80 : decode cX4_read 80 = .ok (.if_icmp .ge 20, 3) := by decide +kernel
theorem dX4_read_83 : decode cX4_read 83 = .ok (.aload_n 0, 1) := by decide +kernel
theorem dX4_read_84 : decode cX4_read 84 = .ok (.invokevirtual 69, 3) := by decide +kernel
theorem dX4_read_87 : decode cX4_read 87 = .ok (.ifCond .eq 13, 3) := by decide +kernel
theorem dX4_read_90 : decode cX4_read 90 = .ok (.aload_n 0, 1) := by decide +kernel
theorem dX4_read_91 : decode cX4_read 91 = .ok (.invokevirtual 72, 3) := by decide +kernel
theorem dX4_read_94 : decode cX4_read 94 = .ok (.iinc 2 1, 3) := by decide +kernel
theorem dX4_read_97 : decode cX4_read 97 = .ok (.goto (-21), 3) := by decide +kernel
theorem dX4_read_100 : decode cX4_read 100 = .ok (.aload_n 0, 1) := by decide +kernel
theorem dX4_read_101 : decode cX4_read 101 = .ok (.getfield 32, 3) := by decide +kernel
theorem dX4_read_104 : decode cX4_read 104 = .ok (.bipush 17, 2) := by decide +kernel
theorem dX4_read_106 : decode cX4_read 106 = .ok (.iconst 0, 1) := by decide +kernel
theorem dX4_read_107 : decode cX4_read 107 = .ok (.invokevirtual 77, 3) := by decide +kernel
theorem dX4_read_110 : decode cX4_read 110 = .ok (.pop, 1) := by decide +kernel
theorem dX4_read_111 : decode cX4_read 111 = .ok (.aload_n 0, 1) := by decide +kernel
theorem dX4_read_112 : decode cX4_read 112 = .ok (.invokevirtual 81, 3) := by decide +kernel
theorem dX4_read_115 : decode cX4_read 115 = .ok (.aload_n 0, 1) := by decide +kernel
theorem dX4_read_116 : decode cX4_read 116 = .ok (.invokevirtual 84, 3) := by decide +kernel
theorem dX4_read_119 : decode cX4_read 119 = .ok (.return_, 1) := by decide +kernel
theorem dX4_nameFault_0 : decode cX4_nameFault 0 = .ok (.aload_n 0, 1) := by decide +kernel
theorem dX4_nameFault_1 : decode cX4_nameFault 1 = .ok (.getfield 32, 3) := by decide +kernel
theorem dX4_nameFault_4 : decode cX4_nameFault 4 = .ok (.getfield 87, 3) := by decide +kernel
theorem dX4_nameFault_7 : decode cX4_nameFault 7 = .ok (.iconst 3, 1) := by decide +kernel
theorem dX4_nameFault_8 : decode cX4_nameFault 8 = .ok (.if_icmp .ne 47, 3) := by decide +kernel
theorem dX4_nameFault_11 : decode cX4_nameFault 11 = .ok (.aload_n 0, 1) := by decide +kernel
theorem dX4_nameFault_12 : decode cX4_nameFault 12 = .ok (.getfield 42, 3) := by decide +kernel
theorem dX4_nameFault_15 : decode cX4_nameFault 15 = .ok (.getfield 90, 3) := by decide +kernel
theorem dX4_nameFault_18 : decode cX4_nameFault 18 = .ok (.aload_n 0, 1) := by decide +kernel
theorem dX4_nameFault_19 : decode cX4_nameFault 19 = .ok (.getfield 32, 3) := by decide +kernel
theorem dX4_nameFault_22 : decode cX4_nameFault 22 = .ok (.getfield 93, 3) := by decide +kernel
theorem dX4_nameFault_25 : decode cX4_nameFault 25 = .ok (.invokevirtual 96, 3) := by decide +kernel
theorem dX4_nameFault_28 : decode cX4_nameFault 28 = .ok (.istore_n 1, 1) := by decide +kernel
theorem dX4_nameFault_29 : decode cX4_nameFault 29 = .ok (.aload_n 0, 1) := by decide +kernel
theorem dX4_nameFault_30 : decode cX4_nameFault 30 = .ok (.getfield 32, 3) := by decide +kernel
theorem dX4_nameFault_33 : decode cX4_nameFault 33 = .ok (.iload_n 1, 1) := by decide +kernel
theorem dX4_nameFault_34 : decode cX4_nameFault 34 = .ok (.iconst 1, 1) := by decide +kernel
theorem dX4_nameFault_35 : decode cX4_nameFault 35 = .ok (.if_icmp .ne 7, 3) := by decide +kernel
theorem dX4_nameFault_38 : decode cX4_nameFault 38 = .ok (.iconst 1, 1) := by decide +kernel
theorem dX4_nameFault_39 : decode cX4_nameFault 39 = .ok (.goto 13, 3) := by decide +kernel
theorem dX4_nameFault_42 : decode cX4_nameFault 42 = .ok (.iload_n 1, 1) := by decide +kernel
theorem dX4_nameFault_43 : decode cX4_nameFault 43 = .ok (.iconst 2, 1) := by decide +kernel
theorem dX4_nameFault_44 : decode cX4_nameFault 44 = .ok (.if_icmp .ne 7, 3) := by decide +kernel
theorem dX4_nameFault_47 : decode cX4_nameFault 47 = .ok (.iconst 2, 1) := by decide +kernel
theorem dX4_nameFault_48 : decode cX4_nameFault 48 = .ok (.goto 4, 3) := by decide +kernel
theorem dX4_nameFault_51 : decode cX4_nameFault 51 = .ok (.iconst 3, 1) := by decide +kernel
theorem dX4_nameFault_52 : decode cX4_nameFault 52 = .ok (.putfield 87, 3) := by decide +kernel
theorem dX4_nameFault_55 : decode cX4_nameFault 55 = .ok (.return_, 1) := by decide +kernel
theorem dX4_kind_0 : decode cX4_kind 0 = .ok (.aload_n 0, 1) := by decide +kernel
theorem dX4_kind_1 : decode cX4_kind 1 = .ok (.getfield 42, 3) := by decide +kernel
theorem dX4_kind_4 : decode cX4_kind 4 = .ok (.getfield 90, 3) := by decide +kernel
theorem dX4_kind_7 : decode cX4_kind 7 = .ok (.aload_n 0, 1) := by decide +kernel
theorem dX4_kind_8 : decode cX4_kind 8 = .ok (.getfield 46, 3) := by decide +kernel
theorem dX4_kind_11 : decode cX4_kind 11 = .ok (.invokevirtual 96, 3) := by decide +kernel
theorem dX4_kind_14 : decode cX4_kind 14 = .ok (.ireturn, 1) := by decide +kernel
theorem dX4_names_0 : decode cX4_names 0 = .ok (.aload_n 0, 1) := by decide +kernel
theorem dX4_names_1 : decode cX4_names 1 = .ok (.getfield 62, 3) := by decide +kernel
theorem dX4_names_4 : decode cX4_names 4 = .ok (.ifCond .eq 10, 3) := by decide +kernel
theorem dX4_names_7 : decode cX4_names 7 = .ok (.aload_n 0, 1) := by decide +kernel
theorem dX4_names_8 : decode cX4_names 8 = .ok (.getfield 20, 3) := by decide +kernel
theorem dX4_names_11 : decode cX4_names 11 = .ok (.goto 7, 3) := by decide +kernel
theorem dX4_names_14 : decode cX4_names 14 = .ok (.aload_n 0, 1) := by decide +kernel
theorem dX4_names_15 : decode cX4_names 15 = .ok (.getfield 14, 3) := by decide +kernel
theorem dX4_names_18 : decode cX4_names 18 = .ok (.areturn, 1) := by decide +kernel
theorem dX4_refuse_0 : decode cX4_refuse 0 = .ok (.aload_n 0, 1) := by decide +kernel
theorem dX4_refuse_1 : decode cX4_refuse 1 = .ok (.getfield 32, 3) := by decide +kernel
theorem dX4_refuse_4 : decode cX4_refuse 4 = .ok (.getfield 87, 3) := by decide +kernel
theorem dX4_refuse_7 : decode cX4_refuse 7 = .ok (.ifCond .ne 19, 3) := by decide +kernel
theorem dX4_refuse_10 : decode cX4_refuse 10 = .ok (.aload_n 0, 1) := by decide +kernel
theorem dX4_refuse_11 : decode cX4_refuse 11 = .ok (.getfield 32, 3) := by decide +kernel
theorem dX4_refuse_14 : decode cX4_refuse 14 = .ok (.iload_n 1, 1) := by decide +kernel
theorem dX4_refuse_15 : decode cX4_refuse 15 = .ok (.putfield 87, 3) := by decide +kernel
theorem dX4_refuse_18 : decode cX4_refuse 18 = .ok (.aload_n 0, 1) := by decide +kernel
theorem dX4_refuse_19 : decode cX4_refuse 19 = .ok (.getfield 32, 3) := by decide +kernel
theorem dX4_refuse_22 : decode cX4_refuse 22 = .ok (.iload_n 2, 1) := by decide +kernel
theorem dX4_refuse_23 : decode cX4_refuse 23 = .ok (.putfield 93, 3) := by decide +kernel
theorem dX4_refuse_26 : decode cX4_refuse 26 = .ok (.aload_n 0, 1) := by decide +kernel
theorem dX4_refuse_27 : decode cX4_refuse 27 = .ok (.aload_n 0, 1) := by decide +kernel
theorem dX4_refuse_28 : decode cX4_refuse 28 = .ok (.getfield 56, 3) := by decide +kernel
theorem dX4_refuse_31 : decode cX4_refuse 31 = .ok (.putfield 46, 3) := by decide +kernel
theorem dX4_refuse_34 : decode cX4_refuse 34 = .ok (.return_, 1) := by decide +kernel
theorem dX4_expect_0 : decode cX4_expect 0 = .ok (.aload_n 0, 1) := by decide +kernel
theorem dX4_expect_1 : decode cX4_expect 1 = .ok (.getfield 42, 3) := by decide +kernel
theorem dX4_expect_4 : decode cX4_expect 4 = .ok (.getfield 90, 3) := by decide +kernel
theorem dX4_expect_7 : decode cX4_expect 7 = .ok (.aload_n 0, 1) := by decide +kernel
theorem dX4_expect_8 : decode cX4_expect 8 = .ok (.getfield 46, 3) := by decide +kernel
theorem dX4_expect_11 : decode cX4_expect 11 = .ok (.invokevirtual 96, 3) := by decide +kernel
theorem dX4_expect_14 : decode cX4_expect 14 = .ok (.iload_n 1, 1) := by decide +kernel
theorem dX4_expect_15 : decode cX4_expect 15 = .ok (.if_icmp .ne 16, 3) := by decide +kernel
theorem dX4_expect_18 : decode cX4_expect 18 = .ok (.aload_n 0, 1) := by decide +kernel
theorem dX4_expect_19 : decode cX4_expect 19 = .ok (.dup, 1) := by decide +kernel
theorem dX4_expect_20 : decode cX4_expect 20 = .ok (.getfield 46, 3) := by decide +kernel
theorem dX4_expect_23 : decode cX4_expect 23 = .ok (.iconst 1, 1) := by decide +kernel
theorem dX4_expect_24 : decode cX4_expect 24 = .ok (.iadd, 1) := by decide +kernel
theorem dX4_expect_25 : decode cX4_expect 25 = .ok (.putfield 46, 3) := by decide +kernel
theorem dX4_expect_28 : decode cX4_expect 28 = .ok (.goto 12, 3) := by decide +kernel
theorem dX4_expect_31 : decode cX4_expect 31 = .ok (.aload_n 0, 1) := by decide +kernel
theorem dX4_expect_32 : decode cX4_expect 32 = .ok (.iconst 3, 1) := by decide +kernel
theorem dX4_expect_33 : decode cX4_expect 33 = .ok (.aload_n 0, 1) := by decide +kernel
theorem dX4_expect_34 : decode cX4_expect 34 = .ok (.getfield 46, 3) := by decide +kernel
theorem dX4_expect_37 : decode cX4_expect 37 = .ok (.invokevirtual 100, 3) := by decide +kernel
theorem dX4_expect_40 : decode cX4_expect 40 = .ok (.return_, 1) := by decide +kernel
theorem dX4_openLevel_0 : decode cX4_openLevel 0 = .ok (.aload_n 0, 1) := by decide +kernel
theorem dX4_openLevel_1 : decode cX4_openLevel 1 = .ok (.getfield 59, 3) := by decide +kernel
theorem dX4_openLevel_4 : decode cX4_openLevel 4 = .ok (.bipush 8, 2) := by decide +kernel
theorem dX4_openLevel_6 : decode cX4_openLevel 6 = .ok (.if_icmp .lt 15, 3) := by decide +kernel
theorem dX4_openLevel_9 : decode cX4_openLevel 9 = .ok (.aload_n 0, 1) := by decide +kernel
theorem dX4_openLevel_10 : decode cX4_openLevel 10 = .ok (.iconst 4, 1) := by decide +kernel
theorem dX4_openLevel_11 : decode cX4_openLevel 11 = .ok (.aload_n 0, 1) := by decide +kernel
theorem dX4_openLevel_12 : decode cX4_openLevel 12 = .ok (.getfield 46, 3) := by decide +kernel
theorem dX4_openLevel_15 : decode cX4_openLevel 15 = .ok (.invokevirtual 100, 3) := by decide +kernel
theorem dX4_openLevel_18 : decode cX4_openLevel 18 = .ok (.goto 23, 3) := by decide +kernel
theorem dX4_openLevel_21 : decode cX4_openLevel 21 = .ok (.aload_n 0, 1) := by decide +kernel
theorem dX4_openLevel_22 : decode cX4_openLevel 22 = .ok (.dup, 1) := by decide +kernel
theorem dX4_openLevel_23 : decode cX4_openLevel 23 = .ok (.getfield 59, 3) := by decide +kernel
theorem dX4_openLevel_26 : decode cX4_openLevel 26 = .ok (.iconst 1, 1) := by decide +kernel
theorem dX4_openLevel_27 : decode cX4_openLevel 27 = .ok (.iadd, 1) := by decide +kernel
theorem dX4_openLevel_28 : decode cX4_openLevel 28 = .ok (.putfield 59, 3) := by decide +kernel
theorem dX4_openLevel_31 : decode cX4_openLevel 31 = .ok (.aload_n 0, 1) := by decide +kernel
theorem dX4_openLevel_32 : decode cX4_openLevel 32 = .ok (.dup, 1) := by decide +kernel
theorem dX4_openLevel_33 : decode cX4_openLevel 33 = .ok (.getfield 46, 3) := by decide +kernel
theorem dX4_openLevel_36 : decode cX4_openLevel 36 = .ok (.iconst 1, 1) := by decide +kernel
theorem dX4_openLevel_37 : decode cX4_openLevel 37 = .ok (.iadd, 1) := by decide +kernel
theorem dX4_openLevel_38 : decode cX4_openLevel 38 = .ok (.putfield 46, 3) := by decide +kernel
theorem dX4_openLevel_41 : decode cX4_openLevel 41 = .ok (.return_, 1) := by decide +kernel
theorem dX4_statement_0 : decode cX4_statement 0 = .ok (.aload_n 0, 1) := by decide +kernel
theorem dX4_statement_1 : decode cX4_statement 1 = .ok (.getfield 32, 3) := by decide +kernel
theorem dX4_statement_4 : decode cX4_statement 4 = .ok (.aload_n 0, 1) := by decide +kernel
theorem dX4_statement_5 : decode cX4_statement 5 = .ok (.getfield 46, 3) := by decide +kernel
theorem dX4_statement_8 : decode cX4_statement 8 = .ok (.invokevirtual 104, 3) := by decide +kernel
theorem dX4_statement_11 : decode cX4_statement 11 = .ok (.istore_n 1, 1) := by decide +kernel
theorem dX4_statement_12 : decode cX4_statement 12 = .ok (.aload_n 0, 1) := by decide +kernel
theorem dX4_statement_13 : decode cX4_statement 13 = .ok (.invokevirtual 69, 3) := by decide +kernel
theorem dX4_statement_16 : decode cX4_statement 16 = .ok (.istore_n 2, 1) := by decide +kernel
theorem dX4_statement_17 : decode cX4_statement 17 = .ok (.iload_n 2, 1) := by decide +kernel
theorem dX4_statement_18 : decode cX4_statement 18 = .ok (.bipush 7, 2) := by decide +kernel
theorem dX4_statement_20 : decode cX4_statement 20 = .ok (.if_icmp .eq 19, 3) := by decide +kernel
theorem dX4_statement_23 : decode cX4_statement 23 = .ok (.iload_n 2, 1) := by decide +kernel
theorem dX4_statement_24 : decode cX4_statement 24 = .ok (.bipush 10, 2) := by decide +kernel
theorem dX4_statement_26 : decode cX4_statement 26 = .ok (.if_icmp .eq 13, 3) := by decide +kernel
theorem dX4_statement_29 : decode cX4_statement 29 = .ok (.aload_n 0, 1) := by decide +kernel
theorem dX4_statement_30 : decode cX4_statement 30 = .ok (.getfield 32, 3) := by decide +kernel
theorem dX4_statement_33 : decode cX4_statement 33 = .ok (.iconst 0, 1) := by decide +kernel
theorem dX4_statement_34 : decode cX4_statement 34 = .ok (.iconst 0, 1) := by decide +kernel
theorem dX4_statement_35 : decode cX4_statement 35 = .ok (.invokevirtual 77, 3) := by decide +kernel
theorem dX4_statement_38 : decode cX4_statement 38 = .ok (.pop, 1) := by decide +kernel
theorem dX4_statement_39 : decode cX4_statement 39 = .ok (.iload_n 2, 1) := by decide +kernel
theorem dX4_statement_40 : decode cX4_statement 40 = .ok (.tableswitch 185 4 26 #[108, 157, 185, 164, 122, 185, 171, 178, 185, 185, 185, 185, 185, 185, 185, 185, 185, 185, 185, 185, 185, 185, 115], 108) := by decide +kernel
theorem dX4_statement_148 : decode cX4_statement 148 = .ok (.aload_n 0, 1) := by decide +kernel
theorem dX4_statement_149 : decode cX4_statement 149 = .ok (.invokevirtual 107, 3) := by decide +kernel
theorem dX4_statement_152 : decode cX4_statement 152 = .ok (.goto 82, 3) := by decide +kernel
theorem dX4_statement_155 : decode cX4_statement 155 = .ok (.aload_n 0, 1) := by decide +kernel
theorem dX4_statement_156 : decode cX4_statement 156 = .ok (.invokevirtual 110, 3) := by decide +kernel
theorem dX4_statement_159 : decode cX4_statement 159 = .ok (.goto 75, 3) := by decide +kernel
theorem dX4_statement_162 : decode cX4_statement 162 = .ok (.aload_n 0, 1) := by decide +kernel
theorem dX4_statement_163 : decode cX4_statement 163 = .ok (.dup, 1) := by decide +kernel
theorem dX4_statement_164 : decode cX4_statement 164 = .ok (.getfield 46, 3) := by decide +kernel
theorem dX4_statement_167 : decode cX4_statement 167 = .ok (.iconst 1, 1) := by decide +kernel
theorem dX4_statement_168 : decode cX4_statement 168 = .ok (.iadd, 1) := by decide +kernel
theorem dX4_statement_169 : decode cX4_statement 169 = .ok (.putfield 46, 3) := by decide +kernel
theorem dX4_statement_172 : decode cX4_statement 172 = .ok (.aload_n 0, 1) := by decide +kernel
theorem dX4_statement_173 : decode cX4_statement 173 = .ok (.iconst 1, 1) := by decide +kernel
theorem dX4_statement_174 : decode cX4_statement 174 = .ok (.invokevirtual 113, 3) := by decide +kernel
theorem dX4_statement_177 : decode cX4_statement 177 = .ok (.aload_n 0, 1) := by decide +kernel
theorem dX4_statement_178 : decode cX4_statement 178 = .ok (.getfield 32, 3) := by decide +kernel
theorem dX4_statement_181 : decode cX4_statement 181 = .ok (.bipush 6, 2) := by decide +kernel
theorem dX4_statement_183 : decode cX4_statement 183 = .ok (.iconst 0, 1) := by decide +kernel
theorem dX4_statement_184 : decode cX4_statement 184 = .ok (.invokevirtual 77, 3) := by decide +kernel
theorem dX4_statement_187 : decode cX4_statement 187 = .ok (.pop, 1) := by decide +kernel
theorem dX4_statement_188 : decode cX4_statement 188 = .ok (.aload_n 0, 1) := by decide +kernel
theorem dX4_statement_189 : decode cX4_statement 189 = .ok (.bipush 33, 2) := by decide +kernel
theorem dX4_statement_191 : decode cX4_statement 191 = .ok (.invokevirtual 116, 3) := by decide +kernel
theorem dX4_statement_194 : decode cX4_statement 194 = .ok (.goto 40, 3) := by decide +kernel
theorem dX4_statement_197 : decode cX4_statement 197 = .ok (.aload_n 0, 1) := by decide +kernel
theorem dX4_statement_198 : decode cX4_statement 198 = .ok (.invokevirtual 119, 3) := by decide +kernel
theorem dX4_statement_201 : decode cX4_statement 201 = .ok (.goto 33, 3) := by decide +kernel
theorem dX4_statement_204 : decode cX4_statement 204 = .ok (.aload_n 0, 1) := by decide +kernel
theorem dX4_statement_205 : decode cX4_statement 205 = .ok (.invokevirtual 122, 3) := by decide +kernel
theorem dX4_statement_208 : decode cX4_statement 208 = .ok (.goto 26, 3) := by decide +kernel
theorem dX4_statement_211 : decode cX4_statement 211 = .ok (.aload_n 0, 1) := by decide +kernel
theorem dX4_statement_212 : decode cX4_statement 212 = .ok (.invokevirtual 125, 3) := by decide +kernel
theorem dX4_statement_215 : decode cX4_statement 215 = .ok (.goto 19, 3) := by decide +kernel
theorem dX4_statement_218 : decode cX4_statement 218 = .ok (.aload_n 0, 1) := by decide +kernel
theorem dX4_statement_219 : decode cX4_statement 219 = .ok (.invokevirtual 128, 3) := by decide +kernel
theorem dX4_statement_222 : decode cX4_statement 222 = .ok (.goto 12, 3) := by decide +kernel
theorem dX4_statement_225 : decode cX4_statement 225 = .ok (.aload_n 0, 1) := by decide +kernel
theorem dX4_statement_226 : decode cX4_statement 226 = .ok (.iconst 3, 1) := by decide +kernel
theorem dX4_statement_227 : decode cX4_statement 227 = .ok (.aload_n 0, 1) := by decide +kernel
theorem dX4_statement_228 : decode cX4_statement 228 = .ok (.getfield 46, 3) := by decide +kernel
theorem dX4_statement_231 : decode cX4_statement 231 = .ok (.invokevirtual 100, 3) := by decide +kernel
theorem dX4_statement_234 : decode cX4_statement 234 = .ok (.aload_n 0, 1) := by decide +kernel
theorem dX4_statement_235 : decode cX4_statement 235 = .ok (.getfield 32, 3) := by decide +kernel
theorem dX4_statement_238 : decode cX4_statement 238 = .ok (.iload_n 1, 1) := by decide +kernel
theorem dX4_statement_239 : decode cX4_statement 239 = .ok (.aload_n 0, 1) := by decide +kernel
theorem dX4_statement_240 : decode cX4_statement 240 = .ok (.getfield 46, 3) := by decide +kernel
theorem dX4_statement_243 : decode cX4_statement 243 = .ok (.invokevirtual 131, 3) := by decide +kernel
theorem dX4_statement_246 : decode cX4_statement 246 = .ok (.return_, 1) := by decide +kernel
theorem dX4_nameStatement_0 : decode cX4_nameStatement 0 = .ok (.aload_n 0, 1) := by decide +kernel
theorem dX4_nameStatement_1 : decode cX4_nameStatement 1 = .ok (.getfield 42, 3) := by decide +kernel
theorem dX4_nameStatement_4 : decode cX4_nameStatement 4 = .ok (.getfield 90, 3) := by decide +kernel
theorem dX4_nameStatement_7 : decode cX4_nameStatement 7 = .ok (.aload_n 0, 1) := by decide +kernel
theorem dX4_nameStatement_8 : decode cX4_nameStatement 8 = .ok (.getfield 46, 3) := by decide +kernel
theorem dX4_nameStatement_11 : decode cX4_nameStatement 11 = .ok (.iconst 1, 1) := by decide +kernel
theorem dX4_nameStatement_12 : decode cX4_nameStatement 12 = .ok (.iadd, 1) := by decide +kernel
theorem dX4_nameStatement_13 : decode cX4_nameStatement 13 = .ok (.invokevirtual 96, 3) := by decide +kernel
theorem dX4_nameStatement_16 : decode cX4_nameStatement 16 = .ok (.bipush 28, 2) := by decide +kernel
theorem dX4_nameStatement_18 : decode cX4_nameStatement 18 = .ok (.if_icmp .ne 21, 3) := by decide +kernel
theorem dX4_nameStatement_21 : decode cX4_nameStatement 21 = .ok (.aload_n 0, 1) := by decide +kernel
theorem dX4_nameStatement_22 : decode cX4_nameStatement 22 = .ok (.invokevirtual 134, 3) := by decide +kernel
theorem dX4_nameStatement_25 : decode cX4_nameStatement 25 = .ok (.aload_n 0, 1) := by decide +kernel
theorem dX4_nameStatement_26 : decode cX4_nameStatement 26 = .ok (.getfield 32, 3) := by decide +kernel
theorem dX4_nameStatement_29 : decode cX4_nameStatement 29 = .ok (.bipush 7, 2) := by decide +kernel
theorem dX4_nameStatement_31 : decode cX4_nameStatement 31 = .ok (.iconst 0, 1) := by decide +kernel
theorem dX4_nameStatement_32 : decode cX4_nameStatement 32 = .ok (.invokevirtual 77, 3) := by decide +kernel
theorem dX4_nameStatement_35 : decode cX4_nameStatement 35 = .ok (.pop, 1) := by decide +kernel
theorem dX4_nameStatement_36 : decode cX4_nameStatement 36 = .ok (.goto 33, 3) := by decide +kernel
theorem dX4_nameStatement_39 : decode cX4_nameStatement 39 = .ok (.aload_n 0, 1) := by decide +kernel
theorem dX4_nameStatement_40 : decode cX4_nameStatement 40 = .ok (.aload_n 0, 1) := by decide +kernel
theorem dX4_nameStatement_41 : decode cX4_nameStatement 41 = .ok (.invokevirtual 137, 3) := by decide +kernel
theorem dX4_nameStatement_44 : decode cX4_nameStatement 44 = .ok (.invokevirtual 141, 3) := by decide +kernel
theorem dX4_nameStatement_47 : decode cX4_nameStatement 47 = .ok (.istore_n 1, 1) := by decide +kernel
theorem dX4_nameStatement_48 : decode cX4_nameStatement 48 = .ok (.aload_n 0, 1) := by decide +kernel
theorem dX4_nameStatement_49 : decode cX4_nameStatement 49 = .ok (.bipush 27, 2) := by decide +kernel
theorem dX4_nameStatement_51 : decode cX4_nameStatement 51 = .ok (.invokevirtual 116, 3) := by decide +kernel
theorem dX4_nameStatement_54 : decode cX4_nameStatement 54 = .ok (.aload_n 0, 1) := by decide +kernel
theorem dX4_nameStatement_55 : decode cX4_nameStatement 55 = .ok (.iconst 1, 1) := by decide +kernel
theorem dX4_nameStatement_56 : decode cX4_nameStatement 56 = .ok (.invokevirtual 113, 3) := by decide +kernel
theorem dX4_nameStatement_59 : decode cX4_nameStatement 59 = .ok (.aload_n 0, 1) := by decide +kernel
theorem dX4_nameStatement_60 : decode cX4_nameStatement 60 = .ok (.getfield 32, 3) := by decide +kernel
theorem dX4_nameStatement_63 : decode cX4_nameStatement 63 = .ok (.iconst 3, 1) := by decide +kernel
theorem dX4_nameStatement_64 : decode cX4_nameStatement 64 = .ok (.iload_n 1, 1) := by decide +kernel
theorem dX4_nameStatement_65 : decode cX4_nameStatement 65 = .ok (.invokevirtual 77, 3) := by decide +kernel
theorem dX4_nameStatement_68 : decode cX4_nameStatement 68 = .ok (.pop, 1) := by decide +kernel
theorem dX4_nameStatement_69 : decode cX4_nameStatement 69 = .ok (.aload_n 0, 1) := by decide +kernel
theorem dX4_nameStatement_70 : decode cX4_nameStatement 70 = .ok (.bipush 33, 2) := by decide +kernel
theorem dX4_nameStatement_72 : decode cX4_nameStatement 72 = .ok (.invokevirtual 116, 3) := by decide +kernel
theorem dX4_nameStatement_75 : decode cX4_nameStatement 75 = .ok (.return_, 1) := by decide +kernel
theorem dX4_cellStatement_0 : decode cX4_cellStatement 0 = .ok (.aload_n 0, 1) := by decide +kernel
theorem dX4_cellStatement_1 : decode cX4_cellStatement 1 = .ok (.getfield 42, 3) := by decide +kernel
theorem dX4_cellStatement_4 : decode cX4_cellStatement 4 = .ok (.getfield 90, 3) := by decide +kernel
theorem dX4_cellStatement_7 : decode cX4_cellStatement 7 = .ok (.aload_n 0, 1) := by decide +kernel
theorem dX4_cellStatement_8 : decode cX4_cellStatement 8 = .ok (.getfield 46, 3) := by decide +kernel
theorem dX4_cellStatement_11 : decode cX4_cellStatement 11 = .ok (.bipush 37, 2) := by decide +kernel
theorem dX4_cellStatement_13 : decode cX4_cellStatement 13 = .ok (.invokevirtual 145, 3) := by decide +kernel
theorem dX4_cellStatement_16 : decode cX4_cellStatement 16 = .ok (.aload_n 0, 1) := by decide +kernel
theorem dX4_cellStatement_17 : decode cX4_cellStatement 17 = .ok (.invokevirtual 148, 3) := by decide +kernel
theorem dX4_cellStatement_20 : decode cX4_cellStatement 20 = .ok (.aload_n 0, 1) := by decide +kernel
theorem dX4_cellStatement_21 : decode cX4_cellStatement 21 = .ok (.invokevirtual 151, 3) := by decide +kernel
theorem dX4_cellStatement_24 : decode cX4_cellStatement 24 = .ok (.aload_n 0, 1) := by decide +kernel
theorem dX4_cellStatement_25 : decode cX4_cellStatement 25 = .ok (.dup, 1) := by decide +kernel
theorem dX4_cellStatement_26 : decode cX4_cellStatement 26 = .ok (.getfield 59, 3) := by decide +kernel
theorem dX4_cellStatement_29 : decode cX4_cellStatement 29 = .ok (.iconst 1, 1) := by decide +kernel
theorem dX4_cellStatement_30 : decode cX4_cellStatement 30 = .ok (.isub, 1) := by decide +kernel
theorem dX4_cellStatement_31 : decode cX4_cellStatement 31 = .ok (.putfield 59, 3) := by decide +kernel
theorem dX4_cellStatement_34 : decode cX4_cellStatement 34 = .ok (.aload_n 0, 1) := by decide +kernel
theorem dX4_cellStatement_35 : decode cX4_cellStatement 35 = .ok (.bipush 27, 2) := by decide +kernel
theorem dX4_cellStatement_37 : decode cX4_cellStatement 37 = .ok (.invokevirtual 116, 3) := by decide +kernel
theorem dX4_cellStatement_40 : decode cX4_cellStatement 40 = .ok (.aload_n 0, 1) := by decide +kernel
theorem dX4_cellStatement_41 : decode cX4_cellStatement 41 = .ok (.iconst 1, 1) := by decide +kernel
theorem dX4_cellStatement_42 : decode cX4_cellStatement 42 = .ok (.invokevirtual 113, 3) := by decide +kernel
theorem dX4_cellStatement_45 : decode cX4_cellStatement 45 = .ok (.aload_n 0, 1) := by decide +kernel
theorem dX4_cellStatement_46 : decode cX4_cellStatement 46 = .ok (.getfield 32, 3) := by decide +kernel
theorem dX4_cellStatement_49 : decode cX4_cellStatement 49 = .ok (.iconst 4, 1) := by decide +kernel
theorem dX4_cellStatement_50 : decode cX4_cellStatement 50 = .ok (.iconst 0, 1) := by decide +kernel
theorem dX4_cellStatement_51 : decode cX4_cellStatement 51 = .ok (.invokevirtual 77, 3) := by decide +kernel
theorem dX4_cellStatement_54 : decode cX4_cellStatement 54 = .ok (.pop, 1) := by decide +kernel
theorem dX4_cellStatement_55 : decode cX4_cellStatement 55 = .ok (.aload_n 0, 1) := by decide +kernel
theorem dX4_cellStatement_56 : decode cX4_cellStatement 56 = .ok (.bipush 33, 2) := by decide +kernel
theorem dX4_cellStatement_58 : decode cX4_cellStatement 58 = .ok (.invokevirtual 116, 3) := by decide +kernel
theorem dX4_cellStatement_61 : decode cX4_cellStatement 61 = .ok (.return_, 1) := by decide +kernel
theorem dX4_ifStatement_0 : decode cX4_ifStatement 0 = .ok (.aload_n 0, 1) := by decide +kernel
theorem dX4_ifStatement_1 : decode cX4_ifStatement 1 = .ok (.getfield 46, 3) := by decide +kernel
theorem dX4_ifStatement_4 : decode cX4_ifStatement 4 = .ok (.istore_n 1, 1) := by decide +kernel
theorem dX4_ifStatement_5 : decode cX4_ifStatement 5 = .ok (.aload_n 0, 1) := by decide +kernel
theorem dX4_ifStatement_6 : decode cX4_ifStatement 6 = .ok (.dup, 1) := by decide +kernel
theorem dX4_ifStatement_7 : decode cX4_ifStatement 7 = .ok (.getfield 46, 3) := by decide +kernel
theorem dX4_ifStatement_10 : decode cX4_ifStatement 10 = .ok (.iconst 1, 1) := by decide +kernel
theorem dX4_ifStatement_11 : decode cX4_ifStatement 11 = .ok (.iadd, 1) := by decide +kernel
theorem dX4_ifStatement_12 : decode cX4_ifStatement 12 = .ok (.putfield 46, 3) := by decide +kernel
theorem dX4_ifStatement_15 : decode cX4_ifStatement 15 = .ok (.aload_n 0, 1) := by decide +kernel
theorem dX4_ifStatement_16 : decode cX4_ifStatement 16 = .ok (.iconst 1, 1) := by decide +kernel
theorem dX4_ifStatement_17 : decode cX4_ifStatement 17 = .ok (.invokevirtual 113, 3) := by decide +kernel
theorem dX4_ifStatement_20 : decode cX4_ifStatement 20 = .ok (.aload_n 0, 1) := by decide +kernel
theorem dX4_ifStatement_21 : decode cX4_ifStatement 21 = .ok (.getfield 32, 3) := by decide +kernel
theorem dX4_ifStatement_24 : decode cX4_ifStatement 24 = .ok (.bipush 14, 2) := by decide +kernel
theorem dX4_ifStatement_26 : decode cX4_ifStatement 26 = .ok (.iconst 0, 1) := by decide +kernel
theorem dX4_ifStatement_27 : decode cX4_ifStatement 27 = .ok (.invokevirtual 77, 3) := by decide +kernel
theorem dX4_ifStatement_30 : decode cX4_ifStatement 30 = .ok (.istore_n 2, 1) := by decide +kernel
theorem dX4_ifStatement_31 : decode cX4_ifStatement 31 = .ok (.aload_n 0, 1) := by decide +kernel
theorem dX4_ifStatement_32 : decode cX4_ifStatement 32 = .ok (.iload_n 1, 1) := by decide +kernel
theorem dX4_ifStatement_33 : decode cX4_ifStatement 33 = .ok (.invokevirtual 154, 3) := by decide +kernel
theorem dX4_ifStatement_36 : decode cX4_ifStatement 36 = .ok (.aload_n 0, 1) := by decide +kernel
theorem dX4_ifStatement_37 : decode cX4_ifStatement 37 = .ok (.invokevirtual 69, 3) := by decide +kernel
theorem dX4_ifStatement_40 : decode cX4_ifStatement 40 = .ok (.bipush 6, 2) := by decide +kernel
theorem dX4_ifStatement_42 : decode cX4_ifStatement 42 = .ok (.if_icmp .ne 69, 3) := by decide +kernel
theorem dX4_ifStatement_45 : decode cX4_ifStatement 45 = .ok (.aload_n 0, 1) := by decide +kernel
theorem dX4_ifStatement_46 : decode cX4_ifStatement 46 = .ok (.getfield 46, 3) := by decide +kernel
theorem dX4_ifStatement_49 : decode cX4_ifStatement 49 = .ok (.istore_n 3, 1) := by decide +kernel
theorem dX4_ifStatement_50 : decode cX4_ifStatement 50 = .ok (.aload_n 0, 1) := by decide +kernel
theorem dX4_ifStatement_51 : decode cX4_ifStatement 51 = .ok (.dup, 1) := by decide +kernel
theorem dX4_ifStatement_52 : decode cX4_ifStatement 52 = .ok (.getfield 46, 3) := by decide +kernel
theorem dX4_ifStatement_55 : decode cX4_ifStatement 55 = .ok (.iconst 1, 1) := by decide +kernel
theorem dX4_ifStatement_56 : decode cX4_ifStatement 56 = .ok (.iadd, 1) := by decide +kernel
theorem dX4_ifStatement_57 : decode cX4_ifStatement 57 = .ok (.putfield 46, 3) := by decide +kernel
theorem dX4_ifStatement_60 : decode cX4_ifStatement 60 = .ok (.aload_n 0, 1) := by decide +kernel
theorem dX4_ifStatement_61 : decode cX4_ifStatement 61 = .ok (.getfield 32, 3) := by decide +kernel
theorem dX4_ifStatement_64 : decode cX4_ifStatement 64 = .ok (.bipush 13, 2) := by decide +kernel
theorem dX4_ifStatement_66 : decode cX4_ifStatement 66 = .ok (.iconst 0, 1) := by decide +kernel
theorem dX4_ifStatement_67 : decode cX4_ifStatement 67 = .ok (.invokevirtual 77, 3) := by decide +kernel
theorem dX4_ifStatement_70 : decode cX4_ifStatement 70 = .ok (.istore 4, 2) := by decide +kernel
theorem dX4_ifStatement_72 : decode cX4_ifStatement 72 = .ok (.aload_n 0, 1) := by decide +kernel
theorem dX4_ifStatement_73 : decode cX4_ifStatement 73 = .ok (.getfield 32, 3) := by decide +kernel
theorem dX4_ifStatement_76 : decode cX4_ifStatement 76 = .ok (.iload_n 2, 1) := by decide +kernel
theorem dX4_ifStatement_77 : decode cX4_ifStatement 77 = .ok (.aload_n 0, 1) := by decide +kernel
theorem dX4_ifStatement_78 : decode cX4_ifStatement 78 = .ok (.getfield 32, 3) := by decide +kernel
theorem dX4_ifStatement_81 : decode cX4_ifStatement 81 = .ok (.invokevirtual 157, 3) := by decide +kernel
theorem dX4_ifStatement_84 : decode cX4_ifStatement 84 = .ok (.invokevirtual 160, 3) := by decide +kernel
theorem dX4_ifStatement_87 : decode cX4_ifStatement 87 = .ok (.aload_n 0, 1) := by decide +kernel
theorem dX4_ifStatement_88 : decode cX4_ifStatement 88 = .ok (.iload_n 3, 1) := by decide +kernel
theorem dX4_ifStatement_89 : decode cX4_ifStatement 89 = .ok (.invokevirtual 154, 3) := by decide +kernel
theorem dX4_ifStatement_92 : decode cX4_ifStatement 92 = .ok (.aload_n 0, 1) := by decide +kernel
theorem dX4_ifStatement_93 : decode cX4_ifStatement 93 = .ok (.getfield 32, 3) := by decide +kernel
theorem dX4_ifStatement_96 : decode cX4_ifStatement 96 = .ok (.iload 4, 2) := by decide +kernel
theorem dX4_ifStatement_98 : decode cX4_ifStatement 98 = .ok (.aload_n 0, 1) := by decide +kernel
theorem dX4_ifStatement_99 : decode cX4_ifStatement 99 = .ok (.getfield 32, 3) := by decide +kernel
theorem dX4_ifStatement_102 : decode cX4_ifStatement 102 = .ok (.invokevirtual 157, 3) := by decide +kernel
theorem dX4_ifStatement_105 : decode cX4_ifStatement 105 = .ok (.invokevirtual 160, 3) := by decide +kernel
theorem dX4_ifStatement_108 : decode cX4_ifStatement 108 = .ok (.goto 18, 3) := by decide +kernel
theorem dX4_ifStatement_111 : decode cX4_ifStatement 111 = .ok (.aload_n 0, 1) := by decide +kernel
theorem dX4_ifStatement_112 : decode cX4_ifStatement 112 = .ok (.getfield 32, 3) := by decide +kernel
theorem dX4_ifStatement_115 : decode cX4_ifStatement 115 = .ok (.iload_n 2, 1) := by decide +kernel
theorem dX4_ifStatement_116 : decode cX4_ifStatement 116 = .ok (.aload_n 0, 1) := by decide +kernel
theorem dX4_ifStatement_117 : decode cX4_ifStatement 117 = .ok (.getfield 32, 3) := by decide +kernel
theorem dX4_ifStatement_120 : decode cX4_ifStatement 120 = .ok (.invokevirtual 157, 3) := by decide +kernel
theorem dX4_ifStatement_123 : decode cX4_ifStatement 123 = .ok (.invokevirtual 160, 3) := by decide +kernel
theorem dX4_ifStatement_126 : decode cX4_ifStatement 126 = .ok (.return_, 1) := by decide +kernel
theorem dX4_whileStatement_0 : decode cX4_whileStatement 0 = .ok (.aload_n 0, 1) := by decide +kernel
theorem dX4_whileStatement_1 : decode cX4_whileStatement 1 = .ok (.getfield 46, 3) := by decide +kernel
theorem dX4_whileStatement_4 : decode cX4_whileStatement 4 = .ok (.istore_n 1, 1) := by decide +kernel
theorem dX4_whileStatement_5 : decode cX4_whileStatement 5 = .ok (.aload_n 0, 1) := by decide +kernel
theorem dX4_whileStatement_6 : decode cX4_whileStatement 6 = .ok (.dup, 1) := by decide +kernel
theorem dX4_whileStatement_7 : decode cX4_whileStatement 7 = .ok (.getfield 46, 3) := by decide +kernel
theorem dX4_whileStatement_10 : decode cX4_whileStatement 10 = .ok (.iconst 1, 1) := by decide +kernel
theorem dX4_whileStatement_11 : decode cX4_whileStatement 11 = .ok (.iadd, 1) := by decide +kernel
theorem dX4_whileStatement_12 : decode cX4_whileStatement 12 = .ok (.putfield 46, 3) := by decide +kernel
theorem dX4_whileStatement_15 : decode cX4_whileStatement 15 = .ok (.aload_n 0, 1) := by decide +kernel
theorem dX4_whileStatement_16 : decode cX4_whileStatement 16 = .ok (.getfield 32, 3) := by decide +kernel
theorem dX4_whileStatement_19 : decode cX4_whileStatement 19 = .ok (.iconst 0, 1) := by decide +kernel
theorem dX4_whileStatement_20 : decode cX4_whileStatement 20 = .ok (.iconst 0, 1) := by decide +kernel
theorem dX4_whileStatement_21 : decode cX4_whileStatement 21 = .ok (.invokevirtual 77, 3) := by decide +kernel
theorem dX4_whileStatement_24 : decode cX4_whileStatement 24 = .ok (.istore_n 2, 1) := by decide +kernel
theorem dX4_whileStatement_25 : decode cX4_whileStatement 25 = .ok (.aload_n 0, 1) := by decide +kernel
theorem dX4_whileStatement_26 : decode cX4_whileStatement 26 = .ok (.iconst 1, 1) := by decide +kernel
theorem dX4_whileStatement_27 : decode cX4_whileStatement 27 = .ok (.invokevirtual 113, 3) := by decide +kernel
theorem dX4_whileStatement_30 : decode cX4_whileStatement 30 = .ok (.aload_n 0, 1) := by decide +kernel
theorem dX4_whileStatement_31 : decode cX4_whileStatement 31 = .ok (.getfield 32, 3) := by decide +kernel
theorem dX4_whileStatement_34 : decode cX4_whileStatement 34 = .ok (.bipush 14, 2) := by decide +kernel
theorem dX4_whileStatement_36 : decode cX4_whileStatement 36 = .ok (.iconst 0, 1) := by decide +kernel
theorem dX4_whileStatement_37 : decode cX4_whileStatement 37 = .ok (.invokevirtual 77, 3) := by decide +kernel
theorem dX4_whileStatement_40 : decode cX4_whileStatement 40 = .ok (.istore_n 3, 1) := by decide +kernel
theorem dX4_whileStatement_41 : decode cX4_whileStatement 41 = .ok (.aload_n 0, 1) := by decide +kernel
theorem dX4_whileStatement_42 : decode cX4_whileStatement 42 = .ok (.iload_n 1, 1) := by decide +kernel
theorem dX4_whileStatement_43 : decode cX4_whileStatement 43 = .ok (.invokevirtual 154, 3) := by decide +kernel
theorem dX4_whileStatement_46 : decode cX4_whileStatement 46 = .ok (.aload_n 0, 1) := by decide +kernel
theorem dX4_whileStatement_47 : decode cX4_whileStatement 47 = .ok (.getfield 32, 3) := by decide +kernel
theorem dX4_whileStatement_50 : decode cX4_whileStatement 50 = .ok (.bipush 13, 2) := by decide +kernel
theorem dX4_whileStatement_52 : decode cX4_whileStatement 52 = .ok (.iload_n 2, 1) := by decide +kernel
theorem dX4_whileStatement_53 : decode cX4_whileStatement 53 = .ok (.invokevirtual 77, 3) := by decide +kernel
theorem dX4_whileStatement_56 : decode cX4_whileStatement 56 = .ok (.pop, 1) := by decide +kernel
theorem dX4_whileStatement_57 : decode cX4_whileStatement 57 = .ok (.aload_n 0, 1) := by decide +kernel
theorem dX4_whileStatement_58 : decode cX4_whileStatement 58 = .ok (.getfield 32, 3) := by decide +kernel
theorem dX4_whileStatement_61 : decode cX4_whileStatement 61 = .ok (.iload_n 3, 1) := by decide +kernel
theorem dX4_whileStatement_62 : decode cX4_whileStatement 62 = .ok (.aload_n 0, 1) := by decide +kernel
theorem dX4_whileStatement_63 : decode cX4_whileStatement 63 = .ok (.getfield 32, 3) := by decide +kernel
theorem dX4_whileStatement_66 : decode cX4_whileStatement 66 = .ok (.invokevirtual 157, 3) := by decide +kernel
theorem dX4_whileStatement_69 : decode cX4_whileStatement 69 = .ok (.invokevirtual 160, 3) := by decide +kernel
theorem dX4_whileStatement_72 : decode cX4_whileStatement 72 = .ok (.return_, 1) := by decide +kernel
theorem dX4_returnStatement_0 : decode cX4_returnStatement 0 = .ok (.aload_n 0, 1) := by decide +kernel
theorem dX4_returnStatement_1 : decode cX4_returnStatement 1 = .ok (.getfield 62, 3) := by decide +kernel
theorem dX4_returnStatement_4 : decode cX4_returnStatement 4 = .ok (.ifCond .ne 13, 3) := by decide +kernel
theorem dX4_returnStatement_7 : decode cX4_returnStatement 7 = .ok (.aload_n 0, 1) := by decide +kernel
theorem dX4_returnStatement_8 : decode cX4_returnStatement 8 = .ok (.iconst 3, 1) := by decide +kernel
theorem dX4_returnStatement_9 : decode cX4_returnStatement 9 = .ok (.aload_n 0, 1) := by decide +kernel
theorem dX4_returnStatement_10 : decode cX4_returnStatement 10 = .ok (.getfield 46, 3) := by decide +kernel
theorem dX4_returnStatement_13 : decode cX4_returnStatement 13 = .ok (.invokevirtual 100, 3) := by decide +kernel
theorem dX4_returnStatement_16 : decode cX4_returnStatement 16 = .ok (.return_, 1) := by decide +kernel
theorem dX4_returnStatement_17 : decode cX4_returnStatement 17 = .ok (.aload_n 0, 1) := by decide +kernel
theorem dX4_returnStatement_18 : decode cX4_returnStatement 18 = .ok (.dup, 1) := by decide +kernel
theorem dX4_returnStatement_19 : decode cX4_returnStatement 19 = .ok (.getfield 46, 3) := by decide +kernel
theorem dX4_returnStatement_22 : decode cX4_returnStatement 22 = .ok (.iconst 1, 1) := by decide +kernel
theorem dX4_returnStatement_23 : decode cX4_returnStatement 23 = .ok (.iadd, 1) := by decide +kernel
theorem dX4_returnStatement_24 : decode cX4_returnStatement 24 = .ok (.putfield 46, 3) := by decide +kernel
theorem dX4_returnStatement_27 : decode cX4_returnStatement 27 = .ok (.aload_n 0, 1) := by decide +kernel
theorem dX4_returnStatement_28 : decode cX4_returnStatement 28 = .ok (.iconst 1, 1) := by decide +kernel
theorem dX4_returnStatement_29 : decode cX4_returnStatement 29 = .ok (.invokevirtual 113, 3) := by decide +kernel
theorem dX4_returnStatement_32 : decode cX4_returnStatement 32 = .ok (.aload_n 0, 1) := by decide +kernel
theorem dX4_returnStatement_33 : decode cX4_returnStatement 33 = .ok (.getfield 32, 3) := by decide +kernel
theorem dX4_returnStatement_36 : decode cX4_returnStatement 36 = .ok (.bipush 16, 2) := by decide +kernel
theorem dX4_returnStatement_38 : decode cX4_returnStatement 38 = .ok (.iconst 0, 1) := by decide +kernel
theorem dX4_returnStatement_39 : decode cX4_returnStatement 39 = .ok (.invokevirtual 77, 3) := by decide +kernel
theorem dX4_returnStatement_42 : decode cX4_returnStatement 42 = .ok (.pop, 1) := by decide +kernel
theorem dX4_returnStatement_43 : decode cX4_returnStatement 43 = .ok (.aload_n 0, 1) := by decide +kernel
theorem dX4_returnStatement_44 : decode cX4_returnStatement 44 = .ok (.bipush 33, 2) := by decide +kernel
theorem dX4_returnStatement_46 : decode cX4_returnStatement 46 = .ok (.invokevirtual 116, 3) := by decide +kernel
theorem dX4_returnStatement_49 : decode cX4_returnStatement 49 = .ok (.return_, 1) := by decide +kernel
theorem dX4_defStatement_0 : decode cX4_defStatement 0 = .ok (.aload_n 0, 1) := by decide +kernel
theorem dX4_defStatement_1 : decode cX4_defStatement 1 = .ok (.getfield 46, 3) := by decide +kernel
theorem dX4_defStatement_4 : decode cX4_defStatement 4 = .ok (.istore_n 1, 1) := by decide +kernel
theorem dX4_defStatement_5 : decode cX4_defStatement 5 = .ok (.aload_n 0, 1) := by decide +kernel
theorem dX4_defStatement_6 : decode cX4_defStatement 6 = .ok (.getfield 59, 3) := by decide +kernel
theorem dX4_defStatement_9 : decode cX4_defStatement 9 = .ok (.ifCond .le 13, 3) := by decide +kernel
theorem dX4_defStatement_12 : decode cX4_defStatement 12 = .ok (.aload_n 0, 1) := by decide +kernel
theorem dX4_defStatement_13 : decode cX4_defStatement 13 = .ok (.iconst 3, 1) := by decide +kernel
theorem dX4_defStatement_14 : decode cX4_defStatement 14 = .ok (.aload_n 0, 1) := by decide +kernel
theorem dX4_defStatement_15 : decode cX4_defStatement 15 = .ok (.getfield 46, 3) := by decide +kernel
theorem dX4_defStatement_18 : decode cX4_defStatement 18 = .ok (.invokevirtual 100, 3) := by decide +kernel
theorem dX4_defStatement_21 : decode cX4_defStatement 21 = .ok (.return_, 1) := by decide +kernel
theorem dX4_defStatement_22 : decode cX4_defStatement 22 = .ok (.aload_n 0, 1) := by decide +kernel
theorem dX4_defStatement_23 : decode cX4_defStatement 23 = .ok (.dup, 1) := by decide +kernel
theorem dX4_defStatement_24 : decode cX4_defStatement 24 = .ok (.getfield 46, 3) := by decide +kernel
theorem dX4_defStatement_27 : decode cX4_defStatement 27 = .ok (.iconst 1, 1) := by decide +kernel
theorem dX4_defStatement_28 : decode cX4_defStatement 28 = .ok (.iadd, 1) := by decide +kernel
theorem dX4_defStatement_29 : decode cX4_defStatement 29 = .ok (.putfield 46, 3) := by decide +kernel
theorem dX4_defStatement_32 : decode cX4_defStatement 32 = .ok (.aload_n 0, 1) := by decide +kernel
theorem dX4_defStatement_33 : decode cX4_defStatement 33 = .ok (.invokevirtual 69, 3) := by decide +kernel
theorem dX4_defStatement_36 : decode cX4_defStatement 36 = .ok (.iconst 4, 1) := by decide +kernel
theorem dX4_defStatement_37 : decode cX4_defStatement 37 = .ok (.if_icmp .eq 13, 3) := by decide +kernel
theorem dX4_defStatement_40 : decode cX4_defStatement 40 = .ok (.aload_n 0, 1) := by decide +kernel
theorem dX4_defStatement_41 : decode cX4_defStatement 41 = .ok (.iconst 3, 1) := by decide +kernel
theorem dX4_defStatement_42 : decode cX4_defStatement 42 = .ok (.aload_n 0, 1) := by decide +kernel
theorem dX4_defStatement_43 : decode cX4_defStatement 43 = .ok (.getfield 46, 3) := by decide +kernel
theorem dX4_defStatement_46 : decode cX4_defStatement 46 = .ok (.invokevirtual 100, 3) := by decide +kernel
theorem dX4_defStatement_49 : decode cX4_defStatement 49 = .ok (.return_, 1) := by decide +kernel
theorem dX4_defStatement_50 : decode cX4_defStatement 50 = .ok (.aload_n 0, 1) := by decide +kernel
theorem dX4_defStatement_51 : decode cX4_defStatement 51 = .ok (.getfield 32, 3) := by decide +kernel
theorem dX4_defStatement_54 : decode cX4_defStatement 54 = .ok (.aload_n 0, 1) := by decide +kernel
theorem dX4_defStatement_55 : decode cX4_defStatement 55 = .ok (.getfield 42, 3) := by decide +kernel
theorem dX4_defStatement_58 : decode cX4_defStatement 58 = .ok (.getfield 163, 3) := by decide +kernel
theorem dX4_defStatement_61 : decode cX4_defStatement 61 = .ok (.aload_n 0, 1) := by decide +kernel
theorem dX4_defStatement_62 : decode cX4_defStatement 62 = .ok (.getfield 46, 3) := by decide +kernel
theorem dX4_defStatement_65 : decode cX4_defStatement 65 = .ok (.invokevirtual 96, 3) := by decide +kernel
theorem dX4_defStatement_68 : decode cX4_defStatement 68 = .ok (.invokevirtual 166, 3) := by decide +kernel
theorem dX4_defStatement_71 : decode cX4_defStatement 71 = .ok (.iconst (-1), 1) := by decide +kernel
theorem dX4_defStatement_72 : decode cX4_defStatement 72 = .ok (.if_icmp .eq 14, 3) := by decide +kernel
theorem dX4_defStatement_75 : decode cX4_defStatement 75 = .ok (.aload_n 0, 1) := by decide +kernel
theorem dX4_defStatement_76 : decode cX4_defStatement 76 = .ok (.bipush 6, 2) := by decide +kernel
theorem dX4_defStatement_78 : decode cX4_defStatement 78 = .ok (.aload_n 0, 1) := by decide +kernel
theorem dX4_defStatement_79 : decode cX4_defStatement 79 = .ok (.getfield 46, 3) := by decide +kernel
theorem dX4_defStatement_82 : decode cX4_defStatement 82 = .ok (.invokevirtual 100, 3) := by decide +kernel
theorem dX4_defStatement_85 : decode cX4_defStatement 85 = .ok (.return_, 1) := by decide +kernel
theorem dX4_defStatement_86 : decode cX4_defStatement 86 = .ok (.aload_n 0, 1) := by decide +kernel
theorem dX4_defStatement_87 : decode cX4_defStatement 87 = .ok (.getfield 32, 3) := by decide +kernel
theorem dX4_defStatement_90 : decode cX4_defStatement 90 = .ok (.aload_n 0, 1) := by decide +kernel
theorem dX4_defStatement_91 : decode cX4_defStatement 91 = .ok (.getfield 42, 3) := by decide +kernel
theorem dX4_defStatement_94 : decode cX4_defStatement 94 = .ok (.getfield 163, 3) := by decide +kernel
theorem dX4_defStatement_97 : decode cX4_defStatement 97 = .ok (.aload_n 0, 1) := by decide +kernel
theorem dX4_defStatement_98 : decode cX4_defStatement 98 = .ok (.getfield 46, 3) := by decide +kernel
theorem dX4_defStatement_101 : decode cX4_defStatement 101 = .ok (.invokevirtual 96, 3) := by decide +kernel
theorem dX4_defStatement_104 : decode cX4_defStatement 104 = .ok (.invokevirtual 169, 3) := by decide +kernel
theorem dX4_defStatement_107 : decode cX4_defStatement 107 = .ok (.istore_n 2, 1) := by decide +kernel
theorem dX4_defStatement_108 : decode cX4_defStatement 108 = .ok (.aload_n 0, 1) := by decide +kernel
theorem dX4_defStatement_109 : decode cX4_defStatement 109 = .ok (.getfield 42, 3) := by decide +kernel
theorem dX4_defStatement_112 : decode cX4_defStatement 112 = .ok (.getfield 90, 3) := by decide +kernel
theorem dX4_defStatement_115 : decode cX4_defStatement 115 = .ok (.aload_n 0, 1) := by decide +kernel
theorem dX4_defStatement_116 : decode cX4_defStatement 116 = .ok (.getfield 46, 3) := by decide +kernel
theorem dX4_defStatement_119 : decode cX4_defStatement 119 = .ok (.bipush 35, 2) := by decide +kernel
theorem dX4_defStatement_121 : decode cX4_defStatement 121 = .ok (.invokevirtual 145, 3) := by decide +kernel
theorem dX4_defStatement_124 : decode cX4_defStatement 124 = .ok (.aload_n 0, 1) := by decide +kernel
theorem dX4_defStatement_125 : decode cX4_defStatement 125 = .ok (.dup, 1) := by decide +kernel
theorem dX4_defStatement_126 : decode cX4_defStatement 126 = .ok (.getfield 46, 3) := by decide +kernel
theorem dX4_defStatement_129 : decode cX4_defStatement 129 = .ok (.iconst 1, 1) := by decide +kernel
theorem dX4_defStatement_130 : decode cX4_defStatement 130 = .ok (.iadd, 1) := by decide +kernel
theorem dX4_defStatement_131 : decode cX4_defStatement 131 = .ok (.putfield 46, 3) := by decide +kernel
theorem dX4_defStatement_134 : decode cX4_defStatement 134 = .ok (.aload_n 0, 1) := by decide +kernel
theorem dX4_defStatement_135 : decode cX4_defStatement 135 = .ok (.getfield 32, 3) := by decide +kernel
theorem dX4_defStatement_138 : decode cX4_defStatement 138 = .ok (.bipush 13, 2) := by decide +kernel
theorem dX4_defStatement_140 : decode cX4_defStatement 140 = .ok (.iconst 0, 1) := by decide +kernel
theorem dX4_defStatement_141 : decode cX4_defStatement 141 = .ok (.invokevirtual 77, 3) := by decide +kernel
theorem dX4_defStatement_144 : decode cX4_defStatement 144 = .ok (.istore_n 3, 1) := by decide +kernel
theorem dX4_defStatement_145 : decode cX4_defStatement 145 = .ok (.aload_n 0, 1) := by decide +kernel
theorem dX4_defStatement_146 : decode cX4_defStatement 146 = .ok (.invokevirtual 172, 3) := by decide +kernel
theorem dX4_defStatement_149 : decode cX4_defStatement 149 = .ok (.aload_n 0, 1) := by decide +kernel
theorem dX4_defStatement_150 : decode cX4_defStatement 150 = .ok (.getfield 32, 3) := by decide +kernel
theorem dX4_defStatement_153 : decode cX4_defStatement 153 = .ok (.iload_n 2, 1) := by decide +kernel
theorem dX4_defStatement_154 : decode cX4_defStatement 154 = .ok (.aload_n 0, 1) := by decide +kernel
theorem dX4_defStatement_155 : decode cX4_defStatement 155 = .ok (.getfield 20, 3) := by decide +kernel
theorem dX4_defStatement_158 : decode cX4_defStatement 158 = .ok (.invokevirtual 175, 3) := by decide +kernel
theorem dX4_defStatement_161 : decode cX4_defStatement 161 = .ok (.aload_n 0, 1) := by decide +kernel
theorem dX4_defStatement_162 : decode cX4_defStatement 162 = .ok (.getfield 46, 3) := by decide +kernel
theorem dX4_defStatement_165 : decode cX4_defStatement 165 = .ok (.aload_n 0, 1) := by decide +kernel
theorem dX4_defStatement_166 : decode cX4_defStatement 166 = .ok (.getfield 32, 3) := by decide +kernel
theorem dX4_defStatement_169 : decode cX4_defStatement 169 = .ok (.invokevirtual 157, 3) := by decide +kernel
theorem dX4_defStatement_172 : decode cX4_defStatement 172 = .ok (.invokevirtual 178, 3) := by decide +kernel
theorem dX4_defStatement_175 : decode cX4_defStatement 175 = .ok (.aload_n 0, 1) := by decide +kernel
theorem dX4_defStatement_176 : decode cX4_defStatement 176 = .ok (.iconst 1, 1) := by decide +kernel
theorem dX4_defStatement_177 : decode cX4_defStatement 177 = .ok (.putfield 62, 3) := by decide +kernel
theorem dX4_defStatement_180 : decode cX4_defStatement 180 = .ok (.aload_n 0, 1) := by decide +kernel
theorem dX4_defStatement_181 : decode cX4_defStatement 181 = .ok (.iload_n 1, 1) := by decide +kernel
theorem dX4_defStatement_182 : decode cX4_defStatement 182 = .ok (.invokevirtual 154, 3) := by decide +kernel
theorem dX4_defStatement_185 : decode cX4_defStatement 185 = .ok (.aload_n 0, 1) := by decide +kernel
theorem dX4_defStatement_186 : decode cX4_defStatement 186 = .ok (.iconst 0, 1) := by decide +kernel
theorem dX4_defStatement_187 : decode cX4_defStatement 187 = .ok (.putfield 62, 3) := by decide +kernel
theorem dX4_defStatement_190 : decode cX4_defStatement 190 = .ok (.aload_n 0, 1) := by decide +kernel
theorem dX4_defStatement_191 : decode cX4_defStatement 191 = .ok (.getfield 32, 3) := by decide +kernel
theorem dX4_defStatement_194 : decode cX4_defStatement 194 = .ok (.iconst 1, 1) := by decide +kernel
theorem dX4_defStatement_195 : decode cX4_defStatement 195 = .ok (.iconst 0, 1) := by decide +kernel
theorem dX4_defStatement_196 : decode cX4_defStatement 196 = .ok (.invokevirtual 77, 3) := by decide +kernel
theorem dX4_defStatement_199 : decode cX4_defStatement 199 = .ok (.pop, 1) := by decide +kernel
theorem dX4_defStatement_200 : decode cX4_defStatement 200 = .ok (.aload_n 0, 1) := by decide +kernel
theorem dX4_defStatement_201 : decode cX4_defStatement 201 = .ok (.getfield 32, 3) := by decide +kernel
theorem dX4_defStatement_204 : decode cX4_defStatement 204 = .ok (.bipush 16, 2) := by decide +kernel
theorem dX4_defStatement_206 : decode cX4_defStatement 206 = .ok (.iconst 0, 1) := by decide +kernel
theorem dX4_defStatement_207 : decode cX4_defStatement 207 = .ok (.invokevirtual 77, 3) := by decide +kernel
theorem dX4_defStatement_210 : decode cX4_defStatement 210 = .ok (.pop, 1) := by decide +kernel
theorem dX4_defStatement_211 : decode cX4_defStatement 211 = .ok (.aload_n 0, 1) := by decide +kernel
theorem dX4_defStatement_212 : decode cX4_defStatement 212 = .ok (.getfield 32, 3) := by decide +kernel
theorem dX4_defStatement_215 : decode cX4_defStatement 215 = .ok (.iload_n 3, 1) := by decide +kernel
theorem dX4_defStatement_216 : decode cX4_defStatement 216 = .ok (.aload_n 0, 1) := by decide +kernel
theorem dX4_defStatement_217 : decode cX4_defStatement 217 = .ok (.getfield 32, 3) := by decide +kernel
theorem dX4_defStatement_220 : decode cX4_defStatement 220 = .ok (.invokevirtual 157, 3) := by decide +kernel
theorem dX4_defStatement_223 : decode cX4_defStatement 223 = .ok (.invokevirtual 160, 3) := by decide +kernel
theorem dX4_defStatement_226 : decode cX4_defStatement 226 = .ok (.aload_n 0, 1) := by decide +kernel
theorem dX4_defStatement_227 : decode cX4_defStatement 227 = .ok (.getfield 42, 3) := by decide +kernel
theorem dX4_defStatement_230 : decode cX4_defStatement 230 = .ok (.getfield 163, 3) := by decide +kernel
theorem dX4_defStatement_233 : decode cX4_defStatement 233 = .ok (.iload_n 1, 1) := by decide +kernel
theorem dX4_defStatement_234 : decode cX4_defStatement 234 = .ok (.aload_n 0, 1) := by decide +kernel
theorem dX4_defStatement_235 : decode cX4_defStatement 235 = .ok (.getfield 46, 3) := by decide +kernel
theorem dX4_defStatement_238 : decode cX4_defStatement 238 = .ok (.invokevirtual 145, 3) := by decide +kernel
theorem dX4_defStatement_241 : decode cX4_defStatement 241 = .ok (.return_, 1) := by decide +kernel
theorem dX4_parameters_0 : decode cX4_parameters 0 = .ok (.aload_n 0, 1) := by decide +kernel
theorem dX4_parameters_1 : decode cX4_parameters 1 = .ok (.getfield 20, 3) := by decide +kernel
theorem dX4_parameters_4 : decode cX4_parameters 4 = .ok (.invokevirtual 66, 3) := by decide +kernel
theorem dX4_parameters_7 : decode cX4_parameters 7 = .ok (.aload_n 0, 1) := by decide +kernel
theorem dX4_parameters_8 : decode cX4_parameters 8 = .ok (.invokevirtual 69, 3) := by decide +kernel
theorem dX4_parameters_11 : decode cX4_parameters 11 = .ok (.bipush 28, 2) := by decide +kernel
theorem dX4_parameters_13 : decode cX4_parameters 13 = .ok (.if_icmp .eq 13, 3) := by decide +kernel
theorem dX4_parameters_16 : decode cX4_parameters 16 = .ok (.aload_n 0, 1) := by decide +kernel
theorem dX4_parameters_17 : decode cX4_parameters 17 = .ok (.iconst 3, 1) := by decide +kernel
theorem dX4_parameters_18 : decode cX4_parameters 18 = .ok (.aload_n 0, 1) := by decide +kernel
theorem dX4_parameters_19 : decode cX4_parameters 19 = .ok (.getfield 46, 3) := by decide +kernel
theorem dX4_parameters_22 : decode cX4_parameters 22 = .ok (.invokevirtual 100, 3) := by decide +kernel
theorem dX4_parameters_25 : decode cX4_parameters 25 = .ok (.return_, 1) := by decide +kernel
theorem dX4_parameters_26 : decode cX4_parameters 26 = .ok (.aload_n 0, 1) := by decide +kernel
theorem dX4_parameters_27 : decode cX4_parameters 27 = .ok (.invokevirtual 148, 3) := by decide +kernel
theorem dX4_parameters_30 : decode cX4_parameters 30 = .ok (.aload_n 0, 1) := by decide +kernel
theorem dX4_parameters_31 : decode cX4_parameters 31 = .ok (.invokevirtual 69, 3) := by decide +kernel
theorem dX4_parameters_34 : decode cX4_parameters 34 = .ok (.bipush 29, 2) := by decide +kernel
theorem dX4_parameters_36 : decode cX4_parameters 36 = .ok (.if_icmp .eq 45, 3) := by decide +kernel
theorem dX4_parameters_39 : decode cX4_parameters 39 = .ok (.aload_n 0, 1) := by decide +kernel
theorem dX4_parameters_40 : decode cX4_parameters 40 = .ok (.invokevirtual 182, 3) := by decide +kernel
theorem dX4_parameters_43 : decode cX4_parameters 43 = .ok (.iconst 0, 1) := by decide +kernel
theorem dX4_parameters_44 : decode cX4_parameters 44 = .ok (.istore_n 1, 1) := by decide +kernel
theorem dX4_parameters_45 : decode cX4_parameters 45 = .ok (.iload_n 1, 1) := by decide +kernel
theorem dX4_parameters_46 : decode cX4_parameters 46 = .ok (.sipush 300, 3) := by decide +kernel
theorem dX4_parameters_49 : decode cX4_parameters 49 = .ok (.if_icmp .ge 32, 3) := by decide +kernel
theorem dX4_parameters_52 : decode cX4_parameters 52 = .ok (.aload_n 0, 1) := by decide +kernel
theorem dX4_parameters_53 : decode cX4_parameters 53 = .ok (.invokevirtual 69, 3) := by decide +kernel
theorem dX4_parameters_56 : decode cX4_parameters 56 = .ok (.bipush 32, 2) := by decide +kernel
theorem dX4_parameters_58 : decode cX4_parameters 58 = .ok (.if_icmp .ne 23, 3) := by decide +kernel
theorem dX4_parameters_61 : decode cX4_parameters 61 = .ok (.aload_n 0, 1) := by decide +kernel
theorem dX4_parameters_62 : decode cX4_parameters 62 = .ok (.dup, 1) := by decide +kernel
theorem dX4_parameters_63 : decode cX4_parameters 63 = .ok (.getfield 46, 3) := by decide +kernel
theorem dX4_parameters_66 : decode cX4_parameters 66 = .ok (.iconst 1, 1) := by decide +kernel
theorem dX4_parameters_67 : decode cX4_parameters 67 = .ok (.iadd, 1) := by decide +kernel
theorem dX4_parameters_68 : decode cX4_parameters 68 = .ok (.putfield 46, 3) := by decide +kernel
theorem dX4_parameters_71 : decode cX4_parameters 71 = .ok (.aload_n 0, 1) := by decide +kernel
theorem dX4_parameters_72 : decode cX4_parameters 72 = .ok (.invokevirtual 182, 3) := by decide +kernel
theorem dX4_parameters_75 : decode cX4_parameters 75 = .ok (.iinc 1 1, 3) := by decide +kernel
theorem dX4_parameters_78 : decode cX4_parameters 78 = .ok (.goto (-33), 3) := by decide +kernel
theorem dX4_parameters_81 : decode cX4_parameters 81 = .ok (.aload_n 0, 1) := by decide +kernel
theorem dX4_parameters_82 : decode cX4_parameters 82 = .ok (.bipush 29, 2) := by decide +kernel
theorem dX4_parameters_84 : decode cX4_parameters 84 = .ok (.invokevirtual 116, 3) := by decide +kernel
theorem dX4_parameters_87 : decode cX4_parameters 87 = .ok (.aload_n 0, 1) := by decide +kernel
theorem dX4_parameters_88 : decode cX4_parameters 88 = .ok (.dup, 1) := by decide +kernel
theorem dX4_parameters_89 : decode cX4_parameters 89 = .ok (.getfield 59, 3) := by decide +kernel
theorem dX4_parameters_92 : decode cX4_parameters 92 = .ok (.iconst 1, 1) := by decide +kernel
theorem dX4_parameters_93 : decode cX4_parameters 93 = .ok (.isub, 1) := by decide +kernel
theorem dX4_parameters_94 : decode cX4_parameters 94 = .ok (.putfield 59, 3) := by decide +kernel
theorem dX4_parameters_97 : decode cX4_parameters 97 = .ok (.return_, 1) := by decide +kernel
theorem dX4_parameter_0 : decode cX4_parameter 0 = .ok (.aload_n 0, 1) := by decide +kernel
theorem dX4_parameter_1 : decode cX4_parameter 1 = .ok (.invokevirtual 69, 3) := by decide +kernel
theorem dX4_parameter_4 : decode cX4_parameter 4 = .ok (.iconst 4, 1) := by decide +kernel
theorem dX4_parameter_5 : decode cX4_parameter 5 = .ok (.if_icmp .eq 15, 3) := by decide +kernel
theorem dX4_parameter_8 : decode cX4_parameter 8 = .ok (.aload_n 0, 1) := by decide +kernel
theorem dX4_parameter_9 : decode cX4_parameter 9 = .ok (.iconst 3, 1) := by decide +kernel
theorem dX4_parameter_10 : decode cX4_parameter 10 = .ok (.aload_n 0, 1) := by decide +kernel
theorem dX4_parameter_11 : decode cX4_parameter 11 = .ok (.getfield 46, 3) := by decide +kernel
theorem dX4_parameter_14 : decode cX4_parameter 14 = .ok (.invokevirtual 100, 3) := by decide +kernel
theorem dX4_parameter_17 : decode cX4_parameter 17 = .ok (.goto 50, 3) := by decide +kernel
theorem dX4_parameter_20 : decode cX4_parameter 20 = .ok (.aload_n 0, 1) := by decide +kernel
theorem dX4_parameter_21 : decode cX4_parameter 21 = .ok (.getfield 20, 3) := by decide +kernel
theorem dX4_parameter_24 : decode cX4_parameter 24 = .ok (.aload_n 0, 1) := by decide +kernel
theorem dX4_parameter_25 : decode cX4_parameter 25 = .ok (.getfield 42, 3) := by decide +kernel
theorem dX4_parameter_28 : decode cX4_parameter 28 = .ok (.getfield 163, 3) := by decide +kernel
theorem dX4_parameter_31 : decode cX4_parameter 31 = .ok (.aload_n 0, 1) := by decide +kernel
theorem dX4_parameter_32 : decode cX4_parameter 32 = .ok (.getfield 46, 3) := by decide +kernel
theorem dX4_parameter_35 : decode cX4_parameter 35 = .ok (.invokevirtual 96, 3) := by decide +kernel
theorem dX4_parameter_38 : decode cX4_parameter 38 = .ok (.invokevirtual 185, 3) := by decide +kernel
theorem dX4_parameter_41 : decode cX4_parameter 41 = .ok (.iconst (-1), 1) := by decide +kernel
theorem dX4_parameter_42 : decode cX4_parameter 42 = .ok (.if_icmp .eq 16, 3) := by decide +kernel
theorem dX4_parameter_45 : decode cX4_parameter 45 = .ok (.aload_n 0, 1) := by decide +kernel
theorem dX4_parameter_46 : decode cX4_parameter 46 = .ok (.bipush 6, 2) := by decide +kernel
theorem dX4_parameter_48 : decode cX4_parameter 48 = .ok (.aload_n 0, 1) := by decide +kernel
theorem dX4_parameter_49 : decode cX4_parameter 49 = .ok (.getfield 46, 3) := by decide +kernel
theorem dX4_parameter_52 : decode cX4_parameter 52 = .ok (.invokevirtual 100, 3) := by decide +kernel
theorem dX4_parameter_55 : decode cX4_parameter 55 = .ok (.goto 12, 3) := by decide +kernel
theorem dX4_parameter_58 : decode cX4_parameter 58 = .ok (.aload_n 0, 1) := by decide +kernel
theorem dX4_parameter_59 : decode cX4_parameter 59 = .ok (.aload_n 0, 1) := by decide +kernel
theorem dX4_parameter_60 : decode cX4_parameter 60 = .ok (.getfield 20, 3) := by decide +kernel
theorem dX4_parameter_63 : decode cX4_parameter 63 = .ok (.invokevirtual 141, 3) := by decide +kernel
theorem dX4_parameter_66 : decode cX4_parameter 66 = .ok (.pop, 1) := by decide +kernel
theorem dX4_parameter_67 : decode cX4_parameter 67 = .ok (.return_, 1) := by decide +kernel
theorem dX4_block_0 : decode cX4_block 0 = .ok (.aload_n 0, 1) := by decide +kernel
theorem dX4_block_1 : decode cX4_block 1 = .ok (.getfield 46, 3) := by decide +kernel
theorem dX4_block_4 : decode cX4_block 4 = .ok (.istore_n 2, 1) := by decide +kernel
theorem dX4_block_5 : decode cX4_block 5 = .ok (.aload_n 0, 1) := by decide +kernel
theorem dX4_block_6 : decode cX4_block 6 = .ok (.invokevirtual 69, 3) := by decide +kernel
theorem dX4_block_9 : decode cX4_block 9 = .ok (.bipush 30, 2) := by decide +kernel
theorem dX4_block_11 : decode cX4_block 11 = .ok (.if_icmp .eq 13, 3) := by decide +kernel
theorem dX4_block_14 : decode cX4_block 14 = .ok (.aload_n 0, 1) := by decide +kernel
theorem dX4_block_15 : decode cX4_block 15 = .ok (.iconst 3, 1) := by decide +kernel
theorem dX4_block_16 : decode cX4_block 16 = .ok (.aload_n 0, 1) := by decide +kernel
theorem dX4_block_17 : decode cX4_block 17 = .ok (.getfield 46, 3) := by decide +kernel
theorem dX4_block_20 : decode cX4_block 20 = .ok (.invokevirtual 100, 3) := by decide +kernel
theorem dX4_block_23 : decode cX4_block 23 = .ok (.return_, 1) := by decide +kernel
theorem dX4_block_24 : decode cX4_block 24 = .ok (.aload_n 0, 1) := by decide +kernel
theorem dX4_block_25 : decode cX4_block 25 = .ok (.invokevirtual 148, 3) := by decide +kernel
theorem dX4_block_28 : decode cX4_block 28 = .ok (.iconst 0, 1) := by decide +kernel
theorem dX4_block_29 : decode cX4_block 29 = .ok (.istore_n 3, 1) := by decide +kernel
theorem dX4_block_30 : decode cX4_block 30 = .ok (.iload_n 3, 1) := by decide +kernel
theorem dX4_block_31 : decode cX4_block 31 = .ok (.sipush 300, 3) := by decide +kernel
theorem dX4_block_34 : decode cX4_block 34 = .ok (.if_icmp .ge 29, 3) := by decide +kernel
theorem dX4_block_37 : decode cX4_block 37 = .ok (.aload_n 0, 1) := by decide +kernel
theorem dX4_block_38 : decode cX4_block 38 = .ok (.invokevirtual 69, 3) := by decide +kernel
theorem dX4_block_41 : decode cX4_block 41 = .ok (.bipush 31, 2) := by decide +kernel
theorem dX4_block_43 : decode cX4_block 43 = .ok (.if_icmp .eq 20, 3) := by decide +kernel
theorem dX4_block_46 : decode cX4_block 46 = .ok (.aload_n 0, 1) := by decide +kernel
theorem dX4_block_47 : decode cX4_block 47 = .ok (.invokevirtual 69, 3) := by decide +kernel
theorem dX4_block_50 : decode cX4_block 50 = .ok (.ifCond .eq 13, 3) := by decide +kernel
theorem dX4_block_53 : decode cX4_block 53 = .ok (.aload_n 0, 1) := by decide +kernel
theorem dX4_block_54 : decode cX4_block 54 = .ok (.invokevirtual 72, 3) := by decide +kernel
theorem dX4_block_57 : decode cX4_block 57 = .ok (.iinc 3 1, 3) := by decide +kernel
theorem dX4_block_60 : decode cX4_block 60 = .ok (.goto (-30), 3) := by decide +kernel
theorem dX4_block_63 : decode cX4_block 63 = .ok (.aload_n 0, 1) := by decide +kernel
theorem dX4_block_64 : decode cX4_block 64 = .ok (.getfield 42, 3) := by decide +kernel
theorem dX4_block_67 : decode cX4_block 67 = .ok (.getfield 163, 3) := by decide +kernel
theorem dX4_block_70 : decode cX4_block 70 = .ok (.iload_n 2, 1) := by decide +kernel
theorem dX4_block_71 : decode cX4_block 71 = .ok (.aload_n 0, 1) := by decide +kernel
theorem dX4_block_72 : decode cX4_block 72 = .ok (.getfield 46, 3) := by decide +kernel
theorem dX4_block_75 : decode cX4_block 75 = .ok (.iconst 1, 1) := by decide +kernel
theorem dX4_block_76 : decode cX4_block 76 = .ok (.iadd, 1) := by decide +kernel
theorem dX4_block_77 : decode cX4_block 77 = .ok (.invokevirtual 145, 3) := by decide +kernel
theorem dX4_block_80 : decode cX4_block 80 = .ok (.aload_n 0, 1) := by decide +kernel
theorem dX4_block_81 : decode cX4_block 81 = .ok (.getfield 42, 3) := by decide +kernel
theorem dX4_block_84 : decode cX4_block 84 = .ok (.getfield 163, 3) := by decide +kernel
theorem dX4_block_87 : decode cX4_block 87 = .ok (.aload_n 0, 1) := by decide +kernel
theorem dX4_block_88 : decode cX4_block 88 = .ok (.getfield 46, 3) := by decide +kernel
theorem dX4_block_91 : decode cX4_block 91 = .ok (.iload_n 1, 1) := by decide +kernel
theorem dX4_block_92 : decode cX4_block 92 = .ok (.invokevirtual 145, 3) := by decide +kernel
theorem dX4_block_95 : decode cX4_block 95 = .ok (.aload_n 0, 1) := by decide +kernel
theorem dX4_block_96 : decode cX4_block 96 = .ok (.bipush 31, 2) := by decide +kernel
theorem dX4_block_98 : decode cX4_block 98 = .ok (.invokevirtual 116, 3) := by decide +kernel
theorem dX4_block_101 : decode cX4_block 101 = .ok (.aload_n 0, 1) := by decide +kernel
theorem dX4_block_102 : decode cX4_block 102 = .ok (.dup, 1) := by decide +kernel
theorem dX4_block_103 : decode cX4_block 103 = .ok (.getfield 59, 3) := by decide +kernel
theorem dX4_block_106 : decode cX4_block 106 = .ok (.iconst 1, 1) := by decide +kernel
theorem dX4_block_107 : decode cX4_block 107 = .ok (.isub, 1) := by decide +kernel
theorem dX4_block_108 : decode cX4_block 108 = .ok (.putfield 59, 3) := by decide +kernel
theorem dX4_block_111 : decode cX4_block 111 = .ok (.return_, 1) := by decide +kernel
theorem dX4_expression_0 : decode cX4_expression 0 = .ok (.iload_n 1, 1) := by decide +kernel
theorem dX4_expression_1 : decode cX4_expression 1 = .ok (.bipush 7, 2) := by decide +kernel
theorem dX4_expression_3 : decode cX4_expression 3 = .ok (.if_icmp .lt 8, 3) := by decide +kernel
theorem dX4_expression_6 : decode cX4_expression 6 = .ok (.aload_n 0, 1) := by decide +kernel
theorem dX4_expression_7 : decode cX4_expression 7 = .ok (.invokevirtual 151, 3) := by decide +kernel
theorem dX4_expression_10 : decode cX4_expression 10 = .ok (.return_, 1) := by decide +kernel
theorem dX4_expression_11 : decode cX4_expression 11 = .ok (.aload_n 0, 1) := by decide +kernel
theorem dX4_expression_12 : decode cX4_expression 12 = .ok (.iload_n 1, 1) := by decide +kernel
theorem dX4_expression_13 : decode cX4_expression 13 = .ok (.iconst 1, 1) := by decide +kernel
theorem dX4_expression_14 : decode cX4_expression 14 = .ok (.iadd, 1) := by decide +kernel
theorem dX4_expression_15 : decode cX4_expression 15 = .ok (.invokevirtual 113, 3) := by decide +kernel
theorem dX4_expression_18 : decode cX4_expression 18 = .ok (.iconst 0, 1) := by decide +kernel
theorem dX4_expression_19 : decode cX4_expression 19 = .ok (.istore_n 2, 1) := by decide +kernel
theorem dX4_expression_20 : decode cX4_expression 20 = .ok (.iload_n 2, 1) := by decide +kernel
theorem dX4_expression_21 : decode cX4_expression 21 = .ok (.sipush 300, 3) := by decide +kernel
theorem dX4_expression_24 : decode cX4_expression 24 = .ok (.if_icmp .ge 150, 3) := by decide +kernel
theorem dX4_expression_27 : decode cX4_expression 27 = .ok (.aload_n 0, 1) := by decide +kernel
theorem dX4_expression_28 : decode cX4_expression 28 = .ok (.invokevirtual 69, 3) := by decide +kernel
theorem dX4_expression_31 : decode cX4_expression 31 = .ok (.invokestatic 188, 3) := by decide +kernel
theorem dX4_expression_34 : decode cX4_expression 34 = .ok (.iload_n 1, 1) := by decide +kernel
theorem dX4_expression_35 : decode cX4_expression 35 = .ok (.if_icmp .ne 139, 3) := by decide +kernel
theorem dX4_expression_38 : decode cX4_expression 38 = .ok (.aload_n 0, 1) := by decide +kernel
theorem dX4_expression_39 : decode cX4_expression 39 = .ok (.getfield 46, 3) := by decide +kernel
theorem dX4_expression_42 : decode cX4_expression 42 = .ok (.istore_n 3, 1) := by decide +kernel
theorem dX4_expression_43 : decode cX4_expression 43 = .ok (.aload_n 0, 1) := by decide +kernel
theorem dX4_expression_44 : decode cX4_expression 44 = .ok (.invokevirtual 69, 3) := by decide +kernel
theorem dX4_expression_47 : decode cX4_expression 47 = .ok (.istore 4, 2) := by decide +kernel
theorem dX4_expression_49 : decode cX4_expression 49 = .ok (.aload_n 0, 1) := by decide +kernel
theorem dX4_expression_50 : decode cX4_expression 50 = .ok (.dup, 1) := by decide +kernel
theorem dX4_expression_51 : decode cX4_expression 51 = .ok (.getfield 46, 3) := by decide +kernel
theorem dX4_expression_54 : decode cX4_expression 54 = .ok (.iconst 1, 1) := by decide +kernel
theorem dX4_expression_55 : decode cX4_expression 55 = .ok (.iadd, 1) := by decide +kernel
theorem dX4_expression_56 : decode cX4_expression 56 = .ok (.putfield 46, 3) := by decide +kernel
theorem dX4_expression_59 : decode cX4_expression 59 = .ok (.iload 4, 2) := by decide +kernel
theorem dX4_expression_61 : decode cX4_expression 61 = .ok (.bipush 23, 2) := by decide +kernel
theorem dX4_expression_63 : decode cX4_expression 63 = .ok (.if_icmp .eq 10, 3) := by decide +kernel
theorem dX4_expression_66 : decode cX4_expression 66 = .ok (.iload 4, 2) := by decide +kernel
theorem dX4_expression_68 : decode cX4_expression 68 = .ok (.bipush 24, 2) := by decide +kernel
theorem dX4_expression_70 : decode cX4_expression 70 = .ok (.if_icmp .ne 79, 3) := by decide +kernel
theorem dX4_expression_73 : decode cX4_expression 73 = .ok (.aload_n 0, 1) := by decide +kernel
theorem dX4_expression_74 : decode cX4_expression 74 = .ok (.getfield 32, 3) := by decide +kernel
theorem dX4_expression_77 : decode cX4_expression 77 = .ok (.iload 4, 2) := by decide +kernel
theorem dX4_expression_79 : decode cX4_expression 79 = .ok (.bipush 23, 2) := by decide +kernel
theorem dX4_expression_81 : decode cX4_expression 81 = .ok (.if_icmp .ne 8, 3) := by decide +kernel
theorem dX4_expression_84 : decode cX4_expression 84 = .ok (.bipush 11, 2) := by decide +kernel
theorem dX4_expression_86 : decode cX4_expression 86 = .ok (.goto 5, 3) := by decide +kernel
theorem dX4_expression_89 : decode cX4_expression 89 = .ok (.bipush 12, 2) := by decide +kernel
theorem dX4_expression_91 : decode cX4_expression 91 = .ok (.iconst 0, 1) := by decide +kernel
theorem dX4_expression_92 : decode cX4_expression 92 = .ok (.invokevirtual 77, 3) := by decide +kernel
theorem dX4_expression_95 : decode cX4_expression 95 = .ok (.istore 5, 2) := by decide +kernel
theorem dX4_expression_97 : decode cX4_expression 97 = .ok (.aload_n 0, 1) := by decide +kernel
theorem dX4_expression_98 : decode cX4_expression 98 = .ok (.iload_n 1, 1) := by decide +kernel
theorem dX4_expression_99 : decode cX4_expression 99 = .ok (.iconst 1, 1) := by decide +kernel
theorem dX4_expression_100 : decode cX4_expression 100 = .ok (.iadd, 1) := by decide +kernel
theorem dX4_expression_101 : decode cX4_expression 101 = .ok (.invokevirtual 113, 3) := by decide +kernel
theorem dX4_expression_104 : decode cX4_expression 104 = .ok (.aload_n 0, 1) := by decide +kernel
theorem dX4_expression_105 : decode cX4_expression 105 = .ok (.getfield 32, 3) := by decide +kernel
theorem dX4_expression_108 : decode cX4_expression 108 = .ok (.bipush 10, 2) := by decide +kernel
theorem dX4_expression_110 : decode cX4_expression 110 = .ok (.iconst 0, 1) := by decide +kernel
theorem dX4_expression_111 : decode cX4_expression 111 = .ok (.invokevirtual 77, 3) := by decide +kernel
theorem dX4_expression_114 : decode cX4_expression 114 = .ok (.pop, 1) := by decide +kernel
theorem dX4_expression_115 : decode cX4_expression 115 = .ok (.aload_n 0, 1) := by decide +kernel
theorem dX4_expression_116 : decode cX4_expression 116 = .ok (.getfield 32, 3) := by decide +kernel
theorem dX4_expression_119 : decode cX4_expression 119 = .ok (.iload 5, 2) := by decide +kernel
theorem dX4_expression_121 : decode cX4_expression 121 = .ok (.aload_n 0, 1) := by decide +kernel
theorem dX4_expression_122 : decode cX4_expression 122 = .ok (.getfield 32, 3) := by decide +kernel
theorem dX4_expression_125 : decode cX4_expression 125 = .ok (.invokevirtual 157, 3) := by decide +kernel
theorem dX4_expression_128 : decode cX4_expression 128 = .ok (.invokevirtual 160, 3) := by decide +kernel
theorem dX4_expression_131 : decode cX4_expression 131 = .ok (.aload_n 0, 1) := by decide +kernel
theorem dX4_expression_132 : decode cX4_expression 132 = .ok (.getfield 42, 3) := by decide +kernel
theorem dX4_expression_135 : decode cX4_expression 135 = .ok (.getfield 163, 3) := by decide +kernel
theorem dX4_expression_138 : decode cX4_expression 138 = .ok (.iload_n 3, 1) := by decide +kernel
theorem dX4_expression_139 : decode cX4_expression 139 = .ok (.aload_n 0, 1) := by decide +kernel
theorem dX4_expression_140 : decode cX4_expression 140 = .ok (.getfield 46, 3) := by decide +kernel
theorem dX4_expression_143 : decode cX4_expression 143 = .ok (.invokevirtual 145, 3) := by decide +kernel
theorem dX4_expression_146 : decode cX4_expression 146 = .ok (.goto 22, 3) := by decide +kernel
theorem dX4_expression_149 : decode cX4_expression 149 = .ok (.aload_n 0, 1) := by decide +kernel
theorem dX4_expression_150 : decode cX4_expression 150 = .ok (.iload_n 1, 1) := by decide +kernel
theorem dX4_expression_151 : decode cX4_expression 151 = .ok (.iconst 1, 1) := by decide +kernel
theorem dX4_expression_152 : decode cX4_expression 152 = .ok (.iadd, 1) := by decide +kernel
theorem dX4_expression_153 : decode cX4_expression 153 = .ok (.invokevirtual 113, 3) := by decide +kernel
theorem dX4_expression_156 : decode cX4_expression 156 = .ok (.aload_n 0, 1) := by decide +kernel
theorem dX4_expression_157 : decode cX4_expression 157 = .ok (.getfield 32, 3) := by decide +kernel
theorem dX4_expression_160 : decode cX4_expression 160 = .ok (.bipush 9, 2) := by decide +kernel
theorem dX4_expression_162 : decode cX4_expression 162 = .ok (.iload 4, 2) := by decide +kernel
theorem dX4_expression_164 : decode cX4_expression 164 = .ok (.invokevirtual 77, 3) := by decide +kernel
theorem dX4_expression_167 : decode cX4_expression 167 = .ok (.pop, 1) := by decide +kernel
theorem dX4_expression_168 : decode cX4_expression 168 = .ok (.iinc 2 1, 3) := by decide +kernel
theorem dX4_expression_171 : decode cX4_expression 171 = .ok (.goto (-151), 3) := by decide +kernel
theorem dX4_expression_174 : decode cX4_expression 174 = .ok (.return_, 1) := by decide +kernel
theorem dX4_operand_0 : decode cX4_operand 0 = .ok (.aload_n 0, 1) := by decide +kernel
theorem dX4_operand_1 : decode cX4_operand 1 = .ok (.invokevirtual 69, 3) := by decide +kernel
theorem dX4_operand_4 : decode cX4_operand 4 = .ok (.lookupswitch 233 #[(3, 98), (4, 185), (9, 134), (13, 68), (25, 91), (26, 91), (28, 157)], 68) := by decide +kernel
theorem dX4_operand_72 : decode cX4_operand 72 = .ok (.aload_n 0, 1) := by decide +kernel
theorem dX4_operand_73 : decode cX4_operand 73 = .ok (.getfield 42, 3) := by decide +kernel
theorem dX4_operand_76 : decode cX4_operand 76 = .ok (.getfield 90, 3) := by decide +kernel
theorem dX4_operand_79 : decode cX4_operand 79 = .ok (.aload_n 0, 1) := by decide +kernel
theorem dX4_operand_80 : decode cX4_operand 80 = .ok (.getfield 46, 3) := by decide +kernel
theorem dX4_operand_83 : decode cX4_operand 83 = .ok (.bipush 36, 2) := by decide +kernel
theorem dX4_operand_85 : decode cX4_operand 85 = .ok (.invokevirtual 145, 3) := by decide +kernel
theorem dX4_operand_88 : decode cX4_operand 88 = .ok (.aload_n 0, 1) := by decide +kernel
theorem dX4_operand_89 : decode cX4_operand 89 = .ok (.invokevirtual 191, 3) := by decide +kernel
theorem dX4_operand_92 : decode cX4_operand 92 = .ok (.goto 154, 3) := by decide +kernel
theorem dX4_operand_95 : decode cX4_operand 95 = .ok (.aload_n 0, 1) := by decide +kernel
theorem dX4_operand_96 : decode cX4_operand 96 = .ok (.invokevirtual 191, 3) := by decide +kernel
theorem dX4_operand_99 : decode cX4_operand 99 = .ok (.goto 147, 3) := by decide +kernel
theorem dX4_operand_102 : decode cX4_operand 102 = .ok (.aload_n 0, 1) := by decide +kernel
theorem dX4_operand_103 : decode cX4_operand 103 = .ok (.getfield 32, 3) := by decide +kernel
theorem dX4_operand_106 : decode cX4_operand 106 = .ok (.iconst 1, 1) := by decide +kernel
theorem dX4_operand_107 : decode cX4_operand 107 = .ok (.aload_n 0, 1) := by decide +kernel
theorem dX4_operand_108 : decode cX4_operand 108 = .ok (.getfield 42, 3) := by decide +kernel
theorem dX4_operand_111 : decode cX4_operand 111 = .ok (.getfield 163, 3) := by decide +kernel
theorem dX4_operand_114 : decode cX4_operand 114 = .ok (.aload_n 0, 1) := by decide +kernel
theorem dX4_operand_115 : decode cX4_operand 115 = .ok (.getfield 46, 3) := by decide +kernel
theorem dX4_operand_118 : decode cX4_operand 118 = .ok (.invokevirtual 96, 3) := by decide +kernel
theorem dX4_operand_121 : decode cX4_operand 121 = .ok (.invokevirtual 77, 3) := by decide +kernel
theorem dX4_operand_124 : decode cX4_operand 124 = .ok (.pop, 1) := by decide +kernel
theorem dX4_operand_125 : decode cX4_operand 125 = .ok (.aload_n 0, 1) := by decide +kernel
theorem dX4_operand_126 : decode cX4_operand 126 = .ok (.dup, 1) := by decide +kernel
theorem dX4_operand_127 : decode cX4_operand 127 = .ok (.getfield 46, 3) := by decide +kernel
theorem dX4_operand_130 : decode cX4_operand 130 = .ok (.iconst 1, 1) := by decide +kernel
theorem dX4_operand_131 : decode cX4_operand 131 = .ok (.iadd, 1) := by decide +kernel
theorem dX4_operand_132 : decode cX4_operand 132 = .ok (.putfield 46, 3) := by decide +kernel
theorem dX4_operand_135 : decode cX4_operand 135 = .ok (.goto 111, 3) := by decide +kernel
theorem dX4_operand_138 : decode cX4_operand 138 = .ok (.aload_n 0, 1) := by decide +kernel
theorem dX4_operand_139 : decode cX4_operand 139 = .ok (.getfield 32, 3) := by decide +kernel
theorem dX4_operand_142 : decode cX4_operand 142 = .ok (.iconst 5, 1) := by decide +kernel
theorem dX4_operand_143 : decode cX4_operand 143 = .ok (.iconst 0, 1) := by decide +kernel
theorem dX4_operand_144 : decode cX4_operand 144 = .ok (.invokevirtual 77, 3) := by decide +kernel
theorem dX4_operand_147 : decode cX4_operand 147 = .ok (.pop, 1) := by decide +kernel
theorem dX4_operand_148 : decode cX4_operand 148 = .ok (.aload_n 0, 1) := by decide +kernel
theorem dX4_operand_149 : decode cX4_operand 149 = .ok (.dup, 1) := by decide +kernel
theorem dX4_operand_150 : decode cX4_operand 150 = .ok (.getfield 46, 3) := by decide +kernel
theorem dX4_operand_153 : decode cX4_operand 153 = .ok (.iconst 1, 1) := by decide +kernel
theorem dX4_operand_154 : decode cX4_operand 154 = .ok (.iadd, 1) := by decide +kernel
theorem dX4_operand_155 : decode cX4_operand 155 = .ok (.putfield 46, 3) := by decide +kernel
theorem dX4_operand_158 : decode cX4_operand 158 = .ok (.goto 88, 3) := by decide +kernel
theorem dX4_operand_161 : decode cX4_operand 161 = .ok (.aload_n 0, 1) := by decide +kernel
theorem dX4_operand_162 : decode cX4_operand 162 = .ok (.invokevirtual 148, 3) := by decide +kernel
theorem dX4_operand_165 : decode cX4_operand 165 = .ok (.aload_n 0, 1) := by decide +kernel
theorem dX4_operand_166 : decode cX4_operand 166 = .ok (.iconst 1, 1) := by decide +kernel
theorem dX4_operand_167 : decode cX4_operand 167 = .ok (.invokevirtual 113, 3) := by decide +kernel
theorem dX4_operand_170 : decode cX4_operand 170 = .ok (.aload_n 0, 1) := by decide +kernel
theorem dX4_operand_171 : decode cX4_operand 171 = .ok (.bipush 29, 2) := by decide +kernel
theorem dX4_operand_173 : decode cX4_operand 173 = .ok (.invokevirtual 116, 3) := by decide +kernel
theorem dX4_operand_176 : decode cX4_operand 176 = .ok (.aload_n 0, 1) := by decide +kernel
theorem dX4_operand_177 : decode cX4_operand 177 = .ok (.dup, 1) := by decide +kernel
theorem dX4_operand_178 : decode cX4_operand 178 = .ok (.getfield 59, 3) := by decide +kernel
theorem dX4_operand_181 : decode cX4_operand 181 = .ok (.iconst 1, 1) := by decide +kernel
theorem dX4_operand_182 : decode cX4_operand 182 = .ok (.isub, 1) := by decide +kernel
theorem dX4_operand_183 : decode cX4_operand 183 = .ok (.putfield 59, 3) := by decide +kernel
theorem dX4_operand_186 : decode cX4_operand 186 = .ok (.goto 60, 3) := by decide +kernel
theorem dX4_operand_189 : decode cX4_operand 189 = .ok (.aload_n 0, 1) := by decide +kernel
theorem dX4_operand_190 : decode cX4_operand 190 = .ok (.getfield 42, 3) := by decide +kernel
theorem dX4_operand_193 : decode cX4_operand 193 = .ok (.getfield 90, 3) := by decide +kernel
theorem dX4_operand_196 : decode cX4_operand 196 = .ok (.aload_n 0, 1) := by decide +kernel
theorem dX4_operand_197 : decode cX4_operand 197 = .ok (.getfield 46, 3) := by decide +kernel
theorem dX4_operand_200 : decode cX4_operand 200 = .ok (.iconst 1, 1) := by decide +kernel
theorem dX4_operand_201 : decode cX4_operand 201 = .ok (.iadd, 1) := by decide +kernel
theorem dX4_operand_202 : decode cX4_operand 202 = .ok (.invokevirtual 96, 3) := by decide +kernel
theorem dX4_operand_205 : decode cX4_operand 205 = .ok (.bipush 28, 2) := by decide +kernel
theorem dX4_operand_207 : decode cX4_operand 207 = .ok (.if_icmp .ne 10, 3) := by decide +kernel
theorem dX4_operand_210 : decode cX4_operand 210 = .ok (.aload_n 0, 1) := by decide +kernel
theorem dX4_operand_211 : decode cX4_operand 211 = .ok (.invokevirtual 134, 3) := by decide +kernel
theorem dX4_operand_214 : decode cX4_operand 214 = .ok (.goto 32, 3) := by decide +kernel
theorem dX4_operand_217 : decode cX4_operand 217 = .ok (.aload_n 0, 1) := by decide +kernel
theorem dX4_operand_218 : decode cX4_operand 218 = .ok (.getfield 32, 3) := by decide +kernel
theorem dX4_operand_221 : decode cX4_operand 221 = .ok (.iconst 2, 1) := by decide +kernel
theorem dX4_operand_222 : decode cX4_operand 222 = .ok (.aload_n 0, 1) := by decide +kernel
theorem dX4_operand_223 : decode cX4_operand 223 = .ok (.aload_n 0, 1) := by decide +kernel
theorem dX4_operand_224 : decode cX4_operand 224 = .ok (.invokevirtual 137, 3) := by decide +kernel
theorem dX4_operand_227 : decode cX4_operand 227 = .ok (.invokevirtual 141, 3) := by decide +kernel
theorem dX4_operand_230 : decode cX4_operand 230 = .ok (.invokevirtual 77, 3) := by decide +kernel
theorem dX4_operand_233 : decode cX4_operand 233 = .ok (.pop, 1) := by decide +kernel
theorem dX4_operand_234 : decode cX4_operand 234 = .ok (.goto 12, 3) := by decide +kernel
theorem dX4_operand_237 : decode cX4_operand 237 = .ok (.aload_n 0, 1) := by decide +kernel
theorem dX4_operand_238 : decode cX4_operand 238 = .ok (.iconst 3, 1) := by decide +kernel
theorem dX4_operand_239 : decode cX4_operand 239 = .ok (.aload_n 0, 1) := by decide +kernel
theorem dX4_operand_240 : decode cX4_operand 240 = .ok (.getfield 46, 3) := by decide +kernel
theorem dX4_operand_243 : decode cX4_operand 243 = .ok (.invokevirtual 100, 3) := by decide +kernel
theorem dX4_operand_246 : decode cX4_operand 246 = .ok (.return_, 1) := by decide +kernel
theorem dX4_markedOperand_0 : decode cX4_markedOperand 0 = .ok (.aload_n 0, 1) := by decide +kernel
theorem dX4_markedOperand_1 : decode cX4_markedOperand 1 = .ok (.invokevirtual 69, 3) := by decide +kernel
theorem dX4_markedOperand_4 : decode cX4_markedOperand 4 = .ok (.istore_n 1, 1) := by decide +kernel
theorem dX4_markedOperand_5 : decode cX4_markedOperand 5 = .ok (.aload_n 0, 1) := by decide +kernel
theorem dX4_markedOperand_6 : decode cX4_markedOperand 6 = .ok (.invokevirtual 148, 3) := by decide +kernel
theorem dX4_markedOperand_9 : decode cX4_markedOperand 9 = .ok (.aload_n 0, 1) := by decide +kernel
theorem dX4_markedOperand_10 : decode cX4_markedOperand 10 = .ok (.invokevirtual 151, 3) := by decide +kernel
theorem dX4_markedOperand_13 : decode cX4_markedOperand 13 = .ok (.aload_n 0, 1) := by decide +kernel
theorem dX4_markedOperand_14 : decode cX4_markedOperand 14 = .ok (.dup, 1) := by decide +kernel
theorem dX4_markedOperand_15 : decode cX4_markedOperand 15 = .ok (.getfield 59, 3) := by decide +kernel
theorem dX4_markedOperand_18 : decode cX4_markedOperand 18 = .ok (.iconst 1, 1) := by decide +kernel
theorem dX4_markedOperand_19 : decode cX4_markedOperand 19 = .ok (.isub, 1) := by decide +kernel
theorem dX4_markedOperand_20 : decode cX4_markedOperand 20 = .ok (.putfield 59, 3) := by decide +kernel
theorem dX4_markedOperand_23 : decode cX4_markedOperand 23 = .ok (.aload_n 0, 1) := by decide +kernel
theorem dX4_markedOperand_24 : decode cX4_markedOperand 24 = .ok (.getfield 32, 3) := by decide +kernel
theorem dX4_markedOperand_27 : decode cX4_markedOperand 27 = .ok (.bipush 8, 2) := by decide +kernel
theorem dX4_markedOperand_29 : decode cX4_markedOperand 29 = .ok (.iload_n 1, 1) := by decide +kernel
theorem dX4_markedOperand_30 : decode cX4_markedOperand 30 = .ok (.invokevirtual 77, 3) := by decide +kernel
theorem dX4_markedOperand_33 : decode cX4_markedOperand 33 = .ok (.pop, 1) := by decide +kernel
theorem dX4_markedOperand_34 : decode cX4_markedOperand 34 = .ok (.return_, 1) := by decide +kernel
theorem dX4_call_0 : decode cX4_call 0 = .ok (.aload_n 0, 1) := by decide +kernel
theorem dX4_call_1 : decode cX4_call 1 = .ok (.getfield 23, 3) := by decide +kernel
theorem dX4_call_4 : decode cX4_call 4 = .ok (.invokevirtual 175, 3) := by decide +kernel
theorem dX4_call_7 : decode cX4_call 7 = .ok (.istore_n 1, 1) := by decide +kernel
theorem dX4_call_8 : decode cX4_call 8 = .ok (.aload_n 0, 1) := by decide +kernel
theorem dX4_call_9 : decode cX4_call 9 = .ok (.getfield 23, 3) := by decide +kernel
theorem dX4_call_12 : decode cX4_call 12 = .ok (.aload_n 0, 1) := by decide +kernel
theorem dX4_call_13 : decode cX4_call 13 = .ok (.getfield 46, 3) := by decide +kernel
theorem dX4_call_16 : decode cX4_call 16 = .ok (.invokevirtual 194, 3) := by decide +kernel
theorem dX4_call_19 : decode cX4_call 19 = .ok (.aload_n 0, 1) := by decide +kernel
theorem dX4_call_20 : decode cX4_call 20 = .ok (.getfield 26, 3) := by decide +kernel
theorem dX4_call_23 : decode cX4_call 23 = .ok (.iconst 0, 1) := by decide +kernel
theorem dX4_call_24 : decode cX4_call 24 = .ok (.invokevirtual 194, 3) := by decide +kernel
theorem dX4_call_27 : decode cX4_call 27 = .ok (.aload_n 0, 1) := by decide +kernel
theorem dX4_call_28 : decode cX4_call 28 = .ok (.getfield 29, 3) := by decide +kernel
theorem dX4_call_31 : decode cX4_call 31 = .ok (.iconst 0, 1) := by decide +kernel
theorem dX4_call_32 : decode cX4_call 32 = .ok (.invokevirtual 194, 3) := by decide +kernel
theorem dX4_call_35 : decode cX4_call 35 = .ok (.aload_n 0, 1) := by decide +kernel
theorem dX4_call_36 : decode cX4_call 36 = .ok (.getfield 42, 3) := by decide +kernel
theorem dX4_call_39 : decode cX4_call 39 = .ok (.getfield 90, 3) := by decide +kernel
theorem dX4_call_42 : decode cX4_call 42 = .ok (.aload_n 0, 1) := by decide +kernel
theorem dX4_call_43 : decode cX4_call 43 = .ok (.getfield 46, 3) := by decide +kernel
theorem dX4_call_46 : decode cX4_call 46 = .ok (.bipush 35, 2) := by decide +kernel
theorem dX4_call_48 : decode cX4_call 48 = .ok (.invokevirtual 145, 3) := by decide +kernel
theorem dX4_call_51 : decode cX4_call 51 = .ok (.aload_n 0, 1) := by decide +kernel
theorem dX4_call_52 : decode cX4_call 52 = .ok (.dup, 1) := by decide +kernel
theorem dX4_call_53 : decode cX4_call 53 = .ok (.getfield 46, 3) := by decide +kernel
theorem dX4_call_56 : decode cX4_call 56 = .ok (.iconst 1, 1) := by decide +kernel
theorem dX4_call_57 : decode cX4_call 57 = .ok (.iadd, 1) := by decide +kernel
theorem dX4_call_58 : decode cX4_call 58 = .ok (.putfield 46, 3) := by decide +kernel
theorem dX4_call_61 : decode cX4_call 61 = .ok (.aload_n 0, 1) := by decide +kernel
theorem dX4_call_62 : decode cX4_call 62 = .ok (.getfield 42, 3) := by decide +kernel
theorem dX4_call_65 : decode cX4_call 65 = .ok (.getfield 90, 3) := by decide +kernel
theorem dX4_call_68 : decode cX4_call 68 = .ok (.aload_n 0, 1) := by decide +kernel
theorem dX4_call_69 : decode cX4_call 69 = .ok (.getfield 46, 3) := by decide +kernel
theorem dX4_call_72 : decode cX4_call 72 = .ok (.bipush 38, 2) := by decide +kernel
theorem dX4_call_74 : decode cX4_call 74 = .ok (.invokevirtual 145, 3) := by decide +kernel
theorem dX4_call_77 : decode cX4_call 77 = .ok (.aload_n 0, 1) := by decide +kernel
theorem dX4_call_78 : decode cX4_call 78 = .ok (.invokevirtual 148, 3) := by decide +kernel
theorem dX4_call_81 : decode cX4_call 81 = .ok (.iconst 0, 1) := by decide +kernel
theorem dX4_call_82 : decode cX4_call 82 = .ok (.istore_n 2, 1) := by decide +kernel
theorem dX4_call_83 : decode cX4_call 83 = .ok (.aload_n 0, 1) := by decide +kernel
theorem dX4_call_84 : decode cX4_call 84 = .ok (.invokevirtual 69, 3) := by decide +kernel
theorem dX4_call_87 : decode cX4_call 87 = .ok (.bipush 29, 2) := by decide +kernel
theorem dX4_call_89 : decode cX4_call 89 = .ok (.if_icmp .eq 53, 3) := by decide +kernel
theorem dX4_call_92 : decode cX4_call 92 = .ok (.aload_n 0, 1) := by decide +kernel
theorem dX4_call_93 : decode cX4_call 93 = .ok (.iconst 1, 1) := by decide +kernel
theorem dX4_call_94 : decode cX4_call 94 = .ok (.invokevirtual 113, 3) := by decide +kernel
theorem dX4_call_97 : decode cX4_call 97 = .ok (.iinc 2 1, 3) := by decide +kernel
theorem dX4_call_100 : decode cX4_call 100 = .ok (.iconst 0, 1) := by decide +kernel
theorem dX4_call_101 : decode cX4_call 101 = .ok (.istore_n 3, 1) := by decide +kernel
theorem dX4_call_102 : decode cX4_call 102 = .ok (.iload_n 3, 1) := by decide +kernel
theorem dX4_call_103 : decode cX4_call 103 = .ok (.sipush 300, 3) := by decide +kernel
theorem dX4_call_106 : decode cX4_call 106 = .ok (.if_icmp .ge 36, 3) := by decide +kernel
theorem dX4_call_109 : decode cX4_call 109 = .ok (.aload_n 0, 1) := by decide +kernel
theorem dX4_call_110 : decode cX4_call 110 = .ok (.invokevirtual 69, 3) := by decide +kernel
theorem dX4_call_113 : decode cX4_call 113 = .ok (.bipush 32, 2) := by decide +kernel
theorem dX4_call_115 : decode cX4_call 115 = .ok (.if_icmp .ne 27, 3) := by decide +kernel
theorem dX4_call_118 : decode cX4_call 118 = .ok (.aload_n 0, 1) := by decide +kernel
theorem dX4_call_119 : decode cX4_call 119 = .ok (.dup, 1) := by decide +kernel
theorem dX4_call_120 : decode cX4_call 120 = .ok (.getfield 46, 3) := by decide +kernel
theorem dX4_call_123 : decode cX4_call 123 = .ok (.iconst 1, 1) := by decide +kernel
theorem dX4_call_124 : decode cX4_call 124 = .ok (.iadd, 1) := by decide +kernel
theorem dX4_call_125 : decode cX4_call 125 = .ok (.putfield 46, 3) := by decide +kernel
theorem dX4_call_128 : decode cX4_call 128 = .ok (.aload_n 0, 1) := by decide +kernel
theorem dX4_call_129 : decode cX4_call 129 = .ok (.iconst 1, 1) := by decide +kernel
theorem dX4_call_130 : decode cX4_call 130 = .ok (.invokevirtual 113, 3) := by decide +kernel
theorem dX4_call_133 : decode cX4_call 133 = .ok (.iinc 2 1, 3) := by decide +kernel
theorem dX4_call_136 : decode cX4_call 136 = .ok (.iinc 3 1, 3) := by decide +kernel
theorem dX4_call_139 : decode cX4_call 139 = .ok (.goto (-37), 3) := by decide +kernel
theorem dX4_call_142 : decode cX4_call 142 = .ok (.aload_n 0, 1) := by decide +kernel
theorem dX4_call_143 : decode cX4_call 143 = .ok (.bipush 29, 2) := by decide +kernel
theorem dX4_call_145 : decode cX4_call 145 = .ok (.invokevirtual 116, 3) := by decide +kernel
theorem dX4_call_148 : decode cX4_call 148 = .ok (.aload_n 0, 1) := by decide +kernel
theorem dX4_call_149 : decode cX4_call 149 = .ok (.dup, 1) := by decide +kernel
theorem dX4_call_150 : decode cX4_call 150 = .ok (.getfield 59, 3) := by decide +kernel
theorem dX4_call_153 : decode cX4_call 153 = .ok (.iconst 1, 1) := by decide +kernel
theorem dX4_call_154 : decode cX4_call 154 = .ok (.isub, 1) := by decide +kernel
theorem dX4_call_155 : decode cX4_call 155 = .ok (.putfield 59, 3) := by decide +kernel
theorem dX4_call_158 : decode cX4_call 158 = .ok (.aload_n 0, 1) := by decide +kernel
theorem dX4_call_159 : decode cX4_call 159 = .ok (.getfield 26, 3) := by decide +kernel
theorem dX4_call_162 : decode cX4_call 162 = .ok (.iload_n 1, 1) := by decide +kernel
theorem dX4_call_163 : decode cX4_call 163 = .ok (.iload_n 2, 1) := by decide +kernel
theorem dX4_call_164 : decode cX4_call 164 = .ok (.invokevirtual 145, 3) := by decide +kernel
theorem dX4_call_167 : decode cX4_call 167 = .ok (.aload_n 0, 1) := by decide +kernel
theorem dX4_call_168 : decode cX4_call 168 = .ok (.getfield 29, 3) := by decide +kernel
theorem dX4_call_171 : decode cX4_call 171 = .ok (.iload_n 1, 1) := by decide +kernel
theorem dX4_call_172 : decode cX4_call 172 = .ok (.aload_n 0, 1) := by decide +kernel
theorem dX4_call_173 : decode cX4_call 173 = .ok (.getfield 32, 3) := by decide +kernel
theorem dX4_call_176 : decode cX4_call 176 = .ok (.bipush 15, 2) := by decide +kernel
theorem dX4_call_178 : decode cX4_call 178 = .ok (.iconst 0, 1) := by decide +kernel
theorem dX4_call_179 : decode cX4_call 179 = .ok (.invokevirtual 77, 3) := by decide +kernel
theorem dX4_call_182 : decode cX4_call 182 = .ok (.invokevirtual 145, 3) := by decide +kernel
theorem dX4_call_185 : decode cX4_call 185 = .ok (.return_, 1) := by decide +kernel
theorem dX4_variable_0 : decode cX4_variable 0 = .ok (.aload_n 1, 1) := by decide +kernel
theorem dX4_variable_1 : decode cX4_variable 1 = .ok (.aload_n 0, 1) := by decide +kernel
theorem dX4_variable_2 : decode cX4_variable 2 = .ok (.getfield 42, 3) := by decide +kernel
theorem dX4_variable_5 : decode cX4_variable 5 = .ok (.getfield 163, 3) := by decide +kernel
theorem dX4_variable_8 : decode cX4_variable 8 = .ok (.aload_n 0, 1) := by decide +kernel
theorem dX4_variable_9 : decode cX4_variable 9 = .ok (.getfield 46, 3) := by decide +kernel
theorem dX4_variable_12 : decode cX4_variable 12 = .ok (.invokevirtual 96, 3) := by decide +kernel
theorem dX4_variable_15 : decode cX4_variable 15 = .ok (.invokevirtual 185, 3) := by decide +kernel
theorem dX4_variable_18 : decode cX4_variable 18 = .ok (.istore_n 2, 1) := by decide +kernel
theorem dX4_variable_19 : decode cX4_variable 19 = .ok (.iload_n 2, 1) := by decide +kernel
theorem dX4_variable_20 : decode cX4_variable 20 = .ok (.iconst (-1), 1) := by decide +kernel
theorem dX4_variable_21 : decode cX4_variable 21 = .ok (.if_icmp .ne 46, 3) := by decide +kernel
theorem dX4_variable_24 : decode cX4_variable 24 = .ok (.aload_n 1, 1) := by decide +kernel
theorem dX4_variable_25 : decode cX4_variable 25 = .ok (.invokevirtual 175, 3) := by decide +kernel
theorem dX4_variable_28 : decode cX4_variable 28 = .ok (.bipush 8, 2) := by decide +kernel
theorem dX4_variable_30 : decode cX4_variable 30 = .ok (.if_icmp .lt 14, 3) := by decide +kernel
theorem dX4_variable_33 : decode cX4_variable 33 = .ok (.aload_n 0, 1) := by decide +kernel
theorem dX4_variable_34 : decode cX4_variable 34 = .ok (.iconst 5, 1) := by decide +kernel
theorem dX4_variable_35 : decode cX4_variable 35 = .ok (.aload_n 0, 1) := by decide +kernel
theorem dX4_variable_36 : decode cX4_variable 36 = .ok (.getfield 46, 3) := by decide +kernel
theorem dX4_variable_39 : decode cX4_variable 39 = .ok (.invokevirtual 100, 3) := by decide +kernel
theorem dX4_variable_42 : decode cX4_variable 42 = .ok (.iconst 0, 1) := by decide +kernel
theorem dX4_variable_43 : decode cX4_variable 43 = .ok (.ireturn, 1) := by decide +kernel
theorem dX4_variable_44 : decode cX4_variable 44 = .ok (.aload_n 1, 1) := by decide +kernel
theorem dX4_variable_45 : decode cX4_variable 45 = .ok (.invokevirtual 175, 3) := by decide +kernel
theorem dX4_variable_48 : decode cX4_variable 48 = .ok (.istore_n 2, 1) := by decide +kernel
theorem dX4_variable_49 : decode cX4_variable 49 = .ok (.aload_n 1, 1) := by decide +kernel
theorem dX4_variable_50 : decode cX4_variable 50 = .ok (.aload_n 0, 1) := by decide +kernel
theorem dX4_variable_51 : decode cX4_variable 51 = .ok (.getfield 42, 3) := by decide +kernel
theorem dX4_variable_54 : decode cX4_variable 54 = .ok (.getfield 163, 3) := by decide +kernel
theorem dX4_variable_57 : decode cX4_variable 57 = .ok (.aload_n 0, 1) := by decide +kernel
theorem dX4_variable_58 : decode cX4_variable 58 = .ok (.getfield 46, 3) := by decide +kernel
theorem dX4_variable_61 : decode cX4_variable 61 = .ok (.invokevirtual 96, 3) := by decide +kernel
theorem dX4_variable_64 : decode cX4_variable 64 = .ok (.invokevirtual 194, 3) := by decide +kernel
theorem dX4_variable_67 : decode cX4_variable 67 = .ok (.aload_n 0, 1) := by decide +kernel
theorem dX4_variable_68 : decode cX4_variable 68 = .ok (.getfield 42, 3) := by decide +kernel
theorem dX4_variable_71 : decode cX4_variable 71 = .ok (.getfield 90, 3) := by decide +kernel
theorem dX4_variable_74 : decode cX4_variable 74 = .ok (.aload_n 0, 1) := by decide +kernel
theorem dX4_variable_75 : decode cX4_variable 75 = .ok (.getfield 46, 3) := by decide +kernel
theorem dX4_variable_78 : decode cX4_variable 78 = .ok (.bipush 34, 2) := by decide +kernel
theorem dX4_variable_80 : decode cX4_variable 80 = .ok (.invokevirtual 145, 3) := by decide +kernel
theorem dX4_variable_83 : decode cX4_variable 83 = .ok (.aload_n 0, 1) := by decide +kernel
theorem dX4_variable_84 : decode cX4_variable 84 = .ok (.getfield 42, 3) := by decide +kernel
theorem dX4_variable_87 : decode cX4_variable 87 = .ok (.getfield 163, 3) := by decide +kernel
theorem dX4_variable_90 : decode cX4_variable 90 = .ok (.aload_n 0, 1) := by decide +kernel
theorem dX4_variable_91 : decode cX4_variable 91 = .ok (.getfield 46, 3) := by decide +kernel
theorem dX4_variable_94 : decode cX4_variable 94 = .ok (.iload_n 2, 1) := by decide +kernel
theorem dX4_variable_95 : decode cX4_variable 95 = .ok (.invokevirtual 145, 3) := by decide +kernel
theorem dX4_variable_98 : decode cX4_variable 98 = .ok (.aload_n 0, 1) := by decide +kernel
theorem dX4_variable_99 : decode cX4_variable 99 = .ok (.dup, 1) := by decide +kernel
theorem dX4_variable_100 : decode cX4_variable 100 = .ok (.getfield 46, 3) := by decide +kernel
theorem dX4_variable_103 : decode cX4_variable 103 = .ok (.iconst 1, 1) := by decide +kernel
theorem dX4_variable_104 : decode cX4_variable 104 = .ok (.iadd, 1) := by decide +kernel
theorem dX4_variable_105 : decode cX4_variable 105 = .ok (.putfield 46, 3) := by decide +kernel
theorem dX4_variable_108 : decode cX4_variable 108 = .ok (.iload_n 2, 1) := by decide +kernel
theorem dX4_variable_109 : decode cX4_variable 109 = .ok (.ireturn, 1) := by decide +kernel
theorem dX4_linkCalls_0 : decode cX4_linkCalls 0 = .ok (.iconst 0, 1) := by decide +kernel
theorem dX4_linkCalls_1 : decode cX4_linkCalls 1 = .ok (.istore_n 1, 1) := by decide +kernel
theorem dX4_linkCalls_2 : decode cX4_linkCalls 2 = .ok (.iload_n 1, 1) := by decide +kernel
theorem dX4_linkCalls_3 : decode cX4_linkCalls 3 = .ok (.aload_n 0, 1) := by decide +kernel
theorem dX4_linkCalls_4 : decode cX4_linkCalls 4 = .ok (.getfield 23, 3) := by decide +kernel
theorem dX4_linkCalls_7 : decode cX4_linkCalls 7 = .ok (.invokevirtual 175, 3) := by decide +kernel
theorem dX4_linkCalls_10 : decode cX4_linkCalls 10 = .ok (.if_icmp .ge 119, 3) := by decide +kernel
theorem dX4_linkCalls_13 : decode cX4_linkCalls 13 = .ok (.aload_n 0, 1) := by decide +kernel
theorem dX4_linkCalls_14 : decode cX4_linkCalls 14 = .ok (.getfield 32, 3) := by decide +kernel
theorem dX4_linkCalls_17 : decode cX4_linkCalls 17 = .ok (.getfield 87, 3) := by decide +kernel
theorem dX4_linkCalls_20 : decode cX4_linkCalls 20 = .ok (.ifCond .ne 109, 3) := by decide +kernel
theorem dX4_linkCalls_23 : decode cX4_linkCalls 23 = .ok (.aload_n 0, 1) := by decide +kernel
theorem dX4_linkCalls_24 : decode cX4_linkCalls 24 = .ok (.getfield 23, 3) := by decide +kernel
theorem dX4_linkCalls_27 : decode cX4_linkCalls 27 = .ok (.iload_n 1, 1) := by decide +kernel
theorem dX4_linkCalls_28 : decode cX4_linkCalls 28 = .ok (.invokevirtual 96, 3) := by decide +kernel
theorem dX4_linkCalls_31 : decode cX4_linkCalls 31 = .ok (.istore_n 2, 1) := by decide +kernel
theorem dX4_linkCalls_32 : decode cX4_linkCalls 32 = .ok (.aload_n 0, 1) := by decide +kernel
theorem dX4_linkCalls_33 : decode cX4_linkCalls 33 = .ok (.getfield 32, 3) := by decide +kernel
theorem dX4_linkCalls_36 : decode cX4_linkCalls 36 = .ok (.aload_n 0, 1) := by decide +kernel
theorem dX4_linkCalls_37 : decode cX4_linkCalls 37 = .ok (.getfield 42, 3) := by decide +kernel
theorem dX4_linkCalls_40 : decode cX4_linkCalls 40 = .ok (.getfield 163, 3) := by decide +kernel
theorem dX4_linkCalls_43 : decode cX4_linkCalls 43 = .ok (.iload_n 2, 1) := by decide +kernel
theorem dX4_linkCalls_44 : decode cX4_linkCalls 44 = .ok (.invokevirtual 96, 3) := by decide +kernel
theorem dX4_linkCalls_47 : decode cX4_linkCalls 47 = .ok (.invokevirtual 166, 3) := by decide +kernel
theorem dX4_linkCalls_50 : decode cX4_linkCalls 50 = .ok (.istore_n 3, 1) := by decide +kernel
theorem dX4_linkCalls_51 : decode cX4_linkCalls 51 = .ok (.iload_n 3, 1) := by decide +kernel
theorem dX4_linkCalls_52 : decode cX4_linkCalls 52 = .ok (.iconst (-1), 1) := by decide +kernel
theorem dX4_linkCalls_53 : decode cX4_linkCalls 53 = .ok (.if_icmp .ne 13, 3) := by decide +kernel
theorem dX4_linkCalls_56 : decode cX4_linkCalls 56 = .ok (.aload_n 0, 1) := by decide +kernel
theorem dX4_linkCalls_57 : decode cX4_linkCalls 57 = .ok (.bipush 7, 2) := by decide +kernel
theorem dX4_linkCalls_59 : decode cX4_linkCalls 59 = .ok (.iload_n 2, 1) := by decide +kernel
theorem dX4_linkCalls_60 : decode cX4_linkCalls 60 = .ok (.invokevirtual 100, 3) := by decide +kernel
theorem dX4_linkCalls_63 : decode cX4_linkCalls 63 = .ok (.goto 60, 3) := by decide +kernel
theorem dX4_linkCalls_66 : decode cX4_linkCalls 66 = .ok (.aload_n 0, 1) := by decide +kernel
theorem dX4_linkCalls_67 : decode cX4_linkCalls 67 = .ok (.getfield 32, 3) := by decide +kernel
theorem dX4_linkCalls_70 : decode cX4_linkCalls 70 = .ok (.iload_n 3, 1) := by decide +kernel
theorem dX4_linkCalls_71 : decode cX4_linkCalls 71 = .ok (.invokevirtual 197, 3) := by decide +kernel
theorem dX4_linkCalls_74 : decode cX4_linkCalls 74 = .ok (.aload_n 0, 1) := by decide +kernel
theorem dX4_linkCalls_75 : decode cX4_linkCalls 75 = .ok (.getfield 26, 3) := by decide +kernel
theorem dX4_linkCalls_78 : decode cX4_linkCalls 78 = .ok (.iload_n 1, 1) := by decide +kernel
theorem dX4_linkCalls_79 : decode cX4_linkCalls 79 = .ok (.invokevirtual 96, 3) := by decide +kernel
theorem dX4_linkCalls_82 : decode cX4_linkCalls 82 = .ok (.if_icmp .eq 13, 3) := by decide +kernel
theorem dX4_linkCalls_85 : decode cX4_linkCalls 85 = .ok (.aload_n 0, 1) := by decide +kernel
theorem dX4_linkCalls_86 : decode cX4_linkCalls 86 = .ok (.bipush 8, 2) := by decide +kernel
theorem dX4_linkCalls_88 : decode cX4_linkCalls 88 = .ok (.iload_n 2, 1) := by decide +kernel
theorem dX4_linkCalls_89 : decode cX4_linkCalls 89 = .ok (.invokevirtual 100, 3) := by decide +kernel
theorem dX4_linkCalls_92 : decode cX4_linkCalls 92 = .ok (.goto 31, 3) := by decide +kernel
theorem dX4_linkCalls_95 : decode cX4_linkCalls 95 = .ok (.aload_n 0, 1) := by decide +kernel
theorem dX4_linkCalls_96 : decode cX4_linkCalls 96 = .ok (.getfield 42, 3) := by decide +kernel
theorem dX4_linkCalls_99 : decode cX4_linkCalls 99 = .ok (.getfield 163, 3) := by decide +kernel
theorem dX4_linkCalls_102 : decode cX4_linkCalls 102 = .ok (.iload_n 2, 1) := by decide +kernel
theorem dX4_linkCalls_103 : decode cX4_linkCalls 103 = .ok (.iload_n 3, 1) := by decide +kernel
theorem dX4_linkCalls_104 : decode cX4_linkCalls 104 = .ok (.invokevirtual 145, 3) := by decide +kernel
theorem dX4_linkCalls_107 : decode cX4_linkCalls 107 = .ok (.aload_n 0, 1) := by decide +kernel
theorem dX4_linkCalls_108 : decode cX4_linkCalls 108 = .ok (.getfield 32, 3) := by decide +kernel
theorem dX4_linkCalls_111 : decode cX4_linkCalls 111 = .ok (.aload_n 0, 1) := by decide +kernel
theorem dX4_linkCalls_112 : decode cX4_linkCalls 112 = .ok (.getfield 29, 3) := by decide +kernel
theorem dX4_linkCalls_115 : decode cX4_linkCalls 115 = .ok (.iload_n 1, 1) := by decide +kernel
theorem dX4_linkCalls_116 : decode cX4_linkCalls 116 = .ok (.invokevirtual 96, 3) := by decide +kernel
theorem dX4_linkCalls_119 : decode cX4_linkCalls 119 = .ok (.iload_n 3, 1) := by decide +kernel
theorem dX4_linkCalls_120 : decode cX4_linkCalls 120 = .ok (.invokevirtual 160, 3) := by decide +kernel
theorem dX4_linkCalls_123 : decode cX4_linkCalls 123 = .ok (.iinc 1 1, 3) := by decide +kernel
theorem dX4_linkCalls_126 : decode cX4_linkCalls 126 = .ok (.goto (-124), 3) := by decide +kernel
theorem dX4_linkCalls_129 : decode cX4_linkCalls 129 = .ok (.return_, 1) := by decide +kernel
theorem dX5_init_0 : decode cX5_init 0 = .ok (.aload_n 0, 1) := by decide +kernel
theorem dX5_init_1 : decode cX5_init 1 = .ok (.invokespecial 3, 3) := by decide +kernel
theorem dX5_init_4 : decode cX5_init 4 = .ok (.aload_n 0, 1) := by decide +kernel
theorem dX5_init_5 : decode cX5_init 5 = .ok (.iload_n 1, 1) := by decide +kernel
theorem dX5_init_6 : decode cX5_init 6 = .ok (.ifCond .ge 7, 3) := by decide +kernel
theorem dX5_init_9 : decode cX5_init 9 = .ok (.iconst 0, 1) := by decide +kernel
theorem dX5_init_10 : decode cX5_init 10 = .ok (.goto 4, 3) := by decide +kernel
theorem dX5_init_13 : decode cX5_init 13 = .ok (.iload_n 1, 1) := by decide +kernel
theorem dX5_init_14 : decode cX5_init 14 = .ok (.newarray .int, 2) := by decide +kernel
theorem dX5_init_16 : decode cX5_init 16 = .ok (.putfield 9, 3) := by decide +kernel
theorem dX5_init_19 : decode cX5_init 19 = .ok (.return_, 1) := by decide +kernel
theorem dX5_size_0 : decode cX5_size 0 = .ok (.aload_n 0, 1) := by decide +kernel
theorem dX5_size_1 : decode cX5_size 1 = .ok (.getfield 15, 3) := by decide +kernel
theorem dX5_size_4 : decode cX5_size 4 = .ok (.ireturn, 1) := by decide +kernel
theorem dX5_get_0 : decode cX5_get 0 = .ok (.iload_n 1, 1) := by decide +kernel
theorem dX5_get_1 : decode cX5_get 1 = .ok (.ifCond .lt 29, 3) := by decide +kernel
theorem dX5_get_4 : decode cX5_get 4 = .ok (.iload_n 1, 1) := by decide +kernel
theorem dX5_get_5 : decode cX5_get 5 = .ok (.aload_n 0, 1) := by decide +kernel
theorem dX5_get_6 : decode cX5_get 6 = .ok (.getfield 15, 3) := by decide +kernel
theorem dX5_get_9 : decode cX5_get 9 = .ok (.if_icmp .ge 21, 3) := by decide +kernel
theorem dX5_get_12 : decode cX5_get 12 = .ok (.iload_n 1, 1) := by decide +kernel
theorem dX5_get_13 : decode cX5_get 13 = .ok (.aload_n 0, 1) := by decide +kernel
theorem dX5_get_14 : decode cX5_get 14 = .ok (.getfield 9, 3) := by decide +kernel
theorem dX5_get_17 : decode cX5_get 17 = .ok (.arraylength, 1) := by decide +kernel
theorem dX5_get_18 : decode cX5_get 18 = .ok (.if_icmp .ge 12, 3) := by decide +kernel
theorem dX5_get_21 : decode cX5_get 21 = .ok (.aload_n 0, 1) := by decide +kernel
theorem dX5_get_22 : decode cX5_get 22 = .ok (.getfield 9, 3) := by decide +kernel
theorem dX5_get_25 : decode cX5_get 25 = .ok (.iload_n 1, 1) := by decide +kernel
theorem dX5_get_26 : decode cX5_get 26 = .ok (.iaload, 1) := by decide +kernel
theorem dX5_get_27 : decode cX5_get 27 = .ok (.goto 4, 3) := by decide +kernel
theorem dX5_get_30 : decode cX5_get 30 = .ok (.iconst 0, 1) := by decide +kernel
theorem dX5_get_31 : decode cX5_get 31 = .ok (.ireturn, 1) := by decide +kernel
theorem dX5_set_0 : decode cX5_set 0 = .ok (.iload_n 1, 1) := by decide +kernel
theorem dX5_set_1 : decode cX5_set 1 = .ok (.ifCond .lt 27, 3) := by decide +kernel
theorem dX5_set_4 : decode cX5_set 4 = .ok (.iload_n 1, 1) := by decide +kernel
theorem dX5_set_5 : decode cX5_set 5 = .ok (.aload_n 0, 1) := by decide +kernel
theorem dX5_set_6 : decode cX5_set 6 = .ok (.getfield 15, 3) := by decide +kernel
theorem dX5_set_9 : decode cX5_set 9 = .ok (.if_icmp .ge 19, 3) := by decide +kernel
theorem dX5_set_12 : decode cX5_set 12 = .ok (.iload_n 1, 1) := by decide +kernel
theorem dX5_set_13 : decode cX5_set 13 = .ok (.aload_n 0, 1) := by decide +kernel
theorem dX5_set_14 : decode cX5_set 14 = .ok (.getfield 9, 3) := by decide +kernel
theorem dX5_set_17 : decode cX5_set 17 = .ok (.arraylength, 1) := by decide +kernel
theorem dX5_set_18 : decode cX5_set 18 = .ok (.if_icmp .ge 10, 3) := by decide +kernel
theorem dX5_set_21 : decode cX5_set 21 = .ok (.aload_n 0, 1) := by decide +kernel
theorem dX5_set_22 : decode cX5_set 22 = .ok (.getfield 9, 3) := by decide +kernel
theorem dX5_set_25 : decode cX5_set 25 = .ok (.iload_n 1, 1) := by decide +kernel
theorem dX5_set_26 : decode cX5_set 26 = .ok (.iload_n 2, 1) := by decide +kernel
theorem dX5_set_27 : decode cX5_set 27 = .ok (.iastore, 1) := by decide +kernel
theorem dX5_set_28 : decode cX5_set 28 = .ok (.return_, 1) := by decide +kernel
theorem dX5_add_0 : decode cX5_add 0 = .ok (.aload_n 0, 1) := by decide +kernel
theorem dX5_add_1 : decode cX5_add 1 = .ok (.getfield 15, 3) := by decide +kernel
theorem dX5_add_4 : decode cX5_add 4 = .ok (.ifCond .lt 35, 3) := by decide +kernel
theorem dX5_add_7 : decode cX5_add 7 = .ok (.aload_n 0, 1) := by decide +kernel
theorem dX5_add_8 : decode cX5_add 8 = .ok (.getfield 15, 3) := by decide +kernel
theorem dX5_add_11 : decode cX5_add 11 = .ok (.aload_n 0, 1) := by decide +kernel
theorem dX5_add_12 : decode cX5_add 12 = .ok (.getfield 9, 3) := by decide +kernel
theorem dX5_add_15 : decode cX5_add 15 = .ok (.arraylength, 1) := by decide +kernel
theorem dX5_add_16 : decode cX5_add 16 = .ok (.if_icmp .ge 23, 3) := by decide +kernel
theorem dX5_add_19 : decode cX5_add 19 = .ok (.aload_n 0, 1) := by decide +kernel
theorem dX5_add_20 : decode cX5_add 20 = .ok (.getfield 9, 3) := by decide +kernel
theorem dX5_add_23 : decode cX5_add 23 = .ok (.aload_n 0, 1) := by decide +kernel
theorem dX5_add_24 : decode cX5_add 24 = .ok (.getfield 15, 3) := by decide +kernel
theorem dX5_add_27 : decode cX5_add 27 = .ok (.iload_n 1, 1) := by decide +kernel
theorem dX5_add_28 : decode cX5_add 28 = .ok (.iastore, 1) := by decide +kernel
theorem dX5_add_29 : decode cX5_add 29 = .ok (.aload_n 0, 1) := by decide +kernel
theorem dX5_add_30 : decode cX5_add 30 = .ok (.dup, 1) := by decide +kernel
theorem dX5_add_31 : decode cX5_add 31 = .ok (.getfield 15, 3) := by decide +kernel
theorem dX5_add_34 : decode cX5_add 34 = .ok (.iconst 1, 1) := by decide +kernel
theorem dX5_add_35 : decode cX5_add 35 = .ok (.iadd, 1) := by decide +kernel
theorem dX5_add_36 : decode cX5_add 36 = .ok (.putfield 15, 3) := by decide +kernel
theorem dX5_add_39 : decode cX5_add 39 = .ok (.return_, 1) := by decide +kernel
theorem dX5_last_0 : decode cX5_last 0 = .ok (.aload_n 0, 1) := by decide +kernel
theorem dX5_last_1 : decode cX5_last 1 = .ok (.getfield 15, 3) := by decide +kernel
theorem dX5_last_4 : decode cX5_last 4 = .ok (.ifCond .le 29, 3) := by decide +kernel
theorem dX5_last_7 : decode cX5_last 7 = .ok (.aload_n 0, 1) := by decide +kernel
theorem dX5_last_8 : decode cX5_last 8 = .ok (.getfield 15, 3) := by decide +kernel
theorem dX5_last_11 : decode cX5_last 11 = .ok (.aload_n 0, 1) := by decide +kernel
theorem dX5_last_12 : decode cX5_last 12 = .ok (.getfield 9, 3) := by decide +kernel
theorem dX5_last_15 : decode cX5_last 15 = .ok (.arraylength, 1) := by decide +kernel
theorem dX5_last_16 : decode cX5_last 16 = .ok (.if_icmp .gt 17, 3) := by decide +kernel
theorem dX5_last_19 : decode cX5_last 19 = .ok (.aload_n 0, 1) := by decide +kernel
theorem dX5_last_20 : decode cX5_last 20 = .ok (.getfield 9, 3) := by decide +kernel
theorem dX5_last_23 : decode cX5_last 23 = .ok (.aload_n 0, 1) := by decide +kernel
theorem dX5_last_24 : decode cX5_last 24 = .ok (.getfield 15, 3) := by decide +kernel
theorem dX5_last_27 : decode cX5_last 27 = .ok (.iconst 1, 1) := by decide +kernel
theorem dX5_last_28 : decode cX5_last 28 = .ok (.isub, 1) := by decide +kernel
theorem dX5_last_29 : decode cX5_last 29 = .ok (.iaload, 1) := by decide +kernel
theorem dX5_last_30 : decode cX5_last 30 = .ok (.goto 4, 3) := by decide +kernel
theorem dX5_last_33 : decode cX5_last 33 = .ok (.iconst 0, 1) := by decide +kernel
theorem dX5_last_34 : decode cX5_last 34 = .ok (.ireturn, 1) := by decide +kernel
theorem dX5_takeLast_0 : decode cX5_takeLast 0 = .ok (.aload_n 0, 1) := by decide +kernel
theorem dX5_takeLast_1 : decode cX5_takeLast 1 = .ok (.getfield 15, 3) := by decide +kernel
theorem dX5_takeLast_4 : decode cX5_takeLast 4 = .ok (.iconst 1, 1) := by decide +kernel
theorem dX5_takeLast_5 : decode cX5_takeLast 5 = .ok (.if_icmp .lt 15, 3) := by decide +kernel
theorem dX5_takeLast_8 : decode cX5_takeLast 8 = .ok (.aload_n 0, 1) := by decide +kernel
theorem dX5_takeLast_9 : decode cX5_takeLast 9 = .ok (.getfield 15, 3) := by decide +kernel
theorem dX5_takeLast_12 : decode cX5_takeLast 12 = .ok (.aload_n 0, 1) := by decide +kernel
theorem dX5_takeLast_13 : decode cX5_takeLast 13 = .ok (.getfield 9, 3) := by decide +kernel
theorem dX5_takeLast_16 : decode cX5_takeLast 16 = .ok (.arraylength, 1) := by decide +kernel
theorem dX5_takeLast_17 : decode cX5_takeLast 17 = .ok (.if_icmp .le 5, 3) := by decide +kernel
theorem dX5_takeLast_20 : decode cX5_takeLast 20 = .ok (.iconst 0, 1) := by decide +kernel
theorem dX5_takeLast_21 : decode cX5_takeLast 21 = .ok (.ireturn, 1) := by decide +kernel
theorem dX5_takeLast_22 : decode cX5_takeLast 22 = .ok (.aload_n 0, 1) := by decide +kernel
theorem dX5_takeLast_23 : decode cX5_takeLast 23 = .ok (.dup, 1) := by decide +kernel
theorem dX5_takeLast_24 : decode cX5_takeLast 24 = .ok (.getfield 15, 3) := by decide +kernel
theorem dX5_takeLast_27 : decode cX5_takeLast 27 = .ok (.iconst 1, 1) := by decide +kernel
theorem dX5_takeLast_28 : decode cX5_takeLast 28 = .ok (.isub, 1) := by decide +kernel
theorem dX5_takeLast_29 : decode cX5_takeLast 29 = .ok (.putfield 15, 3) := by decide +kernel
theorem dX5_takeLast_32 : decode cX5_takeLast 32 = .ok (.aload_n 0, 1) := by decide +kernel
theorem dX5_takeLast_33 : decode cX5_takeLast 33 = .ok (.getfield 9, 3) := by decide +kernel
theorem dX5_takeLast_36 : decode cX5_takeLast 36 = .ok (.aload_n 0, 1) := by decide +kernel
theorem dX5_takeLast_37 : decode cX5_takeLast 37 = .ok (.getfield 15, 3) := by decide +kernel
theorem dX5_takeLast_40 : decode cX5_takeLast 40 = .ok (.iaload, 1) := by decide +kernel
theorem dX5_takeLast_41 : decode cX5_takeLast 41 = .ok (.ireturn, 1) := by decide +kernel
theorem dX5_cut_0 : decode cX5_cut 0 = .ok (.iload_n 1, 1) := by decide +kernel
theorem dX5_cut_1 : decode cX5_cut 1 = .ok (.ifCond .lt 16, 3) := by decide +kernel
theorem dX5_cut_4 : decode cX5_cut 4 = .ok (.iload_n 1, 1) := by decide +kernel
theorem dX5_cut_5 : decode cX5_cut 5 = .ok (.aload_n 0, 1) := by decide +kernel
theorem dX5_cut_6 : decode cX5_cut 6 = .ok (.getfield 15, 3) := by decide +kernel
theorem dX5_cut_9 : decode cX5_cut 9 = .ok (.if_icmp .ge 8, 3) := by decide +kernel
theorem dX5_cut_12 : decode cX5_cut 12 = .ok (.aload_n 0, 1) := by decide +kernel
theorem dX5_cut_13 : decode cX5_cut 13 = .ok (.iload_n 1, 1) := by decide +kernel
theorem dX5_cut_14 : decode cX5_cut 14 = .ok (.putfield 15, 3) := by decide +kernel
theorem dX5_cut_17 : decode cX5_cut 17 = .ok (.return_, 1) := by decide +kernel
theorem dX5_empty_0 : decode cX5_empty 0 = .ok (.aload_n 0, 1) := by decide +kernel
theorem dX5_empty_1 : decode cX5_empty 1 = .ok (.iconst 0, 1) := by decide +kernel
theorem dX5_empty_2 : decode cX5_empty 2 = .ok (.putfield 15, 3) := by decide +kernel
theorem dX5_empty_5 : decode cX5_empty 5 = .ok (.return_, 1) := by decide +kernel
theorem dX5_fillWithZeros_0 : decode cX5_fillWithZeros 0 = .ok (.aload_n 0, 1) := by decide +kernel
theorem dX5_fillWithZeros_1 : decode cX5_fillWithZeros 1 = .ok (.aload_n 0, 1) := by decide +kernel
theorem dX5_fillWithZeros_2 : decode cX5_fillWithZeros 2 = .ok (.getfield 9, 3) := by decide +kernel
theorem dX5_fillWithZeros_5 : decode cX5_fillWithZeros 5 = .ok (.arraylength, 1) := by decide +kernel
theorem dX5_fillWithZeros_6 : decode cX5_fillWithZeros 6 = .ok (.putfield 15, 3) := by decide +kernel
theorem dX5_fillWithZeros_9 : decode cX5_fillWithZeros 9 = .ok (.iconst 0, 1) := by decide +kernel
theorem dX5_fillWithZeros_10 : decode cX5_fillWithZeros 10 = .ok (.istore_n 1, 1) := by decide +kernel
theorem dX5_fillWithZeros_11 : decode cX5_fillWithZeros 11 = .ok (.iload_n 1, 1) := by decide +kernel
theorem dX5_fillWithZeros_12 : decode cX5_fillWithZeros 12 = .ok (.aload_n 0, 1) := by decide +kernel
theorem dX5_fillWithZeros_13 : decode cX5_fillWithZeros 13 = .ok (.getfield 9, 3) := by decide +kernel
theorem dX5_fillWithZeros_16 : decode cX5_fillWithZeros 16 = .ok (.arraylength, 1) := by decide +kernel
theorem dX5_fillWithZeros_17 : decode cX5_fillWithZeros 17 = .ok (.if_icmp .ge 16, 3) := by decide +kernel
theorem dX5_fillWithZeros_20 : decode cX5_fillWithZeros 20 = .ok (.aload_n 0, 1) := by decide +kernel
theorem dX5_fillWithZeros_21 : decode cX5_fillWithZeros 21 = .ok (.getfield 9, 3) := by decide +kernel
theorem dX5_fillWithZeros_24 : decode cX5_fillWithZeros 24 = .ok (.iload_n 1, 1) := by decide +kernel
theorem dX5_fillWithZeros_25 : decode cX5_fillWithZeros 25 = .ok (.iconst 0, 1) := by decide +kernel
theorem dX5_fillWithZeros_26 : decode cX5_fillWithZeros 26 = .ok (.iastore, 1) := by decide +kernel
theorem dX5_fillWithZeros_27 : decode cX5_fillWithZeros 27 = .ok (.iinc 1 1, 3) := by decide +kernel
theorem dX5_fillWithZeros_30 : decode cX5_fillWithZeros 30 = .ok (.goto (-19), 3) := by decide +kernel
theorem dX5_fillWithZeros_33 : decode cX5_fillWithZeros 33 = .ok (.return_, 1) := by decide +kernel
theorem dX5_placeOf_0 : decode cX5_placeOf 0 = .ok (.iconst 0, 1) := by decide +kernel
theorem dX5_placeOf_1 : decode cX5_placeOf 1 = .ok (.istore_n 2, 1) := by decide +kernel
theorem dX5_placeOf_2 : decode cX5_placeOf 2 = .ok (.iload_n 2, 1) := by decide +kernel
theorem dX5_placeOf_3 : decode cX5_placeOf 3 = .ok (.aload_n 0, 1) := by decide +kernel
theorem dX5_placeOf_4 : decode cX5_placeOf 4 = .ok (.getfield 15, 3) := by decide +kernel
theorem dX5_placeOf_7 : decode cX5_placeOf 7 = .ok (.if_icmp .ge 30, 3) := by decide +kernel
theorem dX5_placeOf_10 : decode cX5_placeOf 10 = .ok (.iload_n 2, 1) := by decide +kernel
theorem dX5_placeOf_11 : decode cX5_placeOf 11 = .ok (.aload_n 0, 1) := by decide +kernel
theorem dX5_placeOf_12 : decode cX5_placeOf 12 = .ok (.getfield 9, 3) := by decide +kernel
theorem dX5_placeOf_15 : decode cX5_placeOf 15 = .ok (.arraylength, 1) := by decide +kernel
theorem dX5_placeOf_16 : decode cX5_placeOf 16 = .ok (.if_icmp .ge 21, 3) := by decide +kernel
theorem dX5_placeOf_19 : decode cX5_placeOf 19 = .ok (.aload_n 0, 1) := by decide +kernel
theorem dX5_placeOf_20 : decode cX5_placeOf 20 = .ok (.getfield 9, 3) := by decide +kernel
theorem dX5_placeOf_23 : decode cX5_placeOf 23 = .ok (.iload_n 2, 1) := by decide +kernel
theorem dX5_placeOf_24 : decode cX5_placeOf 24 = .ok (.iaload, 1) := by decide +kernel
theorem dX5_placeOf_25 : decode cX5_placeOf 25 = .ok (.iload_n 1, 1) := by decide +kernel
theorem dX5_placeOf_26 : decode cX5_placeOf 26 = .ok (.if_icmp .ne 5, 3) := by decide +kernel
theorem dX5_placeOf_29 : decode cX5_placeOf 29 = .ok (.iload_n 2, 1) := by decide +kernel
theorem dX5_placeOf_30 : decode cX5_placeOf 30 = .ok (.ireturn, 1) := by decide +kernel
theorem dX5_placeOf_31 : decode cX5_placeOf 31 = .ok (.iinc 2 1, 3) := by decide +kernel
theorem dX5_placeOf_34 : decode cX5_placeOf 34 = .ok (.goto (-32), 3) := by decide +kernel
theorem dX5_placeOf_37 : decode cX5_placeOf 37 = .ok (.iconst (-1), 1) := by decide +kernel
theorem dX5_placeOf_38 : decode cX5_placeOf 38 = .ok (.ireturn, 1) := by decide +kernel
theorem dX6_init_0 : decode cX6_init 0 = .ok (.aload_n 0, 1) := by decide +kernel
theorem dX6_init_1 : decode cX6_init 1 = .ok (.invokespecial 3, 3) := by decide +kernel
theorem dX6_init_4 : decode cX6_init 4 = .ok (.aload_n 0, 1) := by decide +kernel
theorem dX6_init_5 : decode cX6_init 5 = .ok (.new 9, 3) := by decide +kernel
theorem dX6_init_8 : decode cX6_init 8 = .ok (.dup, 1) := by decide +kernel
theorem dX6_init_9 : decode cX6_init 9 = .ok (.bipush 8, 2) := by decide +kernel
theorem dX6_init_11 : decode cX6_init 11 = .ok (.invokespecial 11, 3) := by decide +kernel
theorem dX6_init_14 : decode cX6_init 14 = .ok (.putfield 14, 3) := by decide +kernel
theorem dX6_init_17 : decode cX6_init 17 = .ok (.aload_n 0, 1) := by decide +kernel
theorem dX6_init_18 : decode cX6_init 18 = .ok (.new 9, 3) := by decide +kernel
theorem dX6_init_21 : decode cX6_init 21 = .ok (.dup, 1) := by decide +kernel
theorem dX6_init_22 : decode cX6_init 22 = .ok (.bipush 32, 2) := by decide +kernel
theorem dX6_init_24 : decode cX6_init 24 = .ok (.invokespecial 11, 3) := by decide +kernel
theorem dX6_init_27 : decode cX6_init 27 = .ok (.putfield 20, 3) := by decide +kernel
theorem dX6_init_30 : decode cX6_init 30 = .ok (.aload_n 0, 1) := by decide +kernel
theorem dX6_init_31 : decode cX6_init 31 = .ok (.new 9, 3) := by decide +kernel
theorem dX6_init_34 : decode cX6_init 34 = .ok (.dup, 1) := by decide +kernel
theorem dX6_init_35 : decode cX6_init 35 = .ok (.bipush 88, 2) := by decide +kernel
theorem dX6_init_37 : decode cX6_init 37 = .ok (.invokespecial 11, 3) := by decide +kernel
theorem dX6_init_40 : decode cX6_init 40 = .ok (.putfield 23, 3) := by decide +kernel
theorem dX6_init_43 : decode cX6_init 43 = .ok (.aload_n 0, 1) := by decide +kernel
theorem dX6_init_44 : decode cX6_init 44 = .ok (.new 9, 3) := by decide +kernel
theorem dX6_init_47 : decode cX6_init 47 = .ok (.dup, 1) := by decide +kernel
theorem dX6_init_48 : decode cX6_init 48 = .ok (.bipush 10, 2) := by decide +kernel
theorem dX6_init_50 : decode cX6_init 50 = .ok (.invokespecial 11, 3) := by decide +kernel
theorem dX6_init_53 : decode cX6_init 53 = .ok (.putfield 26, 3) := by decide +kernel
theorem dX6_init_56 : decode cX6_init 56 = .ok (.aload_n 0, 1) := by decide +kernel
theorem dX6_init_57 : decode cX6_init 57 = .ok (.iconst 0, 1) := by decide +kernel
theorem dX6_init_58 : decode cX6_init 58 = .ok (.putfield 29, 3) := by decide +kernel
theorem dX6_init_61 : decode cX6_init 61 = .ok (.aload_n 0, 1) := by decide +kernel
theorem dX6_init_62 : decode cX6_init 62 = .ok (.getfield 20, 3) := by decide +kernel
theorem dX6_init_65 : decode cX6_init 65 = .ok (.invokevirtual 33, 3) := by decide +kernel
theorem dX6_init_68 : decode cX6_init 68 = .ok (.aload_n 0, 1) := by decide +kernel
theorem dX6_init_69 : decode cX6_init 69 = .ok (.getfield 23, 3) := by decide +kernel
theorem dX6_init_72 : decode cX6_init 72 = .ok (.invokevirtual 33, 3) := by decide +kernel
theorem dX6_init_75 : decode cX6_init 75 = .ok (.return_, 1) := by decide +kernel
theorem dX6_begin_0 : decode cX6_begin 0 = .ok (.aload_n 0, 1) := by decide +kernel
theorem dX6_begin_1 : decode cX6_begin 1 = .ok (.getfield 14, 3) := by decide +kernel
theorem dX6_begin_4 : decode cX6_begin 4 = .ok (.invokevirtual 36, 3) := by decide +kernel
theorem dX6_begin_7 : decode cX6_begin 7 = .ok (.aload_n 0, 1) := by decide +kernel
theorem dX6_begin_8 : decode cX6_begin 8 = .ok (.getfield 20, 3) := by decide +kernel
theorem dX6_begin_11 : decode cX6_begin 11 = .ok (.invokevirtual 33, 3) := by decide +kernel
theorem dX6_begin_14 : decode cX6_begin 14 = .ok (.aload_n 0, 1) := by decide +kernel
theorem dX6_begin_15 : decode cX6_begin 15 = .ok (.getfield 23, 3) := by decide +kernel
theorem dX6_begin_18 : decode cX6_begin 18 = .ok (.invokevirtual 33, 3) := by decide +kernel
theorem dX6_begin_21 : decode cX6_begin 21 = .ok (.aload_n 0, 1) := by decide +kernel
theorem dX6_begin_22 : decode cX6_begin 22 = .ok (.getfield 26, 3) := by decide +kernel
theorem dX6_begin_25 : decode cX6_begin 25 = .ok (.invokevirtual 36, 3) := by decide +kernel
theorem dX6_begin_28 : decode cX6_begin 28 = .ok (.aload_n 0, 1) := by decide +kernel
theorem dX6_begin_29 : decode cX6_begin 29 = .ok (.iload_n 1, 1) := by decide +kernel
theorem dX6_begin_30 : decode cX6_begin 30 = .ok (.putfield 39, 3) := by decide +kernel
theorem dX6_begin_33 : decode cX6_begin 33 = .ok (.aload_n 0, 1) := by decide +kernel
theorem dX6_begin_34 : decode cX6_begin 34 = .ok (.iload_n 2, 1) := by decide +kernel
theorem dX6_begin_35 : decode cX6_begin 35 = .ok (.putfield 42, 3) := by decide +kernel
theorem dX6_begin_38 : decode cX6_begin 38 = .ok (.aload_n 0, 1) := by decide +kernel
theorem dX6_begin_39 : decode cX6_begin 39 = .ok (.iload_n 3, 1) := by decide +kernel
theorem dX6_begin_40 : decode cX6_begin 40 = .ok (.putfield 45, 3) := by decide +kernel
theorem dX6_begin_43 : decode cX6_begin 43 = .ok (.aload_n 0, 1) := by decide +kernel
theorem dX6_begin_44 : decode cX6_begin 44 = .ok (.iconst 0, 1) := by decide +kernel
theorem dX6_begin_45 : decode cX6_begin 45 = .ok (.putfield 48, 3) := by decide +kernel
theorem dX6_begin_48 : decode cX6_begin 48 = .ok (.aload_n 0, 1) := by decide +kernel
theorem dX6_begin_49 : decode cX6_begin 49 = .ok (.iconst (-1), 1) := by decide +kernel
theorem dX6_begin_50 : decode cX6_begin 50 = .ok (.putfield 29, 3) := by decide +kernel
theorem dX6_begin_53 : decode cX6_begin 53 = .ok (.return_, 1) := by decide +kernel
theorem dX6_isGoing_0 : decode cX6_isGoing 0 = .ok (.aload_n 0, 1) := by decide +kernel
theorem dX6_isGoing_1 : decode cX6_isGoing 1 = .ok (.getfield 29, 3) := by decide +kernel
theorem dX6_isGoing_4 : decode cX6_isGoing 4 = .ok (.iconst (-1), 1) := by decide +kernel
theorem dX6_isGoing_5 : decode cX6_isGoing 5 = .ok (.if_icmp .ne 7, 3) := by decide +kernel
theorem dX6_isGoing_8 : decode cX6_isGoing 8 = .ok (.iconst 1, 1) := by decide +kernel
theorem dX6_isGoing_9 : decode cX6_isGoing 9 = .ok (.goto 4, 3) := by decide +kernel
theorem dX6_isGoing_12 : decode cX6_isGoing 12 = .ok (.iconst 0, 1) := by decide +kernel
theorem dX6_isGoing_13 : decode cX6_isGoing 13 = .ok (.ireturn, 1) := by decide +kernel
theorem dX6_end_0 : decode cX6_end 0 = .ok (.aload_n 0, 1) := by decide +kernel
theorem dX6_end_1 : decode cX6_end 1 = .ok (.getfield 29, 3) := by decide +kernel
theorem dX6_end_4 : decode cX6_end 4 = .ok (.ireturn, 1) := by decide +kernel
theorem dX6_fuel_0 : decode cX6_fuel 0 = .ok (.aload_n 0, 1) := by decide +kernel
theorem dX6_fuel_1 : decode cX6_fuel 1 = .ok (.getfield 39, 3) := by decide +kernel
theorem dX6_fuel_4 : decode cX6_fuel 4 = .ok (.ireturn, 1) := by decide +kernel
theorem dX6_outputCount_0 : decode cX6_outputCount 0 = .ok (.aload_n 0, 1) := by decide +kernel
theorem dX6_outputCount_1 : decode cX6_outputCount 1 = .ok (.getfield 14, 3) := by decide +kernel
theorem dX6_outputCount_4 : decode cX6_outputCount 4 = .ok (.invokevirtual 51, 3) := by decide +kernel
theorem dX6_outputCount_7 : decode cX6_outputCount 7 = .ok (.ireturn, 1) := by decide +kernel
theorem dX6_output_0 : decode cX6_output 0 = .ok (.aload_n 0, 1) := by decide +kernel
theorem dX6_output_1 : decode cX6_output 1 = .ok (.getfield 14, 3) := by decide +kernel
theorem dX6_output_4 : decode cX6_output 4 = .ok (.iload_n 1, 1) := by decide +kernel
theorem dX6_output_5 : decode cX6_output 5 = .ok (.invokevirtual 55, 3) := by decide +kernel
theorem dX6_output_8 : decode cX6_output 8 = .ok (.ireturn, 1) := by decide +kernel
theorem dX6_cell_0 : decode cX6_cell 0 = .ok (.aload_n 0, 1) := by decide +kernel
theorem dX6_cell_1 : decode cX6_cell 1 = .ok (.getfield 20, 3) := by decide +kernel
theorem dX6_cell_4 : decode cX6_cell 4 = .ok (.iload_n 1, 1) := by decide +kernel
theorem dX6_cell_5 : decode cX6_cell 5 = .ok (.invokevirtual 55, 3) := by decide +kernel
theorem dX6_cell_8 : decode cX6_cell 8 = .ok (.ireturn, 1) := by decide +kernel
theorem dX6_stop_0 : decode cX6_stop 0 = .ok (.aload_n 0, 1) := by decide +kernel
theorem dX6_stop_1 : decode cX6_stop 1 = .ok (.getfield 29, 3) := by decide +kernel
theorem dX6_stop_4 : decode cX6_stop 4 = .ok (.iconst (-1), 1) := by decide +kernel
theorem dX6_stop_5 : decode cX6_stop 5 = .ok (.if_icmp .ne 8, 3) := by decide +kernel
theorem dX6_stop_8 : decode cX6_stop 8 = .ok (.aload_n 0, 1) := by decide +kernel
theorem dX6_stop_9 : decode cX6_stop 9 = .ok (.iload_n 1, 1) := by decide +kernel
theorem dX6_stop_10 : decode cX6_stop 10 = .ok (.putfield 29, 3) := by decide +kernel
theorem dX6_stop_13 : decode cX6_stop 13 = .ok (.return_, 1) := by decide +kernel
theorem dX6_takeFuel_0 : decode cX6_takeFuel 0 = .ok (.aload_n 0, 1) := by decide +kernel
theorem dX6_takeFuel_1 : decode cX6_takeFuel 1 = .ok (.getfield 39, 3) := by decide +kernel
theorem dX6_takeFuel_4 : decode cX6_takeFuel 4 = .ok (.iconst 1, 1) := by decide +kernel
theorem dX6_takeFuel_5 : decode cX6_takeFuel 5 = .ok (.if_icmp .ge 11, 3) := by decide +kernel
theorem dX6_takeFuel_8 : decode cX6_takeFuel 8 = .ok (.aload_n 0, 1) := by decide +kernel
theorem dX6_takeFuel_9 : decode cX6_takeFuel 9 = .ok (.iconst 1, 1) := by decide +kernel
theorem dX6_takeFuel_10 : decode cX6_takeFuel 10 = .ok (.invokevirtual 59, 3) := by decide +kernel
theorem dX6_takeFuel_13 : decode cX6_takeFuel 13 = .ok (.goto 13, 3) := by decide +kernel
theorem dX6_takeFuel_16 : decode cX6_takeFuel 16 = .ok (.aload_n 0, 1) := by decide +kernel
theorem dX6_takeFuel_17 : decode cX6_takeFuel 17 = .ok (.dup, 1) := by decide +kernel
theorem dX6_takeFuel_18 : decode cX6_takeFuel 18 = .ok (.getfield 39, 3) := by decide +kernel
theorem dX6_takeFuel_21 : decode cX6_takeFuel 21 = .ok (.iconst 1, 1) := by decide +kernel
theorem dX6_takeFuel_22 : decode cX6_takeFuel 22 = .ok (.isub, 1) := by decide +kernel
theorem dX6_takeFuel_23 : decode cX6_takeFuel 23 = .ok (.putfield 39, 3) := by decide +kernel
theorem dX6_takeFuel_26 : decode cX6_takeFuel 26 = .ok (.aload_n 0, 1) := by decide +kernel
theorem dX6_takeFuel_27 : decode cX6_takeFuel 27 = .ok (.invokevirtual 62, 3) := by decide +kernel
theorem dX6_takeFuel_30 : decode cX6_takeFuel 30 = .ok (.ireturn, 1) := by decide +kernel
theorem dX6_input_0 : decode cX6_input 0 = .ok (.aload_n 0, 1) := by decide +kernel
theorem dX6_input_1 : decode cX6_input 1 = .ok (.invokevirtual 66, 3) := by decide +kernel
theorem dX6_input_4 : decode cX6_input 4 = .ok (.ifCond .ne 5, 3) := by decide +kernel
theorem dX6_input_7 : decode cX6_input 7 = .ok (.iconst 0, 1) := by decide +kernel
theorem dX6_input_8 : decode cX6_input 8 = .ok (.ireturn, 1) := by decide +kernel
theorem dX6_input_9 : decode cX6_input 9 = .ok (.aload_n 0, 1) := by decide +kernel
theorem dX6_input_10 : decode cX6_input 10 = .ok (.dup, 1) := by decide +kernel
theorem dX6_input_11 : decode cX6_input 11 = .ok (.getfield 48, 3) := by decide +kernel
theorem dX6_input_14 : decode cX6_input 14 = .ok (.iconst 1, 1) := by decide +kernel
theorem dX6_input_15 : decode cX6_input 15 = .ok (.iadd, 1) := by decide +kernel
theorem dX6_input_16 : decode cX6_input 16 = .ok (.putfield 48, 3) := by decide +kernel
theorem dX6_input_19 : decode cX6_input 19 = .ok (.aload_n 0, 1) := by decide +kernel
theorem dX6_input_20 : decode cX6_input 20 = .ok (.getfield 48, 3) := by decide +kernel
theorem dX6_input_23 : decode cX6_input 23 = .ok (.iconst 2, 1) := by decide +kernel
theorem dX6_input_24 : decode cX6_input 24 = .ok (.if_icmp .le 10, 3) := by decide +kernel
theorem dX6_input_27 : decode cX6_input 27 = .ok (.aload_n 0, 1) := by decide +kernel
theorem dX6_input_28 : decode cX6_input 28 = .ok (.iconst 5, 1) := by decide +kernel
theorem dX6_input_29 : decode cX6_input 29 = .ok (.invokevirtual 59, 3) := by decide +kernel
theorem dX6_input_32 : decode cX6_input 32 = .ok (.iconst 0, 1) := by decide +kernel
theorem dX6_input_33 : decode cX6_input 33 = .ok (.ireturn, 1) := by decide +kernel
theorem dX6_input_34 : decode cX6_input 34 = .ok (.aload_n 0, 1) := by decide +kernel
theorem dX6_input_35 : decode cX6_input 35 = .ok (.getfield 48, 3) := by decide +kernel
theorem dX6_input_38 : decode cX6_input 38 = .ok (.iconst 1, 1) := by decide +kernel
theorem dX6_input_39 : decode cX6_input 39 = .ok (.if_icmp .ne 10, 3) := by decide +kernel
theorem dX6_input_42 : decode cX6_input 42 = .ok (.aload_n 0, 1) := by decide +kernel
theorem dX6_input_43 : decode cX6_input 43 = .ok (.getfield 42, 3) := by decide +kernel
theorem dX6_input_46 : decode cX6_input 46 = .ok (.goto 7, 3) := by decide +kernel
theorem dX6_input_49 : decode cX6_input 49 = .ok (.aload_n 0, 1) := by decide +kernel
theorem dX6_input_50 : decode cX6_input 50 = .ok (.getfield 45, 3) := by decide +kernel
theorem dX6_input_53 : decode cX6_input 53 = .ok (.ireturn, 1) := by decide +kernel
theorem dX6_put_0 : decode cX6_put 0 = .ok (.aload_n 0, 1) := by decide +kernel
theorem dX6_put_1 : decode cX6_put 1 = .ok (.getfield 14, 3) := by decide +kernel
theorem dX6_put_4 : decode cX6_put 4 = .ok (.invokevirtual 51, 3) := by decide +kernel
theorem dX6_put_7 : decode cX6_put 7 = .ok (.bipush 8, 2) := by decide +kernel
theorem dX6_put_9 : decode cX6_put 9 = .ok (.if_icmp .lt 12, 3) := by decide +kernel
theorem dX6_put_12 : decode cX6_put 12 = .ok (.aload_n 0, 1) := by decide +kernel
theorem dX6_put_13 : decode cX6_put 13 = .ok (.bipush 6, 2) := by decide +kernel
theorem dX6_put_15 : decode cX6_put 15 = .ok (.invokevirtual 59, 3) := by decide +kernel
theorem dX6_put_18 : decode cX6_put 18 = .ok (.goto 11, 3) := by decide +kernel
theorem dX6_put_21 : decode cX6_put 21 = .ok (.aload_n 0, 1) := by decide +kernel
theorem dX6_put_22 : decode cX6_put 22 = .ok (.getfield 14, 3) := by decide +kernel
theorem dX6_put_25 : decode cX6_put 25 = .ok (.iload_n 1, 1) := by decide +kernel
theorem dX6_put_26 : decode cX6_put 26 = .ok (.invokevirtual 69, 3) := by decide +kernel
theorem dX6_put_29 : decode cX6_put 29 = .ok (.return_, 1) := by decide +kernel
theorem dX6_setCell_0 : decode cX6_setCell 0 = .ok (.iload_n 1, 1) := by decide +kernel
theorem dX6_setCell_1 : decode cX6_setCell 1 = .ok (.ifCond .lt 9, 3) := by decide +kernel
theorem dX6_setCell_4 : decode cX6_setCell 4 = .ok (.iload_n 1, 1) := by decide +kernel
theorem dX6_setCell_5 : decode cX6_setCell 5 = .ok (.bipush 32, 2) := by decide +kernel
theorem dX6_setCell_7 : decode cX6_setCell 7 = .ok (.if_icmp .lt 11, 3) := by decide +kernel
theorem dX6_setCell_10 : decode cX6_setCell 10 = .ok (.aload_n 0, 1) := by decide +kernel
theorem dX6_setCell_11 : decode cX6_setCell 11 = .ok (.iconst 4, 1) := by decide +kernel
theorem dX6_setCell_12 : decode cX6_setCell 12 = .ok (.invokevirtual 59, 3) := by decide +kernel
theorem dX6_setCell_15 : decode cX6_setCell 15 = .ok (.goto 12, 3) := by decide +kernel
theorem dX6_setCell_18 : decode cX6_setCell 18 = .ok (.aload_n 0, 1) := by decide +kernel
theorem dX6_setCell_19 : decode cX6_setCell 19 = .ok (.getfield 20, 3) := by decide +kernel
theorem dX6_setCell_22 : decode cX6_setCell 22 = .ok (.iload_n 1, 1) := by decide +kernel
theorem dX6_setCell_23 : decode cX6_setCell 23 = .ok (.iload_n 2, 1) := by decide +kernel
theorem dX6_setCell_24 : decode cX6_setCell 24 = .ok (.invokevirtual 72, 3) := by decide +kernel
theorem dX6_setCell_27 : decode cX6_setCell 27 = .ok (.return_, 1) := by decide +kernel
theorem dX6_variable_0 : decode cX6_variable 0 = .ok (.aload_n 0, 1) := by decide +kernel
theorem dX6_variable_1 : decode cX6_variable 1 = .ok (.getfield 23, 3) := by decide +kernel
theorem dX6_variable_4 : decode cX6_variable 4 = .ok (.aload_n 0, 1) := by decide +kernel
theorem dX6_variable_5 : decode cX6_variable 5 = .ok (.getfield 26, 3) := by decide +kernel
theorem dX6_variable_8 : decode cX6_variable 8 = .ok (.invokevirtual 51, 3) := by decide +kernel
theorem dX6_variable_11 : decode cX6_variable 11 = .ok (.bipush 8, 2) := by decide +kernel
theorem dX6_variable_13 : decode cX6_variable 13 = .ok (.imul, 1) := by decide +kernel
theorem dX6_variable_14 : decode cX6_variable 14 = .ok (.iload_n 1, 1) := by decide +kernel
theorem dX6_variable_15 : decode cX6_variable 15 = .ok (.iadd, 1) := by decide +kernel
theorem dX6_variable_16 : decode cX6_variable 16 = .ok (.invokevirtual 55, 3) := by decide +kernel
theorem dX6_variable_19 : decode cX6_variable 19 = .ok (.ireturn, 1) := by decide +kernel
theorem dX6_setVariable_0 : decode cX6_setVariable 0 = .ok (.aload_n 0, 1) := by decide +kernel
theorem dX6_setVariable_1 : decode cX6_setVariable 1 = .ok (.getfield 23, 3) := by decide +kernel
theorem dX6_setVariable_4 : decode cX6_setVariable 4 = .ok (.aload_n 0, 1) := by decide +kernel
theorem dX6_setVariable_5 : decode cX6_setVariable 5 = .ok (.getfield 26, 3) := by decide +kernel
theorem dX6_setVariable_8 : decode cX6_setVariable 8 = .ok (.invokevirtual 51, 3) := by decide +kernel
theorem dX6_setVariable_11 : decode cX6_setVariable 11 = .ok (.bipush 8, 2) := by decide +kernel
theorem dX6_setVariable_13 : decode cX6_setVariable 13 = .ok (.imul, 1) := by decide +kernel
theorem dX6_setVariable_14 : decode cX6_setVariable 14 = .ok (.iload_n 1, 1) := by decide +kernel
theorem dX6_setVariable_15 : decode cX6_setVariable 15 = .ok (.iadd, 1) := by decide +kernel
theorem dX6_setVariable_16 : decode cX6_setVariable 16 = .ok (.iload_n 2, 1) := by decide +kernel
theorem dX6_setVariable_17 : decode cX6_setVariable 17 = .ok (.invokevirtual 72, 3) := by decide +kernel
theorem dX6_setVariable_20 : decode cX6_setVariable 20 = .ok (.return_, 1) := by decide +kernel
theorem dX6_enter_0 : decode cX6_enter 0 = .ok (.aload_n 0, 1) := by decide +kernel
theorem dX6_enter_1 : decode cX6_enter 1 = .ok (.invokevirtual 66, 3) := by decide +kernel
theorem dX6_enter_4 : decode cX6_enter 4 = .ok (.ifCond .ne 5, 3) := by decide +kernel
theorem dX6_enter_7 : decode cX6_enter 7 = .ok (.iconst 0, 1) := by decide +kernel
theorem dX6_enter_8 : decode cX6_enter 8 = .ok (.ireturn, 1) := by decide +kernel
theorem dX6_enter_9 : decode cX6_enter 9 = .ok (.aload_n 0, 1) := by decide +kernel
theorem dX6_enter_10 : decode cX6_enter 10 = .ok (.getfield 26, 3) := by decide +kernel
theorem dX6_enter_13 : decode cX6_enter 13 = .ok (.invokevirtual 51, 3) := by decide +kernel
theorem dX6_enter_16 : decode cX6_enter 16 = .ok (.bipush 10, 2) := by decide +kernel
theorem dX6_enter_18 : decode cX6_enter 18 = .ok (.if_icmp .lt 11, 3) := by decide +kernel
theorem dX6_enter_21 : decode cX6_enter 21 = .ok (.aload_n 0, 1) := by decide +kernel
theorem dX6_enter_22 : decode cX6_enter 22 = .ok (.bipush 7, 2) := by decide +kernel
theorem dX6_enter_24 : decode cX6_enter 24 = .ok (.invokevirtual 59, 3) := by decide +kernel
theorem dX6_enter_27 : decode cX6_enter 27 = .ok (.iconst 0, 1) := by decide +kernel
theorem dX6_enter_28 : decode cX6_enter 28 = .ok (.ireturn, 1) := by decide +kernel
theorem dX6_enter_29 : decode cX6_enter 29 = .ok (.aload_n 0, 1) := by decide +kernel
theorem dX6_enter_30 : decode cX6_enter 30 = .ok (.getfield 26, 3) := by decide +kernel
theorem dX6_enter_33 : decode cX6_enter 33 = .ok (.iload_n 1, 1) := by decide +kernel
theorem dX6_enter_34 : decode cX6_enter 34 = .ok (.invokevirtual 69, 3) := by decide +kernel
theorem dX6_enter_37 : decode cX6_enter 37 = .ok (.iconst 0, 1) := by decide +kernel
theorem dX6_enter_38 : decode cX6_enter 38 = .ok (.istore_n 2, 1) := by decide +kernel
theorem dX6_enter_39 : decode cX6_enter 39 = .ok (.iload_n 2, 1) := by decide +kernel
theorem dX6_enter_40 : decode cX6_enter 40 = .ok (.bipush 8, 2) := by decide +kernel
theorem dX6_enter_42 : decode cX6_enter 42 = .ok (.if_icmp .ge 15, 3) := by decide +kernel
theorem dX6_enter_45 : decode cX6_enter 45 = .ok (.aload_n 0, 1) := by decide +kernel
theorem dX6_enter_46 : decode cX6_enter 46 = .ok (.iload_n 2, 1) := by decide +kernel
theorem dX6_enter_47 : decode cX6_enter 47 = .ok (.iconst 0, 1) := by decide +kernel
theorem dX6_enter_48 : decode cX6_enter 48 = .ok (.invokevirtual 76, 3) := by decide +kernel
theorem dX6_enter_51 : decode cX6_enter 51 = .ok (.iinc 2 1, 3) := by decide +kernel
theorem dX6_enter_54 : decode cX6_enter 54 = .ok (.goto (-15), 3) := by decide +kernel
theorem dX6_enter_57 : decode cX6_enter 57 = .ok (.iconst 1, 1) := by decide +kernel
theorem dX6_enter_58 : decode cX6_enter 58 = .ok (.ireturn, 1) := by decide +kernel
theorem dX6_leave_0 : decode cX6_leave 0 = .ok (.aload_n 0, 1) := by decide +kernel
theorem dX6_leave_1 : decode cX6_leave 1 = .ok (.getfield 26, 3) := by decide +kernel
theorem dX6_leave_4 : decode cX6_leave 4 = .ok (.invokevirtual 79, 3) := by decide +kernel
theorem dX6_leave_7 : decode cX6_leave 7 = .ok (.ireturn, 1) := by decide +kernel
theorem dX6_one_0 : decode cX6_one 0 = .ok (.aload_n 0, 1) := by decide +kernel
theorem dX6_one_1 : decode cX6_one 1 = .ok (.invokevirtual 66, 3) := by decide +kernel
theorem dX6_one_4 : decode cX6_one 4 = .ok (.ifCond .ne 5, 3) := by decide +kernel
theorem dX6_one_7 : decode cX6_one 7 = .ok (.iconst 0, 1) := by decide +kernel
theorem dX6_one_8 : decode cX6_one 8 = .ok (.ireturn, 1) := by decide +kernel
theorem dX6_one_9 : decode cX6_one 9 = .ok (.iload_n 1, 1) := by decide +kernel
theorem dX6_one_10 : decode cX6_one 10 = .ok (.lookupswitch 44 #[(25, 34), (36, 26)], 26) := by decide +kernel
theorem dX6_one_36 : decode cX6_one 36 = .ok (.aload_n 0, 1) := by decide +kernel
theorem dX6_one_37 : decode cX6_one 37 = .ok (.iload_n 2, 1) := by decide +kernel
theorem dX6_one_38 : decode cX6_one 38 = .ok (.i2l, 1) := by decide +kernel
theorem dX6_one_39 : decode cX6_one 39 = .ok (.lneg, 1) := by decide +kernel
theorem dX6_one_40 : decode cX6_one 40 = .ok (.invokevirtual 82, 3) := by decide +kernel
theorem dX6_one_43 : decode cX6_one 43 = .ok (.ireturn, 1) := by decide +kernel
theorem dX6_one_44 : decode cX6_one 44 = .ok (.iload_n 2, 1) := by decide +kernel
theorem dX6_one_45 : decode cX6_one 45 = .ok (.ifCond .ne 7, 3) := by decide +kernel
theorem dX6_one_48 : decode cX6_one 48 = .ok (.iconst 1, 1) := by decide +kernel
theorem dX6_one_49 : decode cX6_one 49 = .ok (.goto 4, 3) := by decide +kernel
theorem dX6_one_52 : decode cX6_one 52 = .ok (.iconst 0, 1) := by decide +kernel
theorem dX6_one_53 : decode cX6_one 53 = .ok (.ireturn, 1) := by decide +kernel
theorem dX6_one_54 : decode cX6_one 54 = .ok (.iload_n 2, 1) := by decide +kernel
theorem dX6_one_55 : decode cX6_one 55 = .ok (.ifCond .lt 9, 3) := by decide +kernel
theorem dX6_one_58 : decode cX6_one 58 = .ok (.iload_n 2, 1) := by decide +kernel
theorem dX6_one_59 : decode cX6_one 59 = .ok (.bipush 32, 2) := by decide +kernel
theorem dX6_one_61 : decode cX6_one 61 = .ok (.if_icmp .lt 8, 3) := by decide +kernel
theorem dX6_one_64 : decode cX6_one 64 = .ok (.aload_n 0, 1) := by decide +kernel
theorem dX6_one_65 : decode cX6_one 65 = .ok (.iconst 4, 1) := by decide +kernel
theorem dX6_one_66 : decode cX6_one 66 = .ok (.invokevirtual 59, 3) := by decide +kernel
theorem dX6_one_69 : decode cX6_one 69 = .ok (.aload_n 0, 1) := by decide +kernel
theorem dX6_one_70 : decode cX6_one 70 = .ok (.getfield 20, 3) := by decide +kernel
theorem dX6_one_73 : decode cX6_one 73 = .ok (.iload_n 2, 1) := by decide +kernel
theorem dX6_one_74 : decode cX6_one 74 = .ok (.invokevirtual 55, 3) := by decide +kernel
theorem dX6_one_77 : decode cX6_one 77 = .ok (.ireturn, 1) := by decide +kernel
theorem dX6_two_0 : decode cX6_two 0 = .ok (.aload_n 0, 1) := by decide +kernel
theorem dX6_two_1 : decode cX6_two 1 = .ok (.invokevirtual 66, 3) := by decide +kernel
theorem dX6_two_4 : decode cX6_two 4 = .ok (.ifCond .ne 5, 3) := by decide +kernel
theorem dX6_two_7 : decode cX6_two 7 = .ok (.iconst 0, 1) := by decide +kernel
theorem dX6_two_8 : decode cX6_two 8 = .ok (.ireturn, 1) := by decide +kernel
theorem dX6_two_9 : decode cX6_two 9 = .ok (.iload_n 1, 1) := by decide +kernel
theorem dX6_two_10 : decode cX6_two 10 = .ok (.tableswitch 174 12 21 #[54, 64, 74, 84, 84, 119, 130, 141, 152, 163], 54) := by decide +kernel
theorem dX6_two_64 : decode cX6_two 64 = .ok (.aload_n 0, 1) := by decide +kernel
theorem dX6_two_65 : decode cX6_two 65 = .ok (.iload_n 2, 1) := by decide +kernel
theorem dX6_two_66 : decode cX6_two 66 = .ok (.i2l, 1) := by decide +kernel
theorem dX6_two_67 : decode cX6_two 67 = .ok (.iload_n 3, 1) := by decide +kernel
theorem dX6_two_68 : decode cX6_two 68 = .ok (.i2l, 1) := by decide +kernel
theorem dX6_two_69 : decode cX6_two 69 = .ok (.ladd, 1) := by decide +kernel
theorem dX6_two_70 : decode cX6_two 70 = .ok (.invokevirtual 82, 3) := by decide +kernel
theorem dX6_two_73 : decode cX6_two 73 = .ok (.ireturn, 1) := by decide +kernel
theorem dX6_two_74 : decode cX6_two 74 = .ok (.aload_n 0, 1) := by decide +kernel
theorem dX6_two_75 : decode cX6_two 75 = .ok (.iload_n 2, 1) := by decide +kernel
theorem dX6_two_76 : decode cX6_two 76 = .ok (.i2l, 1) := by decide +kernel
theorem dX6_two_77 : decode cX6_two 77 = .ok (.iload_n 3, 1) := by decide +kernel
theorem dX6_two_78 : decode cX6_two 78 = .ok (.i2l, 1) := by decide +kernel
theorem dX6_two_79 : decode cX6_two 79 = .ok (.lsub, 1) := by decide +kernel
theorem dX6_two_80 : decode cX6_two 80 = .ok (.invokevirtual 82, 3) := by decide +kernel
theorem dX6_two_83 : decode cX6_two 83 = .ok (.ireturn, 1) := by decide +kernel
theorem dX6_two_84 : decode cX6_two 84 = .ok (.aload_n 0, 1) := by decide +kernel
theorem dX6_two_85 : decode cX6_two 85 = .ok (.iload_n 2, 1) := by decide +kernel
theorem dX6_two_86 : decode cX6_two 86 = .ok (.i2l, 1) := by decide +kernel
theorem dX6_two_87 : decode cX6_two 87 = .ok (.iload_n 3, 1) := by decide +kernel
theorem dX6_two_88 : decode cX6_two 88 = .ok (.i2l, 1) := by decide +kernel
theorem dX6_two_89 : decode cX6_two 89 = .ok (.lmul, 1) := by decide +kernel
theorem dX6_two_90 : decode cX6_two 90 = .ok (.invokevirtual 82, 3) := by decide +kernel
theorem dX6_two_93 : decode cX6_two 93 = .ok (.ireturn, 1) := by decide +kernel
theorem dX6_two_94 : decode cX6_two 94 = .ok (.iload_n 3, 1) := by decide +kernel
theorem dX6_two_95 : decode cX6_two 95 = .ok (.ifCond .ne 10, 3) := by decide +kernel
theorem dX6_two_98 : decode cX6_two 98 = .ok (.aload_n 0, 1) := by decide +kernel
theorem dX6_two_99 : decode cX6_two 99 = .ok (.iconst 3, 1) := by decide +kernel
theorem dX6_two_100 : decode cX6_two 100 = .ok (.invokevirtual 59, 3) := by decide +kernel
theorem dX6_two_103 : decode cX6_two 103 = .ok (.iconst 0, 1) := by decide +kernel
theorem dX6_two_104 : decode cX6_two 104 = .ok (.ireturn, 1) := by decide +kernel
theorem dX6_two_105 : decode cX6_two 105 = .ok (.aload_n 0, 1) := by decide +kernel
theorem dX6_two_106 : decode cX6_two 106 = .ok (.iload_n 1, 1) := by decide +kernel
theorem dX6_two_107 : decode cX6_two 107 = .ok (.bipush 15, 2) := by decide +kernel
theorem dX6_two_109 : decode cX6_two 109 = .ok (.if_icmp .ne 11, 3) := by decide +kernel
theorem dX6_two_112 : decode cX6_two 112 = .ok (.iload_n 2, 1) := by decide +kernel
theorem dX6_two_113 : decode cX6_two 113 = .ok (.i2l, 1) := by decide +kernel
theorem dX6_two_114 : decode cX6_two 114 = .ok (.iload_n 3, 1) := by decide +kernel
theorem dX6_two_115 : decode cX6_two 115 = .ok (.i2l, 1) := by decide +kernel
theorem dX6_two_116 : decode cX6_two 116 = .ok (.ldiv, 1) := by decide +kernel
theorem dX6_two_117 : decode cX6_two 117 = .ok (.goto 8, 3) := by decide +kernel
theorem dX6_two_120 : decode cX6_two 120 = .ok (.iload_n 2, 1) := by decide +kernel
theorem dX6_two_121 : decode cX6_two 121 = .ok (.i2l, 1) := by decide +kernel
theorem dX6_two_122 : decode cX6_two 122 = .ok (.iload_n 3, 1) := by decide +kernel
theorem dX6_two_123 : decode cX6_two 123 = .ok (.i2l, 1) := by decide +kernel
theorem dX6_two_124 : decode cX6_two 124 = .ok (.lrem, 1) := by decide +kernel
theorem dX6_two_125 : decode cX6_two 125 = .ok (.invokevirtual 82, 3) := by decide +kernel
theorem dX6_two_128 : decode cX6_two 128 = .ok (.ireturn, 1) := by decide +kernel
theorem dX6_two_129 : decode cX6_two 129 = .ok (.iload_n 2, 1) := by decide +kernel
theorem dX6_two_130 : decode cX6_two 130 = .ok (.iload_n 3, 1) := by decide +kernel
theorem dX6_two_131 : decode cX6_two 131 = .ok (.if_icmp .ge 7, 3) := by decide +kernel
theorem dX6_two_134 : decode cX6_two 134 = .ok (.iconst 1, 1) := by decide +kernel
theorem dX6_two_135 : decode cX6_two 135 = .ok (.goto 4, 3) := by decide +kernel
theorem dX6_two_138 : decode cX6_two 138 = .ok (.iconst 0, 1) := by decide +kernel
theorem dX6_two_139 : decode cX6_two 139 = .ok (.ireturn, 1) := by decide +kernel
theorem dX6_two_140 : decode cX6_two 140 = .ok (.iload_n 2, 1) := by decide +kernel
theorem dX6_two_141 : decode cX6_two 141 = .ok (.iload_n 3, 1) := by decide +kernel
theorem dX6_two_142 : decode cX6_two 142 = .ok (.if_icmp .gt 7, 3) := by decide +kernel
theorem dX6_two_145 : decode cX6_two 145 = .ok (.iconst 1, 1) := by decide +kernel
theorem dX6_two_146 : decode cX6_two 146 = .ok (.goto 4, 3) := by decide +kernel
theorem dX6_two_149 : decode cX6_two 149 = .ok (.iconst 0, 1) := by decide +kernel
theorem dX6_two_150 : decode cX6_two 150 = .ok (.ireturn, 1) := by decide +kernel
theorem dX6_two_151 : decode cX6_two 151 = .ok (.iload_n 2, 1) := by decide +kernel
theorem dX6_two_152 : decode cX6_two 152 = .ok (.iload_n 3, 1) := by decide +kernel
theorem dX6_two_153 : decode cX6_two 153 = .ok (.if_icmp .le 7, 3) := by decide +kernel
theorem dX6_two_156 : decode cX6_two 156 = .ok (.iconst 1, 1) := by decide +kernel
theorem dX6_two_157 : decode cX6_two 157 = .ok (.goto 4, 3) := by decide +kernel
theorem dX6_two_160 : decode cX6_two 160 = .ok (.iconst 0, 1) := by decide +kernel
theorem dX6_two_161 : decode cX6_two 161 = .ok (.ireturn, 1) := by decide +kernel
theorem dX6_two_162 : decode cX6_two 162 = .ok (.iload_n 2, 1) := by decide +kernel
theorem dX6_two_163 : decode cX6_two 163 = .ok (.iload_n 3, 1) := by decide +kernel
theorem dX6_two_164 : decode cX6_two 164 = .ok (.if_icmp .lt 7, 3) := by decide +kernel
theorem dX6_two_167 : decode cX6_two 167 = .ok (.iconst 1, 1) := by decide +kernel
theorem dX6_two_168 : decode cX6_two 168 = .ok (.goto 4, 3) := by decide +kernel
theorem dX6_two_171 : decode cX6_two 171 = .ok (.iconst 0, 1) := by decide +kernel
theorem dX6_two_172 : decode cX6_two 172 = .ok (.ireturn, 1) := by decide +kernel
theorem dX6_two_173 : decode cX6_two 173 = .ok (.iload_n 2, 1) := by decide +kernel
theorem dX6_two_174 : decode cX6_two 174 = .ok (.iload_n 3, 1) := by decide +kernel
theorem dX6_two_175 : decode cX6_two 175 = .ok (.if_icmp .ne 7, 3) := by decide +kernel
theorem dX6_two_178 : decode cX6_two 178 = .ok (.iconst 1, 1) := by decide +kernel
theorem dX6_two_179 : decode cX6_two 179 = .ok (.goto 4, 3) := by decide +kernel
theorem dX6_two_182 : decode cX6_two 182 = .ok (.iconst 0, 1) := by decide +kernel
theorem dX6_two_183 : decode cX6_two 183 = .ok (.ireturn, 1) := by decide +kernel
theorem dX6_two_184 : decode cX6_two 184 = .ok (.iload_n 2, 1) := by decide +kernel
theorem dX6_two_185 : decode cX6_two 185 = .ok (.iload_n 3, 1) := by decide +kernel
theorem dX6_two_186 : decode cX6_two 186 = .ok (.if_icmp .eq 7, 3) := by decide +kernel
theorem dX6_two_189 : decode cX6_two 189 = .ok (.iconst 1, 1) := by decide +kernel
theorem dX6_two_190 : decode cX6_two 190 = .ok (.goto 4, 3) := by decide +kernel
theorem dX6_two_193 : decode cX6_two 193 = .ok (.iconst 0, 1) := by decide +kernel
theorem dX6_two_194 : decode cX6_two 194 = .ok (.ireturn, 1) := by decide +kernel
theorem dX6_intOf_0 : decode cX6_intOf 0 = .ok (.lload_n 1, 1) := by decide +kernel
theorem dX6_intOf_1 : decode cX6_intOf 1 = .ok (.ldc2_w 88, 3) := by decide +kernel
theorem dX6_intOf_4 : decode cX6_intOf 4 = .ok (.lcmp, 1) := by decide +kernel
theorem dX6_intOf_5 : decode cX6_intOf 5 = .ok (.ifCond .lt 11, 3) := by decide +kernel
theorem dX6_intOf_8 : decode cX6_intOf 8 = .ok (.lload_n 1, 1) := by decide +kernel
theorem dX6_intOf_9 : decode cX6_intOf 9 = .ok (.ldc2_w 90, 3) := by decide +kernel
theorem dX6_intOf_12 : decode cX6_intOf 12 = .ok (.lcmp, 1) := by decide +kernel
theorem dX6_intOf_13 : decode cX6_intOf 13 = .ok (.ifCond .le 10, 3) := by decide +kernel
theorem dX6_intOf_16 : decode cX6_intOf 16 = .ok (.aload_n 0, 1) := by decide +kernel
theorem dX6_intOf_17 : decode cX6_intOf 17 = .ok (.iconst 2, 1) := by decide +kernel
theorem dX6_intOf_18 : decode cX6_intOf 18 = .ok (.invokevirtual 59, 3) := by decide +kernel
theorem dX6_intOf_21 : decode cX6_intOf 21 = .ok (.iconst 0, 1) := by decide +kernel
theorem dX6_intOf_22 : decode cX6_intOf 22 = .ok (.ireturn, 1) := by decide +kernel
theorem dX6_intOf_23 : decode cX6_intOf 23 = .ok (.lload_n 1, 1) := by decide +kernel
theorem dX6_intOf_24 : decode cX6_intOf 24 = .ok (.l2i, 1) := by decide +kernel
theorem dX6_intOf_25 : decode cX6_intOf 25 = .ok (.ireturn, 1) := by decide +kernel
theorem dX7_init_0 : decode cX7_init 0 = .ok (.aload_n 0, 1) := by decide +kernel
theorem dX7_init_1 : decode cX7_init 1 = .ok (.invokespecial 3, 3) := by decide +kernel
theorem dX7_init_4 : decode cX7_init 4 = .ok (.aload_n 0, 1) := by decide +kernel
theorem dX7_init_5 : decode cX7_init 5 = .ok (.iload_n 1, 1) := by decide +kernel
theorem dX7_init_6 : decode cX7_init 6 = .ok (.putfield 9, 3) := by decide +kernel
theorem dX7_init_9 : decode cX7_init 9 = .ok (.aload_n 0, 1) := by decide +kernel
theorem dX7_init_10 : decode cX7_init 10 = .ok (.iload_n 2, 1) := by decide +kernel
theorem dX7_init_11 : decode cX7_init 11 = .ok (.putfield 15, 3) := by decide +kernel
theorem dX7_init_14 : decode cX7_init 14 = .ok (.aload_n 0, 1) := by decide +kernel
theorem dX7_init_15 : decode cX7_init 15 = .ok (.iload_n 3, 1) := by decide +kernel
theorem dX7_init_16 : decode cX7_init 16 = .ok (.putfield 18, 3) := by decide +kernel
theorem dX7_init_19 : decode cX7_init 19 = .ok (.aload_n 0, 1) := by decide +kernel
theorem dX7_init_20 : decode cX7_init 20 = .ok (.iload 4, 2) := by decide +kernel
theorem dX7_init_22 : decode cX7_init 22 = .ok (.putfield 21, 3) := by decide +kernel
theorem dX7_init_25 : decode cX7_init 25 = .ok (.aload_n 0, 1) := by decide +kernel
theorem dX7_init_26 : decode cX7_init 26 = .ok (.iload 5, 2) := by decide +kernel
theorem dX7_init_28 : decode cX7_init 28 = .ok (.putfield 24, 3) := by decide +kernel
theorem dX7_init_31 : decode cX7_init 31 = .ok (.aload_n 0, 1) := by decide +kernel
theorem dX7_init_32 : decode cX7_init 32 = .ok (.iload 6, 2) := by decide +kernel
theorem dX7_init_34 : decode cX7_init 34 = .ok (.putfield 27, 3) := by decide +kernel
theorem dX7_init_37 : decode cX7_init 37 = .ok (.return_, 1) := by decide +kernel
theorem dX7_isPassedBy_0 : decode cX7_isPassedBy 0 = .ok (.aload_n 1, 1) := by decide +kernel
theorem dX7_isPassedBy_1 : decode cX7_isPassedBy 1 = .ok (.invokevirtual 30, 3) := by decide +kernel
theorem dX7_isPassedBy_4 : decode cX7_isPassedBy 4 = .ok (.ifCond .ne 58, 3) := by decide +kernel
theorem dX7_isPassedBy_7 : decode cX7_isPassedBy 7 = .ok (.aload_n 1, 1) := by decide +kernel
theorem dX7_isPassedBy_8 : decode cX7_isPassedBy 8 = .ok (.invokevirtual 36, 3) := by decide +kernel
theorem dX7_isPassedBy_11 : decode cX7_isPassedBy 11 = .ok (.aload_n 0, 1) := by decide +kernel
theorem dX7_isPassedBy_12 : decode cX7_isPassedBy 12 = .ok (.getfield 21, 3) := by decide +kernel
theorem dX7_isPassedBy_15 : decode cX7_isPassedBy 15 = .ok (.if_icmp .ne 47, 3) := by decide +kernel
theorem dX7_isPassedBy_18 : decode cX7_isPassedBy 18 = .ok (.aload_n 0, 1) := by decide +kernel
theorem dX7_isPassedBy_19 : decode cX7_isPassedBy 19 = .ok (.getfield 21, 3) := by decide +kernel
theorem dX7_isPassedBy_22 : decode cX7_isPassedBy 22 = .ok (.iconst 1, 1) := by decide +kernel
theorem dX7_isPassedBy_23 : decode cX7_isPassedBy 23 = .ok (.if_icmp .lt 15, 3) := by decide +kernel
theorem dX7_isPassedBy_26 : decode cX7_isPassedBy 26 = .ok (.aload_n 1, 1) := by decide +kernel
theorem dX7_isPassedBy_27 : decode cX7_isPassedBy 27 = .ok (.iconst 0, 1) := by decide +kernel
theorem dX7_isPassedBy_28 : decode cX7_isPassedBy 28 = .ok (.invokevirtual 39, 3) := by decide +kernel
theorem dX7_isPassedBy_31 : decode cX7_isPassedBy 31 = .ok (.aload_n 0, 1) := by decide +kernel
theorem dX7_isPassedBy_32 : decode cX7_isPassedBy 32 = .ok (.getfield 24, 3) := by decide +kernel
theorem dX7_isPassedBy_35 : decode cX7_isPassedBy 35 = .ok (.if_icmp .ne 27, 3) := by decide +kernel
theorem dX7_isPassedBy_38 : decode cX7_isPassedBy 38 = .ok (.aload_n 0, 1) := by decide +kernel
theorem dX7_isPassedBy_39 : decode cX7_isPassedBy 39 = .ok (.getfield 21, 3) := by decide +kernel
theorem dX7_isPassedBy_42 : decode cX7_isPassedBy 42 = .ok (.iconst 2, 1) := by decide +kernel
theorem dX7_isPassedBy_43 : decode cX7_isPassedBy 43 = .ok (.if_icmp .lt 15, 3) := by decide +kernel
theorem dX7_isPassedBy_46 : decode cX7_isPassedBy 46 = .ok (.aload_n 1, 1) := by decide +kernel
theorem dX7_isPassedBy_47 : decode cX7_isPassedBy 47 = .ok (.iconst 1, 1) := by decide +kernel
theorem dX7_isPassedBy_48 : decode cX7_isPassedBy 48 = .ok (.invokevirtual 39, 3) := by decide +kernel
theorem dX7_isPassedBy_51 : decode cX7_isPassedBy 51 = .ok (.aload_n 0, 1) := by decide +kernel
theorem dX7_isPassedBy_52 : decode cX7_isPassedBy 52 = .ok (.getfield 27, 3) := by decide +kernel
theorem dX7_isPassedBy_55 : decode cX7_isPassedBy 55 = .ok (.if_icmp .ne 7, 3) := by decide +kernel
theorem dX7_isPassedBy_58 : decode cX7_isPassedBy 58 = .ok (.iconst 1, 1) := by decide +kernel
theorem dX7_isPassedBy_59 : decode cX7_isPassedBy 59 = .ok (.goto 4, 3) := by decide +kernel
theorem dX7_isPassedBy_62 : decode cX7_isPassedBy 62 = .ok (.iconst 0, 1) := by decide +kernel
theorem dX7_isPassedBy_63 : decode cX7_isPassedBy 63 = .ok (.ireturn, 1) := by decide +kernel
theorem dX8_init_0 : decode cX8_init 0 = .ok (.aload_n 0, 1) := by decide +kernel
theorem dX8_init_1 : decode cX8_init 1 = .ok (.invokespecial 3, 3) := by decide +kernel
theorem dX8_init_4 : decode cX8_init 4 = .ok (.aload_n 0, 1) := by decide +kernel
theorem dX8_init_5 : decode cX8_init 5 = .ok (.new 9, 3) := by decide +kernel
theorem dX8_init_8 : decode cX8_init 8 = .ok (.dup, 1) := by decide +kernel
theorem dX8_init_9 : decode cX8_init 9 = .ok (.sipush 301, 3) := by decide +kernel
theorem dX8_init_12 : decode cX8_init 12 = .ok (.invokespecial 11, 3) := by decide +kernel
theorem dX8_init_15 : decode cX8_init 15 = .ok (.putfield 14, 3) := by decide +kernel
theorem dX8_init_18 : decode cX8_init 18 = .ok (.aload_n 0, 1) := by decide +kernel
theorem dX8_init_19 : decode cX8_init 19 = .ok (.new 9, 3) := by decide +kernel
theorem dX8_init_22 : decode cX8_init 22 = .ok (.dup, 1) := by decide +kernel
theorem dX8_init_23 : decode cX8_init 23 = .ok (.sipush 301, 3) := by decide +kernel
theorem dX8_init_26 : decode cX8_init 26 = .ok (.invokespecial 11, 3) := by decide +kernel
theorem dX8_init_29 : decode cX8_init 29 = .ok (.putfield 20, 3) := by decide +kernel
theorem dX8_init_32 : decode cX8_init 32 = .ok (.aload_n 0, 1) := by decide +kernel
theorem dX8_init_33 : decode cX8_init 33 = .ok (.new 9, 3) := by decide +kernel
theorem dX8_init_36 : decode cX8_init 36 = .ok (.dup, 1) := by decide +kernel
theorem dX8_init_37 : decode cX8_init 37 = .ok (.sipush 301, 3) := by decide +kernel
theorem dX8_init_40 : decode cX8_init 40 = .ok (.invokespecial 11, 3) := by decide +kernel
theorem dX8_init_43 : decode cX8_init 43 = .ok (.putfield 23, 3) := by decide +kernel
theorem dX8_init_46 : decode cX8_init 46 = .ok (.aload_n 0, 1) := by decide +kernel
theorem dX8_init_47 : decode cX8_init 47 = .ok (.new 9, 3) := by decide +kernel
theorem dX8_init_50 : decode cX8_init 50 = .ok (.dup, 1) := by decide +kernel
theorem dX8_init_51 : decode cX8_init 51 = .ok (.sipush 300, 3) := by decide +kernel
theorem dX8_init_54 : decode cX8_init 54 = .ok (.invokespecial 11, 3) := by decide +kernel
theorem dX8_init_57 : decode cX8_init 57 = .ok (.putfield 26, 3) := by decide +kernel
theorem dX8_init_60 : decode cX8_init 60 = .ok (.aload_n 0, 1) := by decide +kernel
theorem dX8_init_61 : decode cX8_init 61 = .ok (.new 9, 3) := by decide +kernel
theorem dX8_init_64 : decode cX8_init 64 = .ok (.dup, 1) := by decide +kernel
theorem dX8_init_65 : decode cX8_init 65 = .ok (.sipush 300, 3) := by decide +kernel
theorem dX8_init_68 : decode cX8_init 68 = .ok (.invokespecial 11, 3) := by decide +kernel
theorem dX8_init_71 : decode cX8_init 71 = .ok (.putfield 29, 3) := by decide +kernel
theorem dX8_init_74 : decode cX8_init 74 = .ok (.return_, 1) := by decide +kernel
theorem dX8_scan_0 : decode cX8_scan 0 = .ok (.aload_n 0, 1) := by decide +kernel
theorem dX8_scan_1 : decode cX8_scan 1 = .ok (.getfield 14, 3) := by decide +kernel
theorem dX8_scan_4 : decode cX8_scan 4 = .ok (.invokevirtual 32, 3) := by decide +kernel
theorem dX8_scan_7 : decode cX8_scan 7 = .ok (.aload_n 0, 1) := by decide +kernel
theorem dX8_scan_8 : decode cX8_scan 8 = .ok (.getfield 20, 3) := by decide +kernel
theorem dX8_scan_11 : decode cX8_scan 11 = .ok (.invokevirtual 32, 3) := by decide +kernel
theorem dX8_scan_14 : decode cX8_scan 14 = .ok (.aload_n 0, 1) := by decide +kernel
theorem dX8_scan_15 : decode cX8_scan 15 = .ok (.getfield 23, 3) := by decide +kernel
theorem dX8_scan_18 : decode cX8_scan 18 = .ok (.invokevirtual 32, 3) := by decide +kernel
theorem dX8_scan_21 : decode cX8_scan 21 = .ok (.aload_n 0, 1) := by decide +kernel
theorem dX8_scan_22 : decode cX8_scan 22 = .ok (.getfield 26, 3) := by decide +kernel
theorem dX8_scan_25 : decode cX8_scan 25 = .ok (.invokevirtual 32, 3) := by decide +kernel
theorem dX8_scan_28 : decode cX8_scan 28 = .ok (.aload_n 0, 1) := by decide +kernel
theorem dX8_scan_29 : decode cX8_scan 29 = .ok (.getfield 29, 3) := by decide +kernel
theorem dX8_scan_32 : decode cX8_scan 32 = .ok (.invokevirtual 32, 3) := by decide +kernel
theorem dX8_scan_35 : decode cX8_scan 35 = .ok (.iconst 0, 1) := by decide +kernel
theorem dX8_scan_36 : decode cX8_scan 36 = .ok (.istore_n 2, 1) := by decide +kernel
theorem dX8_scan_37 : decode cX8_scan 37 = .ok (.iconst 0, 1) := by decide +kernel
theorem dX8_scan_38 : decode cX8_scan 38 = .ok (.istore_n 3, 1) := by decide +kernel
theorem dX8_scan_39 : decode cX8_scan 39 = .ok (.iload_n 3, 1) := by decide +kernel
theorem dX8_scan_40 : decode cX8_scan 40 = .ok (.sipush 300, 3) := by decide +kernel
theorem dX8_scan_43 : decode cX8_scan 43 = .ok (.if_icmp .ge 87, 3) := by decide +kernel
theorem dX8_scan_46 : decode cX8_scan 46 = .ok (.iload_n 2, 1) := by decide +kernel
theorem dX8_scan_47 : decode cX8_scan 47 = .ok (.aload_n 1, 1) := by decide +kernel
theorem dX8_scan_48 : decode cX8_scan 48 = .ok (.invokevirtual 35, 3) := by decide +kernel
theorem dX8_scan_51 : decode cX8_scan 51 = .ok (.if_icmp .ge 79, 3) := by decide +kernel
theorem dX8_scan_54 : decode cX8_scan 54 = .ok (.aload_n 1, 1) := by decide +kernel
theorem dX8_scan_55 : decode cX8_scan 55 = .ok (.iload_n 2, 1) := by decide +kernel
theorem dX8_scan_56 : decode cX8_scan 56 = .ok (.invokevirtual 39, 3) := by decide +kernel
theorem dX8_scan_59 : decode cX8_scan 59 = .ok (.istore 4, 2) := by decide +kernel
theorem dX8_scan_61 : decode cX8_scan 61 = .ok (.iload 4, 2) := by decide +kernel
theorem dX8_scan_63 : decode cX8_scan 63 = .ok (.bipush 32, 2) := by decide +kernel
theorem dX8_scan_65 : decode cX8_scan 65 = .ok (.if_icmp .eq 10, 3) := by decide +kernel
theorem dX8_scan_68 : decode cX8_scan 68 = .ok (.iload 4, 2) := by decide +kernel
theorem dX8_scan_70 : decode cX8_scan 70 = .ok (.bipush 10, 2) := by decide +kernel
theorem dX8_scan_72 : decode cX8_scan 72 = .ok (.if_icmp .ne 9, 3) := by decide +kernel
theorem dX8_scan_75 : decode cX8_scan 75 = .ok (.iinc 2 1, 3) := by decide +kernel
theorem dX8_scan_78 : decode cX8_scan 78 = .ok (.goto 46, 3) := by decide +kernel
theorem dX8_scan_81 : decode cX8_scan 81 = .ok (.iload 4, 2) := by decide +kernel
theorem dX8_scan_83 : decode cX8_scan 83 = .ok (.invokestatic 43, 3) := by decide +kernel
theorem dX8_scan_86 : decode cX8_scan 86 = .ok (.ifCond .eq 13, 3) := by decide +kernel
theorem dX8_scan_89 : decode cX8_scan 89 = .ok (.aload_n 0, 1) := by decide +kernel
theorem dX8_scan_90 : decode cX8_scan 90 = .ok (.aload_n 1, 1) := by decide +kernel
theorem dX8_scan_91 : decode cX8_scan 91 = .ok (.iload_n 2, 1) := by decide +kernel
theorem dX8_scan_92 : decode cX8_scan 92 = .ok (.invokevirtual 47, 3) := by decide +kernel
theorem dX8_scan_95 : decode cX8_scan 95 = .ok (.istore_n 2, 1) := by decide +kernel
theorem dX8_scan_96 : decode cX8_scan 96 = .ok (.goto 28, 3) := by decide +kernel
theorem dX8_scan_99 : decode cX8_scan 99 = .ok (.iload 4, 2) := by decide +kernel
theorem dX8_scan_101 : decode cX8_scan 101 = .ok (.invokestatic 51, 3) := by decide +kernel
theorem dX8_scan_104 : decode cX8_scan 104 = .ok (.ifCond .eq 13, 3) := by decide +kernel
theorem dX8_scan_107 : decode cX8_scan 107 = .ok (.aload_n 0, 1) := by decide +kernel
theorem dX8_scan_108 : decode cX8_scan 108 = .ok (.aload_n 1, 1) := by decide +kernel
theorem dX8_scan_109 : decode cX8_scan 109 = .ok (.iload_n 2, 1) := by decide +kernel
theorem dX8_scan_110 : decode cX8_scan 110 = .ok (.invokevirtual 54, 3) := by decide +kernel
theorem dX8_scan_113 : decode cX8_scan 113 = .ok (.istore_n 2, 1) := by decide +kernel
theorem dX8_scan_114 : decode cX8_scan 114 = .ok (.goto 10, 3) := by decide +kernel
theorem dX8_scan_117 : decode cX8_scan 117 = .ok (.aload_n 0, 1) := by decide +kernel
theorem dX8_scan_118 : decode cX8_scan 118 = .ok (.aload_n 1, 1) := by decide +kernel
theorem dX8_scan_119 : decode cX8_scan 119 = .ok (.iload_n 2, 1) := by decide +kernel
theorem dX8_scan_120 : decode cX8_scan 120 = .ok (.invokevirtual 57, 3) := by decide +kernel
theorem dX8_scan_123 : decode cX8_scan 123 = .ok (.istore_n 2, 1) := by decide +kernel
theorem dX8_scan_124 : decode cX8_scan 124 = .ok (.iinc 3 1, 3) := by decide +kernel
theorem dX8_scan_127 : decode cX8_scan 127 = .ok (.goto (-88), 3) := by decide +kernel
theorem dX8_scan_130 : decode cX8_scan 130 = .ok (.aload_n 0, 1) := by decide +kernel
theorem dX8_scan_131 : decode cX8_scan 131 = .ok (.iconst 0, 1) := by decide +kernel
theorem dX8_scan_132 : decode cX8_scan 132 = .ok (.iconst 0, 1) := by decide +kernel
theorem dX8_scan_133 : decode cX8_scan 133 = .ok (.aload_n 1, 1) := by decide +kernel
theorem dX8_scan_134 : decode cX8_scan 134 = .ok (.invokevirtual 35, 3) := by decide +kernel
theorem dX8_scan_137 : decode cX8_scan 137 = .ok (.invokevirtual 60, 3) := by decide +kernel
theorem dX8_scan_140 : decode cX8_scan 140 = .ok (.return_, 1) := by decide +kernel
theorem dX8_last_0 : decode cX8_last 0 = .ok (.aload_n 0, 1) := by decide +kernel
theorem dX8_last_1 : decode cX8_last 1 = .ok (.getfield 14, 3) := by decide +kernel
theorem dX8_last_4 : decode cX8_last 4 = .ok (.invokevirtual 35, 3) := by decide +kernel
theorem dX8_last_7 : decode cX8_last 7 = .ok (.iconst 1, 1) := by decide +kernel
theorem dX8_last_8 : decode cX8_last 8 = .ok (.isub, 1) := by decide +kernel
theorem dX8_last_9 : decode cX8_last 9 = .ok (.ireturn, 1) := by decide +kernel
theorem dX8_levelOf_0 : decode cX8_levelOf 0 = .ok (.iload_n 0, 1) := by decide +kernel
theorem dX8_levelOf_1 : decode cX8_levelOf 1 = .ok (.tableswitch 131 12 36 #[123, 123, 125, 125, 125, 121, 121, 121, 121, 119, 119, 117, 115, 128, 128, 131, 131, 131, 131, 131, 131, 131, 131, 131, 128], 115) := by decide +kernel
theorem dX8_levelOf_116 : decode cX8_levelOf 116 = .ok (.iconst 1, 1) := by decide +kernel
theorem dX8_levelOf_117 : decode cX8_levelOf 117 = .ok (.ireturn, 1) := by decide +kernel
theorem dX8_levelOf_118 : decode cX8_levelOf 118 = .ok (.iconst 2, 1) := by decide +kernel
theorem dX8_levelOf_119 : decode cX8_levelOf 119 = .ok (.ireturn, 1) := by decide +kernel
theorem dX8_levelOf_120 : decode cX8_levelOf 120 = .ok (.iconst 3, 1) := by decide +kernel
theorem dX8_levelOf_121 : decode cX8_levelOf 121 = .ok (.ireturn, 1) := by decide +kernel
theorem dX8_levelOf_122 : decode cX8_levelOf 122 = .ok (.iconst 4, 1) := by decide +kernel
theorem dX8_levelOf_123 : decode cX8_levelOf 123 = .ok (.ireturn, 1) := by decide +kernel
theorem dX8_levelOf_124 : decode cX8_levelOf 124 = .ok (.iconst 5, 1) := by decide +kernel
theorem dX8_levelOf_125 : decode cX8_levelOf 125 = .ok (.ireturn, 1) := by decide +kernel
theorem dX8_levelOf_126 : decode cX8_levelOf 126 = .ok (.bipush 6, 2) := by decide +kernel
theorem dX8_levelOf_128 : decode cX8_levelOf 128 = .ok (.ireturn, 1) := by decide +kernel
theorem dX8_levelOf_129 : decode cX8_levelOf 129 = .ok (.bipush 7, 2) := by decide +kernel
theorem dX8_levelOf_131 : decode cX8_levelOf 131 = .ok (.ireturn, 1) := by decide +kernel
theorem dX8_levelOf_132 : decode cX8_levelOf 132 = .ok (.iconst 0, 1) := by decide +kernel
theorem dX8_levelOf_133 : decode cX8_levelOf 133 = .ok (.ireturn, 1) := by decide +kernel
theorem dX8_add_0 : decode cX8_add 0 = .ok (.aload_n 0, 1) := by decide +kernel
theorem dX8_add_1 : decode cX8_add 1 = .ok (.getfield 14, 3) := by decide +kernel
theorem dX8_add_4 : decode cX8_add 4 = .ok (.iload_n 1, 1) := by decide +kernel
theorem dX8_add_5 : decode cX8_add 5 = .ok (.invokevirtual 64, 3) := by decide +kernel
theorem dX8_add_8 : decode cX8_add 8 = .ok (.aload_n 0, 1) := by decide +kernel
theorem dX8_add_9 : decode cX8_add 9 = .ok (.getfield 20, 3) := by decide +kernel
theorem dX8_add_12 : decode cX8_add 12 = .ok (.iload_n 2, 1) := by decide +kernel
theorem dX8_add_13 : decode cX8_add 13 = .ok (.invokevirtual 64, 3) := by decide +kernel
theorem dX8_add_16 : decode cX8_add 16 = .ok (.aload_n 0, 1) := by decide +kernel
theorem dX8_add_17 : decode cX8_add 17 = .ok (.getfield 23, 3) := by decide +kernel
theorem dX8_add_20 : decode cX8_add 20 = .ok (.iload_n 3, 1) := by decide +kernel
theorem dX8_add_21 : decode cX8_add 21 = .ok (.invokevirtual 64, 3) := by decide +kernel
theorem dX8_add_24 : decode cX8_add 24 = .ok (.return_, 1) := by decide +kernel
theorem dX8_scanNumber_0 : decode cX8_scanNumber 0 = .ok (.lconst 0, 1) := by decide +kernel
theorem dX8_scanNumber_1 : decode cX8_scanNumber 1 = .ok (.lstore_n 3, 1) := by decide +kernel
theorem dX8_scanNumber_2 : decode cX8_scanNumber 2 = .ok (.iload_n 2, 1) := by decide +kernel
theorem dX8_scanNumber_3 : decode cX8_scanNumber 3 = .ok (.istore 5, 2) := by decide +kernel
theorem dX8_scanNumber_5 : decode cX8_scanNumber 5 = .ok (.iload 5, 2) := by decide +kernel
theorem dX8_scanNumber_7 : decode cX8_scanNumber 7 = .ok (.aload_n 1, 1) := by decide +kernel
theorem dX8_scanNumber_8 : decode cX8_scanNumber 8 = .ok (.invokevirtual 35, 3) := by decide +kernel
theorem dX8_scanNumber_11 : decode cX8_scanNumber 11 = .ok (.if_icmp .ge 45, 3) := by decide +kernel
theorem dX8_scanNumber_14 : decode cX8_scanNumber 14 = .ok (.aload_n 1, 1) := by decide +kernel
theorem dX8_scanNumber_15 : decode cX8_scanNumber 15 = .ok (.iload 5, 2) := by decide +kernel
theorem dX8_scanNumber_17 : decode cX8_scanNumber 17 = .ok (.invokevirtual 39, 3) := by decide +kernel
theorem dX8_scanNumber_20 : decode cX8_scanNumber 20 = .ok (.invokestatic 43, 3) := by decide +kernel
theorem dX8_scanNumber_23 : decode cX8_scanNumber 23 = .ok (.ifCond .eq 33, 3) := by decide +kernel
theorem dX8_scanNumber_26 : decode cX8_scanNumber 26 = .ok (.lload_n 3, 1) := by decide +kernel
theorem dX8_scanNumber_27 : decode cX8_scanNumber 27 = .ok (.ldc2_w 66, 3) := by decide +kernel
theorem dX8_scanNumber_30 : decode cX8_scanNumber 30 = .ok (.lmul, 1) := by decide +kernel
theorem dX8_scanNumber_31 : decode cX8_scanNumber 31 = .ok (.aload_n 1, 1) := by decide +kernel
theorem dX8_scanNumber_32 : decode cX8_scanNumber 32 = .ok (.iload 5, 2) := by decide +kernel
theorem dX8_scanNumber_34 : decode cX8_scanNumber 34 = .ok (.invokevirtual 39, 3) := by decide +kernel
theorem dX8_scanNumber_37 : decode cX8_scanNumber 37 = .ok (.i2l, 1) := by decide +kernel
theorem dX8_scanNumber_38 : decode cX8_scanNumber 38 = .ok (.ladd, 1) := by decide +kernel
theorem dX8_scanNumber_39 : decode cX8_scanNumber 39 = .ok (.ldc2_w 68, 3) := by decide +kernel
theorem dX8_scanNumber_42 : decode cX8_scanNumber 42 = .ok (.lsub, 1) := by decide +kernel
theorem dX8_scanNumber_43 : decode cX8_scanNumber 43 = .ok (.ldc2_w 70, 3) := by decide +kernel
theorem dX8_scanNumber_46 : decode cX8_scanNumber 46 = .ok (.invokestatic 72, 3) := by decide +kernel
theorem dX8_scanNumber_49 : decode cX8_scanNumber 49 = .ok (.lstore_n 3, 1) := by decide +kernel
theorem dX8_scanNumber_50 : decode cX8_scanNumber 50 = .ok (.iinc 5 1, 3) := by decide +kernel
theorem dX8_scanNumber_53 : decode cX8_scanNumber 53 = .ok (.goto (-48), 3) := by decide +kernel
theorem dX8_scanNumber_56 : decode cX8_scanNumber 56 = .ok (.aload_n 0, 1) := by decide +kernel
theorem dX8_scanNumber_57 : decode cX8_scanNumber 57 = .ok (.lload_n 3, 1) := by decide +kernel
theorem dX8_scanNumber_58 : decode cX8_scanNumber 58 = .ok (.ldc2_w 78, 3) := by decide +kernel
theorem dX8_scanNumber_61 : decode cX8_scanNumber 61 = .ok (.lcmp, 1) := by decide +kernel
theorem dX8_scanNumber_62 : decode cX8_scanNumber 62 = .ok (.ifCond .le 7, 3) := by decide +kernel
theorem dX8_scanNumber_65 : decode cX8_scanNumber 65 = .ok (.iconst 2, 1) := by decide +kernel
theorem dX8_scanNumber_66 : decode cX8_scanNumber 66 = .ok (.goto 4, 3) := by decide +kernel
theorem dX8_scanNumber_69 : decode cX8_scanNumber 69 = .ok (.iconst 3, 1) := by decide +kernel
theorem dX8_scanNumber_70 : decode cX8_scanNumber 70 = .ok (.lload_n 3, 1) := by decide +kernel
theorem dX8_scanNumber_71 : decode cX8_scanNumber 71 = .ok (.l2i, 1) := by decide +kernel
theorem dX8_scanNumber_72 : decode cX8_scanNumber 72 = .ok (.iload_n 2, 1) := by decide +kernel
theorem dX8_scanNumber_73 : decode cX8_scanNumber 73 = .ok (.invokevirtual 60, 3) := by decide +kernel
theorem dX8_scanNumber_76 : decode cX8_scanNumber 76 = .ok (.iload 5, 2) := by decide +kernel
theorem dX8_scanNumber_78 : decode cX8_scanNumber 78 = .ok (.ireturn, 1) := by decide +kernel
theorem dX8_scanWord_0 : decode cX8_scanWord 0 = .ok (.iload_n 2, 1) := by decide +kernel
theorem dX8_scanWord_1 : decode cX8_scanWord 1 = .ok (.istore_n 3, 1) := by decide +kernel
theorem dX8_scanWord_2 : decode cX8_scanWord 2 = .ok (.iload_n 3, 1) := by decide +kernel
theorem dX8_scanWord_3 : decode cX8_scanWord 3 = .ok (.aload_n 1, 1) := by decide +kernel
theorem dX8_scanWord_4 : decode cX8_scanWord 4 = .ok (.invokevirtual 35, 3) := by decide +kernel
theorem dX8_scanWord_7 : decode cX8_scanWord 7 = .ok (.if_icmp .ge 20, 3) := by decide +kernel
theorem dX8_scanWord_10 : decode cX8_scanWord 10 = .ok (.aload_n 1, 1) := by decide +kernel
theorem dX8_scanWord_11 : decode cX8_scanWord 11 = .ok (.iload_n 3, 1) := by decide +kernel
theorem dX8_scanWord_12 : decode cX8_scanWord 12 = .ok (.invokevirtual 39, 3) := by decide +kernel
theorem dX8_scanWord_15 : decode cX8_scanWord 15 = .ok (.invokestatic 51, 3) := by decide +kernel
theorem dX8_scanWord_18 : decode cX8_scanWord 18 = .ok (.ifCond .eq 9, 3) := by decide +kernel
theorem dX8_scanWord_21 : decode cX8_scanWord 21 = .ok (.iinc 3 1, 3) := by decide +kernel
theorem dX8_scanWord_24 : decode cX8_scanWord 24 = .ok (.goto (-22), 3) := by decide +kernel
theorem dX8_scanWord_27 : decode cX8_scanWord 27 = .ok (.aload_n 1, 1) := by decide +kernel
theorem dX8_scanWord_28 : decode cX8_scanWord 28 = .ok (.iload_n 2, 1) := by decide +kernel
theorem dX8_scanWord_29 : decode cX8_scanWord 29 = .ok (.iload_n 3, 1) := by decide +kernel
theorem dX8_scanWord_30 : decode cX8_scanWord 30 = .ok (.iload_n 2, 1) := by decide +kernel
theorem dX8_scanWord_31 : decode cX8_scanWord 31 = .ok (.isub, 1) := by decide +kernel
theorem dX8_scanWord_32 : decode cX8_scanWord 32 = .ok (.invokestatic 80, 3) := by decide +kernel
theorem dX8_scanWord_35 : decode cX8_scanWord 35 = .ok (.istore 4, 2) := by decide +kernel
theorem dX8_scanWord_37 : decode cX8_scanWord 37 = .ok (.aload_n 0, 1) := by decide +kernel
theorem dX8_scanWord_38 : decode cX8_scanWord 38 = .ok (.iload 4, 2) := by decide +kernel
theorem dX8_scanWord_40 : decode cX8_scanWord 40 = .ok (.iload 4, 2) := by decide +kernel
theorem dX8_scanWord_42 : decode cX8_scanWord 42 = .ok (.iconst 4, 1) := by decide +kernel
theorem dX8_scanWord_43 : decode cX8_scanWord 43 = .ok (.if_icmp .ne 15, 3) := by decide +kernel
theorem dX8_scanWord_46 : decode cX8_scanWord 46 = .ok (.aload_n 0, 1) := by decide +kernel
theorem dX8_scanWord_47 : decode cX8_scanWord 47 = .ok (.aload_n 1, 1) := by decide +kernel
theorem dX8_scanWord_48 : decode cX8_scanWord 48 = .ok (.iload_n 2, 1) := by decide +kernel
theorem dX8_scanWord_49 : decode cX8_scanWord 49 = .ok (.iload_n 3, 1) := by decide +kernel
theorem dX8_scanWord_50 : decode cX8_scanWord 50 = .ok (.iload_n 2, 1) := by decide +kernel
theorem dX8_scanWord_51 : decode cX8_scanWord 51 = .ok (.isub, 1) := by decide +kernel
theorem dX8_scanWord_52 : decode cX8_scanWord 52 = .ok (.invokevirtual 84, 3) := by decide +kernel
theorem dX8_scanWord_55 : decode cX8_scanWord 55 = .ok (.goto 4, 3) := by decide +kernel
theorem dX8_scanWord_58 : decode cX8_scanWord 58 = .ok (.iconst 0, 1) := by decide +kernel
theorem dX8_scanWord_59 : decode cX8_scanWord 59 = .ok (.iload_n 2, 1) := by decide +kernel
theorem dX8_scanWord_60 : decode cX8_scanWord 60 = .ok (.invokevirtual 60, 3) := by decide +kernel
theorem dX8_scanWord_63 : decode cX8_scanWord 63 = .ok (.iload_n 3, 1) := by decide +kernel
theorem dX8_scanWord_64 : decode cX8_scanWord 64 = .ok (.ireturn, 1) := by decide +kernel
theorem dX8_keyword_0 : decode cX8_keyword 0 = .ok (.aload_n 0, 1) := by decide +kernel
theorem dX8_keyword_1 : decode cX8_keyword 1 = .ok (.iload_n 1, 1) := by decide +kernel
theorem dX8_keyword_2 : decode cX8_keyword 2 = .ok (.iload_n 2, 1) := by decide +kernel
theorem dX8_keyword_3 : decode cX8_keyword 3 = .ok (.ldc 87, 2) := by decide +kernel
theorem dX8_keyword_5 : decode cX8_keyword 5 = .ok (.invokestatic 89, 3) := by decide +kernel
theorem dX8_keyword_8 : decode cX8_keyword 8 = .ok (.ifCond .eq 7, 3) := by decide +kernel
theorem dX8_keyword_11 : decode cX8_keyword 11 = .ok (.iconst 5, 1) := by decide +kernel
theorem dX8_keyword_12 : decode cX8_keyword 12 = .ok (.goto 100, 3) := by decide +kernel
theorem dX8_keyword_15 : decode cX8_keyword 15 = .ok (.aload_n 0, 1) := by decide +kernel
theorem dX8_keyword_16 : decode cX8_keyword 16 = .ok (.iload_n 1, 1) := by decide +kernel
theorem dX8_keyword_17 : decode cX8_keyword 17 = .ok (.iload_n 2, 1) := by decide +kernel
theorem dX8_keyword_18 : decode cX8_keyword 18 = .ok (.ldc 93, 2) := by decide +kernel
theorem dX8_keyword_20 : decode cX8_keyword 20 = .ok (.invokestatic 89, 3) := by decide +kernel
theorem dX8_keyword_23 : decode cX8_keyword 23 = .ok (.ifCond .eq 8, 3) := by decide +kernel
theorem dX8_keyword_26 : decode cX8_keyword 26 = .ok (.bipush 6, 2) := by decide +kernel
theorem dX8_keyword_28 : decode cX8_keyword 28 = .ok (.goto 84, 3) := by decide +kernel
theorem dX8_keyword_31 : decode cX8_keyword 31 = .ok (.aload_n 0, 1) := by decide +kernel
theorem dX8_keyword_32 : decode cX8_keyword 32 = .ok (.iload_n 1, 1) := by decide +kernel
theorem dX8_keyword_33 : decode cX8_keyword 33 = .ok (.iload_n 2, 1) := by decide +kernel
theorem dX8_keyword_34 : decode cX8_keyword 34 = .ok (.ldc 95, 2) := by decide +kernel
theorem dX8_keyword_36 : decode cX8_keyword 36 = .ok (.invokestatic 89, 3) := by decide +kernel
theorem dX8_keyword_39 : decode cX8_keyword 39 = .ok (.ifCond .eq 8, 3) := by decide +kernel
theorem dX8_keyword_42 : decode cX8_keyword 42 = .ok (.bipush 7, 2) := by decide +kernel
theorem dX8_keyword_44 : decode cX8_keyword 44 = .ok (.goto 68, 3) := by decide +kernel
theorem dX8_keyword_47 : decode cX8_keyword 47 = .ok (.aload_n 0, 1) := by decide +kernel
theorem dX8_keyword_48 : decode cX8_keyword 48 = .ok (.iload_n 1, 1) := by decide +kernel
theorem dX8_keyword_49 : decode cX8_keyword 49 = .ok (.iload_n 2, 1) := by decide +kernel
theorem dX8_keyword_50 : decode cX8_keyword 50 = .ok (.ldc 97, 2) := by decide +kernel
theorem dX8_keyword_52 : decode cX8_keyword 52 = .ok (.invokestatic 89, 3) := by decide +kernel
theorem dX8_keyword_55 : decode cX8_keyword 55 = .ok (.ifCond .eq 8, 3) := by decide +kernel
theorem dX8_keyword_58 : decode cX8_keyword 58 = .ok (.bipush 8, 2) := by decide +kernel
theorem dX8_keyword_60 : decode cX8_keyword 60 = .ok (.goto 52, 3) := by decide +kernel
theorem dX8_keyword_63 : decode cX8_keyword 63 = .ok (.aload_n 0, 1) := by decide +kernel
theorem dX8_keyword_64 : decode cX8_keyword 64 = .ok (.iload_n 1, 1) := by decide +kernel
theorem dX8_keyword_65 : decode cX8_keyword 65 = .ok (.iload_n 2, 1) := by decide +kernel
theorem dX8_keyword_66 : decode cX8_keyword 66 = .ok (.ldc 99, 2) := by decide +kernel
theorem dX8_keyword_68 : decode cX8_keyword 68 = .ok (.invokestatic 89, 3) := by decide +kernel
theorem dX8_keyword_71 : decode cX8_keyword 71 = .ok (.ifCond .eq 8, 3) := by decide +kernel
theorem dX8_keyword_74 : decode cX8_keyword 74 = .ok (.bipush 9, 2) := by decide +kernel
theorem dX8_keyword_76 : decode cX8_keyword 76 = .ok (.goto 36, 3) := by decide +kernel
theorem dX8_keyword_79 : decode cX8_keyword 79 = .ok (.aload_n 0, 1) := by decide +kernel
theorem dX8_keyword_80 : decode cX8_keyword 80 = .ok (.iload_n 1, 1) := by decide +kernel
theorem dX8_keyword_81 : decode cX8_keyword 81 = .ok (.iload_n 2, 1) := by decide +kernel
theorem dX8_keyword_82 : decode cX8_keyword 82 = .ok (.ldc 101, 2) := by decide +kernel
theorem dX8_keyword_84 : decode cX8_keyword 84 = .ok (.invokestatic 89, 3) := by decide +kernel
theorem dX8_keyword_87 : decode cX8_keyword 87 = .ok (.ifCond .eq 8, 3) := by decide +kernel
theorem dX8_keyword_90 : decode cX8_keyword 90 = .ok (.bipush 10, 2) := by decide +kernel
theorem dX8_keyword_92 : decode cX8_keyword 92 = .ok (.goto 20, 3) := by decide +kernel
theorem dX8_keyword_95 : decode cX8_keyword 95 = .ok (.aload_n 0, 1) := by decide +kernel
theorem dX8_keyword_96 : decode cX8_keyword 96 = .ok (.iload_n 1, 1) := by decide +kernel
theorem dX8_keyword_97 : decode cX8_keyword 97 = .ok (.iload_n 2, 1) := by decide +kernel
theorem dX8_keyword_98 : decode cX8_keyword 98 = .ok (.ldc 103, 2) := by decide +kernel
theorem dX8_keyword_100 : decode cX8_keyword 100 = .ok (.invokestatic 89, 3) := by decide +kernel
theorem dX8_keyword_103 : decode cX8_keyword 103 = .ok (.ifCond .eq 8, 3) := by decide +kernel
theorem dX8_keyword_106 : decode cX8_keyword 106 = .ok (.bipush 11, 2) := by decide +kernel
theorem dX8_keyword_108 : decode cX8_keyword 108 = .ok (.goto 4, 3) := by decide +kernel
theorem dX8_keyword_111 : decode cX8_keyword 111 = .ok (.iconst 4, 1) := by decide +kernel
theorem dX8_keyword_112 : decode cX8_keyword 112 = .ok (.ireturn, 1) := by decide +kernel
theorem dX8_isWord_0 : decode cX8_isWord 0 = .ok (.iload_n 2, 1) := by decide +kernel
theorem dX8_isWord_1 : decode cX8_isWord 1 = .ok (.aload_n 3, 1) := by decide +kernel
theorem dX8_isWord_2 : decode cX8_isWord 2 = .ok (.invokevirtual 105, 3) := by decide +kernel
theorem dX8_isWord_5 : decode cX8_isWord 5 = .ok (.if_icmp .eq 5, 3) := by decide +kernel
theorem dX8_isWord_8 : decode cX8_isWord 8 = .ok (.iconst 0, 1) := by decide +kernel
theorem dX8_isWord_9 : decode cX8_isWord 9 = .ok (.ireturn, 1) := by decide +kernel
theorem dX8_isWord_10 : decode cX8_isWord 10 = .ok (.iconst 0, 1) := by decide +kernel
theorem dX8_isWord_11 : decode cX8_isWord 11 = .ok (.istore 4, 2) := by decide +kernel
theorem dX8_isWord_13 : decode cX8_isWord 13 = .ok (.iload 4, 2) := by decide +kernel
theorem dX8_isWord_15 : decode cX8_isWord 15 = .ok (.aload_n 3, 1) := by decide +kernel
theorem dX8_isWord_16 : decode cX8_isWord 16 = .ok (.invokevirtual 105, 3) := by decide +kernel
theorem dX8_isWord_19 : decode cX8_isWord 19 = .ok (.if_icmp .ge 28, 3) := by decide +kernel
theorem dX8_isWord_22 : decode cX8_isWord 22 = .ok (.aload_n 0, 1) := by decide +kernel
theorem dX8_isWord_23 : decode cX8_isWord 23 = .ok (.iload_n 1, 1) := by decide +kernel
theorem dX8_isWord_24 : decode cX8_isWord 24 = .ok (.iload 4, 2) := by decide +kernel
theorem dX8_isWord_26 : decode cX8_isWord 26 = .ok (.iadd, 1) := by decide +kernel
theorem dX8_isWord_27 : decode cX8_isWord 27 = .ok (.invokevirtual 39, 3) := by decide +kernel
theorem dX8_isWord_30 : decode cX8_isWord 30 = .ok (.aload_n 3, 1) := by decide +kernel
theorem dX8_isWord_31 : decode cX8_isWord 31 = .ok (.iload 4, 2) := by decide +kernel
theorem dX8_isWord_33 : decode cX8_isWord 33 = .ok (.invokevirtual 110, 3) := by decide +kernel
theorem dX8_isWord_36 : decode cX8_isWord 36 = .ok (.if_icmp .eq 5, 3) := by decide +kernel
theorem dX8_isWord_39 : decode cX8_isWord 39 = .ok (.iconst 0, 1) := by decide +kernel
theorem dX8_isWord_40 : decode cX8_isWord 40 = .ok (.ireturn, 1) := by decide +kernel
theorem dX8_isWord_41 : decode cX8_isWord 41 = .ok (.iinc 4 1, 3) := by decide +kernel
theorem dX8_isWord_44 : decode cX8_isWord 44 = .ok (.goto (-31), 3) := by decide +kernel
theorem dX8_isWord_47 : decode cX8_isWord 47 = .ok (.iconst 1, 1) := by decide +kernel
theorem dX8_isWord_48 : decode cX8_isWord 48 = .ok (.ireturn, 1) := by decide +kernel
theorem dX8_nameNumber_0 : decode cX8_nameNumber 0 = .ok (.iconst 0, 1) := by decide +kernel
theorem dX8_nameNumber_1 : decode cX8_nameNumber 1 = .ok (.istore 4, 2) := by decide +kernel
theorem dX8_nameNumber_3 : decode cX8_nameNumber 3 = .ok (.iload 4, 2) := by decide +kernel
theorem dX8_nameNumber_5 : decode cX8_nameNumber 5 = .ok (.aload_n 0, 1) := by decide +kernel
theorem dX8_nameNumber_6 : decode cX8_nameNumber 6 = .ok (.getfield 26, 3) := by decide +kernel
theorem dX8_nameNumber_9 : decode cX8_nameNumber 9 = .ok (.invokevirtual 35, 3) := by decide +kernel
theorem dX8_nameNumber_12 : decode cX8_nameNumber 12 = .ok (.if_icmp .ge 43, 3) := by decide +kernel
theorem dX8_nameNumber_15 : decode cX8_nameNumber 15 = .ok (.aload_n 0, 1) := by decide +kernel
theorem dX8_nameNumber_16 : decode cX8_nameNumber 16 = .ok (.getfield 29, 3) := by decide +kernel
theorem dX8_nameNumber_19 : decode cX8_nameNumber 19 = .ok (.iload 4, 2) := by decide +kernel
theorem dX8_nameNumber_21 : decode cX8_nameNumber 21 = .ok (.invokevirtual 39, 3) := by decide +kernel
theorem dX8_nameNumber_24 : decode cX8_nameNumber 24 = .ok (.iload_n 3, 1) := by decide +kernel
theorem dX8_nameNumber_25 : decode cX8_nameNumber 25 = .ok (.if_icmp .ne 24, 3) := by decide +kernel
theorem dX8_nameNumber_28 : decode cX8_nameNumber 28 = .ok (.aload_n 1, 1) := by decide +kernel
theorem dX8_nameNumber_29 : decode cX8_nameNumber 29 = .ok (.aload_n 0, 1) := by decide +kernel
theorem dX8_nameNumber_30 : decode cX8_nameNumber 30 = .ok (.getfield 26, 3) := by decide +kernel
theorem dX8_nameNumber_33 : decode cX8_nameNumber 33 = .ok (.iload 4, 2) := by decide +kernel
theorem dX8_nameNumber_35 : decode cX8_nameNumber 35 = .ok (.invokevirtual 39, 3) := by decide +kernel
theorem dX8_nameNumber_38 : decode cX8_nameNumber 38 = .ok (.iload_n 2, 1) := by decide +kernel
theorem dX8_nameNumber_39 : decode cX8_nameNumber 39 = .ok (.iload_n 3, 1) := by decide +kernel
theorem dX8_nameNumber_40 : decode cX8_nameNumber 40 = .ok (.invokestatic 114, 3) := by decide +kernel
theorem dX8_nameNumber_43 : decode cX8_nameNumber 43 = .ok (.ifCond .eq 6, 3) := by decide +kernel
theorem dX8_nameNumber_46 : decode cX8_nameNumber 46 = .ok (.iload 4, 2) := by decide +kernel
theorem dX8_nameNumber_48 : decode cX8_nameNumber 48 = .ok (.ireturn, 1) := by decide +kernel
theorem dX8_nameNumber_49 : decode cX8_nameNumber 49 = .ok (.iinc 4 1, 3) := by decide +kernel
theorem dX8_nameNumber_52 : decode cX8_nameNumber 52 = .ok (.goto (-49), 3) := by decide +kernel
theorem dX8_nameNumber_55 : decode cX8_nameNumber 55 = .ok (.aload_n 0, 1) := by decide +kernel
theorem dX8_nameNumber_56 : decode cX8_nameNumber 56 = .ok (.getfield 26, 3) := by decide +kernel
theorem dX8_nameNumber_59 : decode cX8_nameNumber 59 = .ok (.iload_n 2, 1) := by decide +kernel
theorem dX8_nameNumber_60 : decode cX8_nameNumber 60 = .ok (.invokevirtual 64, 3) := by decide +kernel
theorem dX8_nameNumber_63 : decode cX8_nameNumber 63 = .ok (.aload_n 0, 1) := by decide +kernel
theorem dX8_nameNumber_64 : decode cX8_nameNumber 64 = .ok (.getfield 29, 3) := by decide +kernel
theorem dX8_nameNumber_67 : decode cX8_nameNumber 67 = .ok (.iload_n 3, 1) := by decide +kernel
theorem dX8_nameNumber_68 : decode cX8_nameNumber 68 = .ok (.invokevirtual 64, 3) := by decide +kernel
theorem dX8_nameNumber_71 : decode cX8_nameNumber 71 = .ok (.aload_n 0, 1) := by decide +kernel
theorem dX8_nameNumber_72 : decode cX8_nameNumber 72 = .ok (.getfield 26, 3) := by decide +kernel
theorem dX8_nameNumber_75 : decode cX8_nameNumber 75 = .ok (.invokevirtual 35, 3) := by decide +kernel
theorem dX8_nameNumber_78 : decode cX8_nameNumber 78 = .ok (.iconst 1, 1) := by decide +kernel
theorem dX8_nameNumber_79 : decode cX8_nameNumber 79 = .ok (.isub, 1) := by decide +kernel
theorem dX8_nameNumber_80 : decode cX8_nameNumber 80 = .ok (.ireturn, 1) := by decide +kernel
theorem dX8_areSame_0 : decode cX8_areSame 0 = .ok (.iconst 0, 1) := by decide +kernel
theorem dX8_areSame_1 : decode cX8_areSame 1 = .ok (.istore 4, 2) := by decide +kernel
theorem dX8_areSame_3 : decode cX8_areSame 3 = .ok (.iload 4, 2) := by decide +kernel
theorem dX8_areSame_5 : decode cX8_areSame 5 = .ok (.iload_n 3, 1) := by decide +kernel
theorem dX8_areSame_6 : decode cX8_areSame 6 = .ok (.if_icmp .ge 30, 3) := by decide +kernel
theorem dX8_areSame_9 : decode cX8_areSame 9 = .ok (.aload_n 0, 1) := by decide +kernel
theorem dX8_areSame_10 : decode cX8_areSame 10 = .ok (.iload_n 1, 1) := by decide +kernel
theorem dX8_areSame_11 : decode cX8_areSame 11 = .ok (.iload 4, 2) := by decide +kernel
theorem dX8_areSame_13 : decode cX8_areSame 13 = .ok (.iadd, 1) := by decide +kernel
theorem dX8_areSame_14 : decode cX8_areSame 14 = .ok (.invokevirtual 39, 3) := by decide +kernel
theorem dX8_areSame_17 : decode cX8_areSame 17 = .ok (.aload_n 0, 1) := by decide +kernel
theorem dX8_areSame_18 : decode cX8_areSame 18 = .ok (.iload_n 2, 1) := by decide +kernel
theorem dX8_areSame_19 : decode cX8_areSame 19 = .ok (.iload 4, 2) := by decide +kernel
theorem dX8_areSame_21 : decode cX8_areSame 21 = .ok (.iadd, 1) := by decide +kernel
theorem dX8_areSame_22 : decode cX8_areSame 22 = .ok (.invokevirtual 39, 3) := by decide +kernel
theorem dX8_areSame_25 : decode cX8_areSame 25 = .ok (.if_icmp .eq 5, 3) := by decide +kernel
theorem dX8_areSame_28 : decode cX8_areSame 28 = .ok (.iconst 0, 1) := by decide +kernel
theorem dX8_areSame_29 : decode cX8_areSame 29 = .ok (.ireturn, 1) := by decide +kernel
theorem dX8_areSame_30 : decode cX8_areSame 30 = .ok (.iinc 4 1, 3) := by decide +kernel
theorem dX8_areSame_33 : decode cX8_areSame 33 = .ok (.goto (-30), 3) := by decide +kernel
theorem dX8_areSame_36 : decode cX8_areSame 36 = .ok (.iconst 1, 1) := by decide +kernel
theorem dX8_areSame_37 : decode cX8_areSame 37 = .ok (.ireturn, 1) := by decide +kernel
theorem dX8_scanMark_0 : decode cX8_scanMark 0 = .ok (.aload_n 1, 1) := by decide +kernel
theorem dX8_scanMark_1 : decode cX8_scanMark 1 = .ok (.iload_n 2, 1) := by decide +kernel
theorem dX8_scanMark_2 : decode cX8_scanMark 2 = .ok (.invokevirtual 39, 3) := by decide +kernel
theorem dX8_scanMark_5 : decode cX8_scanMark 5 = .ok (.aload_n 1, 1) := by decide +kernel
theorem dX8_scanMark_6 : decode cX8_scanMark 6 = .ok (.iload_n 2, 1) := by decide +kernel
theorem dX8_scanMark_7 : decode cX8_scanMark 7 = .ok (.iconst 1, 1) := by decide +kernel
theorem dX8_scanMark_8 : decode cX8_scanMark 8 = .ok (.iadd, 1) := by decide +kernel
theorem dX8_scanMark_9 : decode cX8_scanMark 9 = .ok (.invokevirtual 39, 3) := by decide +kernel
theorem dX8_scanMark_12 : decode cX8_scanMark 12 = .ok (.invokestatic 118, 3) := by decide +kernel
theorem dX8_scanMark_15 : decode cX8_scanMark 15 = .ok (.istore_n 3, 1) := by decide +kernel
theorem dX8_scanMark_16 : decode cX8_scanMark 16 = .ok (.iload_n 3, 1) := by decide +kernel
theorem dX8_scanMark_17 : decode cX8_scanMark 17 = .ok (.iconst 1, 1) := by decide +kernel
theorem dX8_scanMark_18 : decode cX8_scanMark 18 = .ok (.if_icmp .eq 14, 3) := by decide +kernel
theorem dX8_scanMark_21 : decode cX8_scanMark 21 = .ok (.aload_n 0, 1) := by decide +kernel
theorem dX8_scanMark_22 : decode cX8_scanMark 22 = .ok (.iload_n 3, 1) := by decide +kernel
theorem dX8_scanMark_23 : decode cX8_scanMark 23 = .ok (.iconst 0, 1) := by decide +kernel
theorem dX8_scanMark_24 : decode cX8_scanMark 24 = .ok (.iload_n 2, 1) := by decide +kernel
theorem dX8_scanMark_25 : decode cX8_scanMark 25 = .ok (.invokevirtual 60, 3) := by decide +kernel
theorem dX8_scanMark_28 : decode cX8_scanMark 28 = .ok (.iload_n 2, 1) := by decide +kernel
theorem dX8_scanMark_29 : decode cX8_scanMark 29 = .ok (.iconst 2, 1) := by decide +kernel
theorem dX8_scanMark_30 : decode cX8_scanMark 30 = .ok (.iadd, 1) := by decide +kernel
theorem dX8_scanMark_31 : decode cX8_scanMark 31 = .ok (.ireturn, 1) := by decide +kernel
theorem dX8_scanMark_32 : decode cX8_scanMark 32 = .ok (.aload_n 0, 1) := by decide +kernel
theorem dX8_scanMark_33 : decode cX8_scanMark 33 = .ok (.aload_n 1, 1) := by decide +kernel
theorem dX8_scanMark_34 : decode cX8_scanMark 34 = .ok (.iload_n 2, 1) := by decide +kernel
theorem dX8_scanMark_35 : decode cX8_scanMark 35 = .ok (.invokevirtual 39, 3) := by decide +kernel
theorem dX8_scanMark_38 : decode cX8_scanMark 38 = .ok (.invokestatic 122, 3) := by decide +kernel
theorem dX8_scanMark_41 : decode cX8_scanMark 41 = .ok (.iconst 0, 1) := by decide +kernel
theorem dX8_scanMark_42 : decode cX8_scanMark 42 = .ok (.iload_n 2, 1) := by decide +kernel
theorem dX8_scanMark_43 : decode cX8_scanMark 43 = .ok (.invokevirtual 60, 3) := by decide +kernel
theorem dX8_scanMark_46 : decode cX8_scanMark 46 = .ok (.iload_n 2, 1) := by decide +kernel
theorem dX8_scanMark_47 : decode cX8_scanMark 47 = .ok (.iconst 1, 1) := by decide +kernel
theorem dX8_scanMark_48 : decode cX8_scanMark 48 = .ok (.iadd, 1) := by decide +kernel
theorem dX8_scanMark_49 : decode cX8_scanMark 49 = .ok (.ireturn, 1) := by decide +kernel
theorem dX8_markOfTwo_0 : decode cX8_markOfTwo 0 = .ok (.iload_n 1, 1) := by decide +kernel
theorem dX8_markOfTwo_1 : decode cX8_markOfTwo 1 = .ok (.bipush 61, 2) := by decide +kernel
theorem dX8_markOfTwo_3 : decode cX8_markOfTwo 3 = .ok (.if_icmp .ne 49, 3) := by decide +kernel
theorem dX8_markOfTwo_6 : decode cX8_markOfTwo 6 = .ok (.iload_n 0, 1) := by decide +kernel
theorem dX8_markOfTwo_7 : decode cX8_markOfTwo 7 = .ok (.bipush 60, 2) := by decide +kernel
theorem dX8_markOfTwo_9 : decode cX8_markOfTwo 9 = .ok (.if_icmp .ne 8, 3) := by decide +kernel
theorem dX8_markOfTwo_12 : decode cX8_markOfTwo 12 = .ok (.bipush 18, 2) := by decide +kernel
theorem dX8_markOfTwo_14 : decode cX8_markOfTwo 14 = .ok (.goto 37, 3) := by decide +kernel
theorem dX8_markOfTwo_17 : decode cX8_markOfTwo 17 = .ok (.iload_n 0, 1) := by decide +kernel
theorem dX8_markOfTwo_18 : decode cX8_markOfTwo 18 = .ok (.bipush 62, 2) := by decide +kernel
theorem dX8_markOfTwo_20 : decode cX8_markOfTwo 20 = .ok (.if_icmp .ne 8, 3) := by decide +kernel
theorem dX8_markOfTwo_23 : decode cX8_markOfTwo 23 = .ok (.bipush 20, 2) := by decide +kernel
theorem dX8_markOfTwo_25 : decode cX8_markOfTwo 25 = .ok (.goto 26, 3) := by decide +kernel
theorem dX8_markOfTwo_28 : decode cX8_markOfTwo 28 = .ok (.iload_n 0, 1) := by decide +kernel
theorem dX8_markOfTwo_29 : decode cX8_markOfTwo 29 = .ok (.bipush 61, 2) := by decide +kernel
theorem dX8_markOfTwo_31 : decode cX8_markOfTwo 31 = .ok (.if_icmp .ne 8, 3) := by decide +kernel
theorem dX8_markOfTwo_34 : decode cX8_markOfTwo 34 = .ok (.bipush 21, 2) := by decide +kernel
theorem dX8_markOfTwo_36 : decode cX8_markOfTwo 36 = .ok (.goto 15, 3) := by decide +kernel
theorem dX8_markOfTwo_39 : decode cX8_markOfTwo 39 = .ok (.iload_n 0, 1) := by decide +kernel
theorem dX8_markOfTwo_40 : decode cX8_markOfTwo 40 = .ok (.bipush 33, 2) := by decide +kernel
theorem dX8_markOfTwo_42 : decode cX8_markOfTwo 42 = .ok (.if_icmp .ne 8, 3) := by decide +kernel
theorem dX8_markOfTwo_45 : decode cX8_markOfTwo 45 = .ok (.bipush 22, 2) := by decide +kernel
theorem dX8_markOfTwo_47 : decode cX8_markOfTwo 47 = .ok (.goto 4, 3) := by decide +kernel
theorem dX8_markOfTwo_50 : decode cX8_markOfTwo 50 = .ok (.iconst 1, 1) := by decide +kernel
theorem dX8_markOfTwo_51 : decode cX8_markOfTwo 51 = .ok (.ireturn, 1) := by decide +kernel
theorem dX8_markOfTwo_52 : decode cX8_markOfTwo 52 = .ok (.iload_n 0, 1) := by decide +kernel
theorem dX8_markOfTwo_53 : decode cX8_markOfTwo 53 = .ok (.iload_n 1, 1) := by decide +kernel
theorem dX8_markOfTwo_54 : decode cX8_markOfTwo 54 = .ok (.if_icmp .eq 5, 3) := by decide +kernel
theorem dX8_markOfTwo_57 : decode cX8_markOfTwo 57 = .ok (.iconst 1, 1) := by decide +kernel
theorem dX8_markOfTwo_58 : decode cX8_markOfTwo 58 = .ok (.ireturn, 1) := by decide +kernel
theorem dX8_markOfTwo_59 : decode cX8_markOfTwo 59 = .ok (.iload_n 0, 1) := by decide +kernel
theorem dX8_markOfTwo_60 : decode cX8_markOfTwo 60 = .ok (.bipush 38, 2) := by decide +kernel
theorem dX8_markOfTwo_62 : decode cX8_markOfTwo 62 = .ok (.if_icmp .ne 8, 3) := by decide +kernel
theorem dX8_markOfTwo_65 : decode cX8_markOfTwo 65 = .ok (.bipush 23, 2) := by decide +kernel
theorem dX8_markOfTwo_67 : decode cX8_markOfTwo 67 = .ok (.goto 15, 3) := by decide +kernel
theorem dX8_markOfTwo_70 : decode cX8_markOfTwo 70 = .ok (.iload_n 0, 1) := by decide +kernel
theorem dX8_markOfTwo_71 : decode cX8_markOfTwo 71 = .ok (.bipush 124, 2) := by decide +kernel
theorem dX8_markOfTwo_73 : decode cX8_markOfTwo 73 = .ok (.if_icmp .ne 8, 3) := by decide +kernel
theorem dX8_markOfTwo_76 : decode cX8_markOfTwo 76 = .ok (.bipush 24, 2) := by decide +kernel
theorem dX8_markOfTwo_78 : decode cX8_markOfTwo 78 = .ok (.goto 4, 3) := by decide +kernel
theorem dX8_markOfTwo_81 : decode cX8_markOfTwo 81 = .ok (.iconst 1, 1) := by decide +kernel
theorem dX8_markOfTwo_82 : decode cX8_markOfTwo 82 = .ok (.ireturn, 1) := by decide +kernel
theorem dX8_markOfOne_0 : decode cX8_markOfOne 0 = .ok (.iload_n 0, 1) := by decide +kernel
theorem dX8_markOfOne_1 : decode cX8_markOfOne 1 = .ok (.lookupswitch 187 #[(33, 160), (35, 163), (37, 151), (40, 169), (41, 172), (42, 145), (43, 139), (44, 181), (45, 142), (47, 148), (59, 184), (60, 154), (61, 166), (62, 157), (123, 175), (125, 178)], 139) := by decide +kernel
theorem dX8_markOfOne_140 : decode cX8_markOfOne 140 = .ok (.bipush 12, 2) := by decide +kernel
theorem dX8_markOfOne_142 : decode cX8_markOfOne 142 = .ok (.ireturn, 1) := by decide +kernel
theorem dX8_markOfOne_143 : decode cX8_markOfOne 143 = .ok (.bipush 13, 2) := by decide +kernel
theorem dX8_markOfOne_145 : decode cX8_markOfOne 145 = .ok (.ireturn, 1) := by decide +kernel
theorem dX8_markOfOne_146 : decode cX8_markOfOne 146 = .ok (.bipush 14, 2) := by decide +kernel
theorem dX8_markOfOne_148 : decode cX8_markOfOne 148 = .ok (.ireturn, 1) := by decide +kernel
theorem dX8_markOfOne_149 : decode cX8_markOfOne 149 = .ok (.bipush 15, 2) := by decide +kernel
theorem dX8_markOfOne_151 : decode cX8_markOfOne 151 = .ok (.ireturn, 1) := by decide +kernel
theorem dX8_markOfOne_152 : decode cX8_markOfOne 152 = .ok (.bipush 16, 2) := by decide +kernel
theorem dX8_markOfOne_154 : decode cX8_markOfOne 154 = .ok (.ireturn, 1) := by decide +kernel
theorem dX8_markOfOne_155 : decode cX8_markOfOne 155 = .ok (.bipush 17, 2) := by decide +kernel
theorem dX8_markOfOne_157 : decode cX8_markOfOne 157 = .ok (.ireturn, 1) := by decide +kernel
theorem dX8_markOfOne_158 : decode cX8_markOfOne 158 = .ok (.bipush 19, 2) := by decide +kernel
theorem dX8_markOfOne_160 : decode cX8_markOfOne 160 = .ok (.ireturn, 1) := by decide +kernel
theorem dX8_markOfOne_161 : decode cX8_markOfOne 161 = .ok (.bipush 25, 2) := by decide +kernel
theorem dX8_markOfOne_163 : decode cX8_markOfOne 163 = .ok (.ireturn, 1) := by decide +kernel
theorem dX8_markOfOne_164 : decode cX8_markOfOne 164 = .ok (.bipush 26, 2) := by decide +kernel
theorem dX8_markOfOne_166 : decode cX8_markOfOne 166 = .ok (.ireturn, 1) := by decide +kernel
theorem dX8_markOfOne_167 : decode cX8_markOfOne 167 = .ok (.bipush 27, 2) := by decide +kernel
theorem dX8_markOfOne_169 : decode cX8_markOfOne 169 = .ok (.ireturn, 1) := by decide +kernel
theorem dX8_markOfOne_170 : decode cX8_markOfOne 170 = .ok (.bipush 28, 2) := by decide +kernel
theorem dX8_markOfOne_172 : decode cX8_markOfOne 172 = .ok (.ireturn, 1) := by decide +kernel
theorem dX8_markOfOne_173 : decode cX8_markOfOne 173 = .ok (.bipush 29, 2) := by decide +kernel
theorem dX8_markOfOne_175 : decode cX8_markOfOne 175 = .ok (.ireturn, 1) := by decide +kernel
theorem dX8_markOfOne_176 : decode cX8_markOfOne 176 = .ok (.bipush 30, 2) := by decide +kernel
theorem dX8_markOfOne_178 : decode cX8_markOfOne 178 = .ok (.ireturn, 1) := by decide +kernel
theorem dX8_markOfOne_179 : decode cX8_markOfOne 179 = .ok (.bipush 31, 2) := by decide +kernel
theorem dX8_markOfOne_181 : decode cX8_markOfOne 181 = .ok (.ireturn, 1) := by decide +kernel
theorem dX8_markOfOne_182 : decode cX8_markOfOne 182 = .ok (.bipush 32, 2) := by decide +kernel
theorem dX8_markOfOne_184 : decode cX8_markOfOne 184 = .ok (.ireturn, 1) := by decide +kernel
theorem dX8_markOfOne_185 : decode cX8_markOfOne 185 = .ok (.bipush 33, 2) := by decide +kernel
theorem dX8_markOfOne_187 : decode cX8_markOfOne 187 = .ok (.ireturn, 1) := by decide +kernel
theorem dX8_markOfOne_188 : decode cX8_markOfOne 188 = .ok (.iconst 1, 1) := by decide +kernel
theorem dX8_markOfOne_189 : decode cX8_markOfOne 189 = .ok (.ireturn, 1) := by decide +kernel
theorem dX8_isDigit_0 : decode cX8_isDigit 0 = .ok (.iload_n 0, 1) := by decide +kernel
theorem dX8_isDigit_1 : decode cX8_isDigit 1 = .ok (.bipush 48, 2) := by decide +kernel
theorem dX8_isDigit_3 : decode cX8_isDigit 3 = .ok (.if_icmp .lt 13, 3) := by decide +kernel
theorem dX8_isDigit_6 : decode cX8_isDigit 6 = .ok (.iload_n 0, 1) := by decide +kernel
theorem dX8_isDigit_7 : decode cX8_isDigit 7 = .ok (.bipush 57, 2) := by decide +kernel
theorem dX8_isDigit_9 : decode cX8_isDigit 9 = .ok (.if_icmp .gt 7, 3) := by decide +kernel
theorem dX8_isDigit_12 : decode cX8_isDigit 12 = .ok (.iconst 1, 1) := by decide +kernel
theorem dX8_isDigit_13 : decode cX8_isDigit 13 = .ok (.goto 4, 3) := by decide +kernel
theorem dX8_isDigit_16 : decode cX8_isDigit 16 = .ok (.iconst 0, 1) := by decide +kernel
theorem dX8_isDigit_17 : decode cX8_isDigit 17 = .ok (.ireturn, 1) := by decide +kernel
theorem dX8_isLetter_0 : decode cX8_isLetter 0 = .ok (.iload_n 0, 1) := by decide +kernel
theorem dX8_isLetter_1 : decode cX8_isLetter 1 = .ok (.bipush 97, 2) := by decide +kernel
theorem dX8_isLetter_3 : decode cX8_isLetter 3 = .ok (.if_icmp .lt 13, 3) := by decide +kernel
theorem dX8_isLetter_6 : decode cX8_isLetter 6 = .ok (.iload_n 0, 1) := by decide +kernel
theorem dX8_isLetter_7 : decode cX8_isLetter 7 = .ok (.bipush 122, 2) := by decide +kernel
theorem dX8_isLetter_9 : decode cX8_isLetter 9 = .ok (.if_icmp .gt 7, 3) := by decide +kernel
theorem dX8_isLetter_12 : decode cX8_isLetter 12 = .ok (.iconst 1, 1) := by decide +kernel
theorem dX8_isLetter_13 : decode cX8_isLetter 13 = .ok (.goto 4, 3) := by decide +kernel
theorem dX8_isLetter_16 : decode cX8_isLetter 16 = .ok (.iconst 0, 1) := by decide +kernel
theorem dX8_isLetter_17 : decode cX8_isLetter 17 = .ok (.ireturn, 1) := by decide +kernel
theorem dX9_init_0 : decode cX9_init 0 = .ok (.aload_n 0, 1) := by decide +kernel
theorem dX9_init_1 : decode cX9_init 1 = .ok (.invokespecial 3, 3) := by decide +kernel
theorem dX9_init_4 : decode cX9_init 4 = .ok (.aload_n 0, 1) := by decide +kernel
theorem dX9_init_5 : decode cX9_init 5 = .ok (.new 9, 3) := by decide +kernel
theorem dX9_init_8 : decode cX9_init 8 = .ok (.dup, 1) := by decide +kernel
theorem dX9_init_9 : decode cX9_init 9 = .ok (.sipush 1650, 3) := by decide +kernel
theorem dX9_init_12 : decode cX9_init 12 = .ok (.invokespecial 11, 3) := by decide +kernel
theorem dX9_init_15 : decode cX9_init 15 = .ok (.putfield 14, 3) := by decide +kernel
theorem dX9_init_18 : decode cX9_init 18 = .ok (.aload_n 0, 1) := by decide +kernel
theorem dX9_init_19 : decode cX9_init 19 = .ok (.new 9, 3) := by decide +kernel
theorem dX9_init_22 : decode cX9_init 22 = .ok (.dup, 1) := by decide +kernel
theorem dX9_init_23 : decode cX9_init 23 = .ok (.sipush 1650, 3) := by decide +kernel
theorem dX9_init_26 : decode cX9_init 26 = .ok (.invokespecial 11, 3) := by decide +kernel
theorem dX9_init_29 : decode cX9_init 29 = .ok (.putfield 20, 3) := by decide +kernel
theorem dX9_init_32 : decode cX9_init 32 = .ok (.aload_n 0, 1) := by decide +kernel
theorem dX9_init_33 : decode cX9_init 33 = .ok (.aload_n 1, 1) := by decide +kernel
theorem dX9_init_34 : decode cX9_init 34 = .ok (.putfield 23, 3) := by decide +kernel
theorem dX9_init_37 : decode cX9_init 37 = .ok (.aload_n 0, 1) := by decide +kernel
theorem dX9_init_38 : decode cX9_init 38 = .ok (.aload_n 1, 1) := by decide +kernel
theorem dX9_init_39 : decode cX9_init 39 = .ok (.getfield 27, 3) := by decide +kernel
theorem dX9_init_42 : decode cX9_init 42 = .ok (.putfield 33, 3) := by decide +kernel
theorem dX9_init_45 : decode cX9_init 45 = .ok (.aload_n 0, 1) := by decide +kernel
theorem dX9_init_46 : decode cX9_init 46 = .ok (.aload_n 2, 1) := by decide +kernel
theorem dX9_init_47 : decode cX9_init 47 = .ok (.putfield 34, 3) := by decide +kernel
theorem dX9_init_50 : decode cX9_init 50 = .ok (.return_, 1) := by decide +kernel
theorem dX9_run_0 : decode cX9_run 0 = .ok (.aload_n 0, 1) := by decide +kernel
theorem dX9_run_1 : decode cX9_run 1 = .ok (.aload_n 1, 1) := by decide +kernel
theorem dX9_run_2 : decode cX9_run 2 = .ok (.putfield 23, 3) := by decide +kernel
theorem dX9_run_5 : decode cX9_run 5 = .ok (.aload_n 0, 1) := by decide +kernel
theorem dX9_run_6 : decode cX9_run 6 = .ok (.aload_n 1, 1) := by decide +kernel
theorem dX9_run_7 : decode cX9_run 7 = .ok (.getfield 27, 3) := by decide +kernel
theorem dX9_run_10 : decode cX9_run 10 = .ok (.putfield 33, 3) := by decide +kernel
theorem dX9_run_13 : decode cX9_run 13 = .ok (.aload_n 0, 1) := by decide +kernel
theorem dX9_run_14 : decode cX9_run 14 = .ok (.aload_n 2, 1) := by decide +kernel
theorem dX9_run_15 : decode cX9_run 15 = .ok (.putfield 34, 3) := by decide +kernel
theorem dX9_run_18 : decode cX9_run 18 = .ok (.aload_n 0, 1) := by decide +kernel
theorem dX9_run_19 : decode cX9_run 19 = .ok (.getfield 34, 3) := by decide +kernel
theorem dX9_run_22 : decode cX9_run 22 = .ok (.iload_n 3, 1) := by decide +kernel
theorem dX9_run_23 : decode cX9_run 23 = .ok (.iload 4, 2) := by decide +kernel
theorem dX9_run_25 : decode cX9_run 25 = .ok (.iload 5, 2) := by decide +kernel
theorem dX9_run_27 : decode cX9_run 27 = .ok (.invokevirtual 38, 3) := by decide +kernel
theorem dX9_run_30 : decode cX9_run 30 = .ok (.aload_n 0, 1) := by decide +kernel
theorem dX9_run_31 : decode cX9_run 31 = .ok (.getfield 14, 3) := by decide +kernel
theorem dX9_run_34 : decode cX9_run 34 = .ok (.invokevirtual 44, 3) := by decide +kernel
theorem dX9_run_37 : decode cX9_run 37 = .ok (.aload_n 0, 1) := by decide +kernel
theorem dX9_run_38 : decode cX9_run 38 = .ok (.getfield 20, 3) := by decide +kernel
theorem dX9_run_41 : decode cX9_run 41 = .ok (.invokevirtual 44, 3) := by decide +kernel
theorem dX9_run_44 : decode cX9_run 44 = .ok (.aload_n 0, 1) := by decide +kernel
theorem dX9_run_45 : decode cX9_run 45 = .ok (.iconst 0, 1) := by decide +kernel
theorem dX9_run_46 : decode cX9_run 46 = .ok (.putfield 47, 3) := by decide +kernel
theorem dX9_run_49 : decode cX9_run 49 = .ok (.aload_n 0, 1) := by decide +kernel
theorem dX9_run_50 : decode cX9_run 50 = .ok (.iconst 0, 1) := by decide +kernel
theorem dX9_run_51 : decode cX9_run 51 = .ok (.putfield 51, 3) := by decide +kernel
theorem dX9_run_54 : decode cX9_run 54 = .ok (.iconst 0, 1) := by decide +kernel
theorem dX9_run_55 : decode cX9_run 55 = .ok (.istore 6, 2) := by decide +kernel
theorem dX9_run_57 : decode cX9_run 57 = .ok (.iload 6, 2) := by decide +kernel
theorem dX9_run_59 : decode cX9_run 59 = .ok (.ldc 54, 2) := by decide +kernel
theorem dX9_run_61 : decode cX9_run 61 = .ok (.if_icmp .ge 52, 3) := by decide +kernel
theorem dX9_run_64 : decode cX9_run 64 = .ok (.aload_n 0, 1) := by decide +kernel
theorem dX9_run_65 : decode cX9_run 65 = .ok (.getfield 34, 3) := by decide +kernel
theorem dX9_run_68 : decode cX9_run 68 = .ok (.invokevirtual 55, 3) := by decide +kernel
theorem dX9_run_71 : decode cX9_run 71 = .ok (.ifCond .eq 42, 3) := by decide +kernel
theorem dX9_run_74 : decode cX9_run 74 = .ok (.aload_n 0, 1) := by decide +kernel
theorem dX9_run_75 : decode cX9_run 75 = .ok (.getfield 51, 3) := by decide +kernel
theorem dX9_run_78 : decode cX9_run 78 = .ok (.ifCond .ne 10, 3) := by decide +kernel
theorem dX9_run_81 : decode cX9_run 81 = .ok (.aload_n 0, 1) := by decide +kernel
theorem dX9_run_82 : decode cX9_run 82 = .ok (.invokevirtual 59, 3) := by decide +kernel
theorem dX9_run_85 : decode cX9_run 85 = .ok (.goto 22, 3) := by decide +kernel
theorem dX9_run_88 : decode cX9_run 88 = .ok (.aload_n 0, 1) := by decide +kernel
theorem dX9_run_89 : decode cX9_run 89 = .ok (.getfield 51, 3) := by decide +kernel
theorem dX9_run_92 : decode cX9_run 92 = .ok (.iconst 1, 1) := by decide +kernel
theorem dX9_run_93 : decode cX9_run 93 = .ok (.if_icmp .ne 10, 3) := by decide +kernel
theorem dX9_run_96 : decode cX9_run 96 = .ok (.aload_n 0, 1) := by decide +kernel
theorem dX9_run_97 : decode cX9_run 97 = .ok (.invokevirtual 62, 3) := by decide +kernel
theorem dX9_run_100 : decode cX9_run 100 = .ok (.goto 7, 3) := by decide +kernel
theorem dX9_run_103 : decode cX9_run 103 = .ok (.aload_n 0, 1) := by decide +kernel
theorem dX9_run_104 : decode cX9_run 104 = .ok (.invokevirtual 65, 3) := by decide +kernel
theorem dX9_run_107 : decode cX9_run 107 = .ok (.iinc 6 1, 3) := by decide +kernel
theorem dX9_run_110 : decode cX9_run 110 = .ok (.goto (-53), 3) := by decide +kernel
theorem dX9_run_113 : decode cX9_run 113 = .ok (.return_, 1) := by decide +kernel
theorem dX9_statement_0 : decode cX9_statement 0 = .ok (.aload_n 0, 1) := by decide +kernel
theorem dX9_statement_1 : decode cX9_statement 1 = .ok (.getfield 33, 3) := by decide +kernel
theorem dX9_statement_4 : decode cX9_statement 4 = .ok (.getfield 68, 3) := by decide +kernel
theorem dX9_statement_7 : decode cX9_statement 7 = .ok (.aload_n 0, 1) := by decide +kernel
theorem dX9_statement_8 : decode cX9_statement 8 = .ok (.getfield 47, 3) := by decide +kernel
theorem dX9_statement_11 : decode cX9_statement 11 = .ok (.invokevirtual 73, 3) := by decide +kernel
theorem dX9_statement_14 : decode cX9_statement 14 = .ok (.lookupswitch 73 #[(0, 34), (10, 52), (31, 45)], 34) := by decide +kernel
theorem dX9_statement_48 : decode cX9_statement 48 = .ok (.aload_n 0, 1) := by decide +kernel
theorem dX9_statement_49 : decode cX9_statement 49 = .ok (.getfield 34, 3) := by decide +kernel
theorem dX9_statement_52 : decode cX9_statement 52 = .ok (.iconst 0, 1) := by decide +kernel
theorem dX9_statement_53 : decode cX9_statement 53 = .ok (.invokevirtual 77, 3) := by decide +kernel
theorem dX9_statement_56 : decode cX9_statement 56 = .ok (.goto 45, 3) := by decide +kernel
theorem dX9_statement_59 : decode cX9_statement 59 = .ok (.aload_n 0, 1) := by decide +kernel
theorem dX9_statement_60 : decode cX9_statement 60 = .ok (.invokevirtual 80, 3) := by decide +kernel
theorem dX9_statement_63 : decode cX9_statement 63 = .ok (.goto 38, 3) := by decide +kernel
theorem dX9_statement_66 : decode cX9_statement 66 = .ok (.aload_n 0, 1) := by decide +kernel
theorem dX9_statement_67 : decode cX9_statement 67 = .ok (.aload_n 0, 1) := by decide +kernel
theorem dX9_statement_68 : decode cX9_statement 68 = .ok (.getfield 33, 3) := by decide +kernel
theorem dX9_statement_71 : decode cX9_statement 71 = .ok (.getfield 83, 3) := by decide +kernel
theorem dX9_statement_74 : decode cX9_statement 74 = .ok (.aload_n 0, 1) := by decide +kernel
theorem dX9_statement_75 : decode cX9_statement 75 = .ok (.getfield 47, 3) := by decide +kernel
theorem dX9_statement_78 : decode cX9_statement 78 = .ok (.invokevirtual 73, 3) := by decide +kernel
theorem dX9_statement_81 : decode cX9_statement 81 = .ok (.putfield 47, 3) := by decide +kernel
theorem dX9_statement_84 : decode cX9_statement 84 = .ok (.goto 17, 3) := by decide +kernel
theorem dX9_statement_87 : decode cX9_statement 87 = .ok (.aload_n 0, 1) := by decide +kernel
theorem dX9_statement_88 : decode cX9_statement 88 = .ok (.getfield 34, 3) := by decide +kernel
theorem dX9_statement_91 : decode cX9_statement 91 = .ok (.invokevirtual 84, 3) := by decide +kernel
theorem dX9_statement_94 : decode cX9_statement 94 = .ok (.ifCond .eq 7, 3) := by decide +kernel
theorem dX9_statement_97 : decode cX9_statement 97 = .ok (.aload_n 0, 1) := by decide +kernel
theorem dX9_statement_98 : decode cX9_statement 98 = .ok (.invokevirtual 87, 3) := by decide +kernel
theorem dX9_statement_101 : decode cX9_statement 101 = .ok (.return_, 1) := by decide +kernel
theorem dX9_beginStatement_0 : decode cX9_beginStatement 0 = .ok (.aload_n 0, 1) := by decide +kernel
theorem dX9_beginStatement_1 : decode cX9_beginStatement 1 = .ok (.getfield 20, 3) := by decide +kernel
theorem dX9_beginStatement_4 : decode cX9_beginStatement 4 = .ok (.aload_n 0, 1) := by decide +kernel
theorem dX9_beginStatement_5 : decode cX9_beginStatement 5 = .ok (.getfield 47, 3) := by decide +kernel
theorem dX9_beginStatement_8 : decode cX9_beginStatement 8 = .ok (.invokevirtual 90, 3) := by decide +kernel
theorem dX9_beginStatement_11 : decode cX9_beginStatement 11 = .ok (.aload_n 0, 1) := by decide +kernel
theorem dX9_beginStatement_12 : decode cX9_beginStatement 12 = .ok (.iconst 1, 1) := by decide +kernel
theorem dX9_beginStatement_13 : decode cX9_beginStatement 13 = .ok (.putfield 51, 3) := by decide +kernel
theorem dX9_beginStatement_16 : decode cX9_beginStatement 16 = .ok (.aload_n 0, 1) := by decide +kernel
theorem dX9_beginStatement_17 : decode cX9_beginStatement 17 = .ok (.getfield 33, 3) := by decide +kernel
theorem dX9_beginStatement_20 : decode cX9_beginStatement 20 = .ok (.getfield 68, 3) := by decide +kernel
theorem dX9_beginStatement_23 : decode cX9_beginStatement 23 = .ok (.aload_n 0, 1) := by decide +kernel
theorem dX9_beginStatement_24 : decode cX9_beginStatement 24 = .ok (.getfield 47, 3) := by decide +kernel
theorem dX9_beginStatement_27 : decode cX9_beginStatement 27 = .ok (.invokevirtual 73, 3) := by decide +kernel
theorem dX9_beginStatement_30 : decode cX9_beginStatement 30 = .ok (.bipush 34, 2) := by decide +kernel
theorem dX9_beginStatement_32 : decode cX9_beginStatement 32 = .ok (.if_icmp .ne 16, 3) := by decide +kernel
theorem dX9_beginStatement_35 : decode cX9_beginStatement 35 = .ok (.aload_n 0, 1) := by decide +kernel
theorem dX9_beginStatement_36 : decode cX9_beginStatement 36 = .ok (.dup, 1) := by decide +kernel
theorem dX9_beginStatement_37 : decode cX9_beginStatement 37 = .ok (.getfield 47, 3) := by decide +kernel
theorem dX9_beginStatement_40 : decode cX9_beginStatement 40 = .ok (.iconst 2, 1) := by decide +kernel
theorem dX9_beginStatement_41 : decode cX9_beginStatement 41 = .ok (.iadd, 1) := by decide +kernel
theorem dX9_beginStatement_42 : decode cX9_beginStatement 42 = .ok (.putfield 47, 3) := by decide +kernel
theorem dX9_beginStatement_45 : decode cX9_beginStatement 45 = .ok (.goto 32, 3) := by decide +kernel
theorem dX9_beginStatement_48 : decode cX9_beginStatement 48 = .ok (.aload_n 0, 1) := by decide +kernel
theorem dX9_beginStatement_49 : decode cX9_beginStatement 49 = .ok (.getfield 33, 3) := by decide +kernel
theorem dX9_beginStatement_52 : decode cX9_beginStatement 52 = .ok (.getfield 68, 3) := by decide +kernel
theorem dX9_beginStatement_55 : decode cX9_beginStatement 55 = .ok (.aload_n 0, 1) := by decide +kernel
theorem dX9_beginStatement_56 : decode cX9_beginStatement 56 = .ok (.getfield 47, 3) := by decide +kernel
theorem dX9_beginStatement_59 : decode cX9_beginStatement 59 = .ok (.invokevirtual 73, 3) := by decide +kernel
theorem dX9_beginStatement_62 : decode cX9_beginStatement 62 = .ok (.bipush 35, 2) := by decide +kernel
theorem dX9_beginStatement_64 : decode cX9_beginStatement 64 = .ok (.if_icmp .eq 13, 3) := by decide +kernel
theorem dX9_beginStatement_67 : decode cX9_beginStatement 67 = .ok (.aload_n 0, 1) := by decide +kernel
theorem dX9_beginStatement_68 : decode cX9_beginStatement 68 = .ok (.dup, 1) := by decide +kernel
theorem dX9_beginStatement_69 : decode cX9_beginStatement 69 = .ok (.getfield 47, 3) := by decide +kernel
theorem dX9_beginStatement_72 : decode cX9_beginStatement 72 = .ok (.iconst 1, 1) := by decide +kernel
theorem dX9_beginStatement_73 : decode cX9_beginStatement 73 = .ok (.iadd, 1) := by decide +kernel
theorem dX9_beginStatement_74 : decode cX9_beginStatement 74 = .ok (.putfield 47, 3) := by decide +kernel
theorem dX9_beginStatement_77 : decode cX9_beginStatement 77 = .ok (.return_, 1) := by decide +kernel
theorem dX9_endBlock_0 : decode cX9_endBlock 0 = .ok (.aload_n 0, 1) := by decide +kernel
theorem dX9_endBlock_1 : decode cX9_endBlock 1 = .ok (.getfield 33, 3) := by decide +kernel
theorem dX9_endBlock_4 : decode cX9_endBlock 4 = .ok (.getfield 83, 3) := by decide +kernel
theorem dX9_endBlock_7 : decode cX9_endBlock 7 = .ok (.aload_n 0, 1) := by decide +kernel
theorem dX9_endBlock_8 : decode cX9_endBlock 8 = .ok (.getfield 47, 3) := by decide +kernel
theorem dX9_endBlock_11 : decode cX9_endBlock 11 = .ok (.invokevirtual 73, 3) := by decide +kernel
theorem dX9_endBlock_14 : decode cX9_endBlock 14 = .ok (.istore_n 1, 1) := by decide +kernel
theorem dX9_endBlock_15 : decode cX9_endBlock 15 = .ok (.aload_n 0, 1) := by decide +kernel
theorem dX9_endBlock_16 : decode cX9_endBlock 16 = .ok (.getfield 33, 3) := by decide +kernel
theorem dX9_endBlock_19 : decode cX9_endBlock 19 = .ok (.getfield 68, 3) := by decide +kernel
theorem dX9_endBlock_22 : decode cX9_endBlock 22 = .ok (.iload_n 1, 1) := by decide +kernel
theorem dX9_endBlock_23 : decode cX9_endBlock 23 = .ok (.invokevirtual 73, 3) := by decide +kernel
theorem dX9_endBlock_26 : decode cX9_endBlock 26 = .ok (.lookupswitch 49 #[(7, 26), (10, 34)], 26) := by decide +kernel
theorem dX9_endBlock_52 : decode cX9_endBlock 52 = .ok (.aload_n 0, 1) := by decide +kernel
theorem dX9_endBlock_53 : decode cX9_endBlock 53 = .ok (.iload_n 1, 1) := by decide +kernel
theorem dX9_endBlock_54 : decode cX9_endBlock 54 = .ok (.putfield 47, 3) := by decide +kernel
theorem dX9_endBlock_57 : decode cX9_endBlock 57 = .ok (.goto 67, 3) := by decide +kernel
theorem dX9_endBlock_60 : decode cX9_endBlock 60 = .ok (.aload_n 0, 1) := by decide +kernel
theorem dX9_endBlock_61 : decode cX9_endBlock 61 = .ok (.getfield 14, 3) := by decide +kernel
theorem dX9_endBlock_64 : decode cX9_endBlock 64 = .ok (.iconst 0, 1) := by decide +kernel
theorem dX9_endBlock_65 : decode cX9_endBlock 65 = .ok (.invokevirtual 90, 3) := by decide +kernel
theorem dX9_endBlock_68 : decode cX9_endBlock 68 = .ok (.aload_n 0, 1) := by decide +kernel
theorem dX9_endBlock_69 : decode cX9_endBlock 69 = .ok (.invokevirtual 93, 3) := by decide +kernel
theorem dX9_endBlock_72 : decode cX9_endBlock 72 = .ok (.goto 52, 3) := by decide +kernel
theorem dX9_endBlock_75 : decode cX9_endBlock 75 = .ok (.aload_n 0, 1) := by decide +kernel
theorem dX9_endBlock_76 : decode cX9_endBlock 76 = .ok (.dup, 1) := by decide +kernel
theorem dX9_endBlock_77 : decode cX9_endBlock 77 = .ok (.getfield 47, 3) := by decide +kernel
theorem dX9_endBlock_80 : decode cX9_endBlock 80 = .ok (.iconst 1, 1) := by decide +kernel
theorem dX9_endBlock_81 : decode cX9_endBlock 81 = .ok (.iadd, 1) := by decide +kernel
theorem dX9_endBlock_82 : decode cX9_endBlock 82 = .ok (.putfield 47, 3) := by decide +kernel
theorem dX9_endBlock_85 : decode cX9_endBlock 85 = .ok (.aload_n 0, 1) := by decide +kernel
theorem dX9_endBlock_86 : decode cX9_endBlock 86 = .ok (.getfield 33, 3) := by decide +kernel
theorem dX9_endBlock_89 : decode cX9_endBlock 89 = .ok (.getfield 68, 3) := by decide +kernel
theorem dX9_endBlock_92 : decode cX9_endBlock 92 = .ok (.aload_n 0, 1) := by decide +kernel
theorem dX9_endBlock_93 : decode cX9_endBlock 93 = .ok (.getfield 47, 3) := by decide +kernel
theorem dX9_endBlock_96 : decode cX9_endBlock 96 = .ok (.invokevirtual 73, 3) := by decide +kernel
theorem dX9_endBlock_99 : decode cX9_endBlock 99 = .ok (.bipush 6, 2) := by decide +kernel
theorem dX9_endBlock_101 : decode cX9_endBlock 101 = .ok (.if_icmp .ne 23, 3) := by decide +kernel
theorem dX9_endBlock_104 : decode cX9_endBlock 104 = .ok (.aload_n 0, 1) := by decide +kernel
theorem dX9_endBlock_105 : decode cX9_endBlock 105 = .ok (.aload_n 0, 1) := by decide +kernel
theorem dX9_endBlock_106 : decode cX9_endBlock 106 = .ok (.getfield 33, 3) := by decide +kernel
theorem dX9_endBlock_109 : decode cX9_endBlock 109 = .ok (.getfield 83, 3) := by decide +kernel
theorem dX9_endBlock_112 : decode cX9_endBlock 112 = .ok (.aload_n 0, 1) := by decide +kernel
theorem dX9_endBlock_113 : decode cX9_endBlock 113 = .ok (.getfield 47, 3) := by decide +kernel
theorem dX9_endBlock_116 : decode cX9_endBlock 116 = .ok (.iconst 1, 1) := by decide +kernel
theorem dX9_endBlock_117 : decode cX9_endBlock 117 = .ok (.iadd, 1) := by decide +kernel
theorem dX9_endBlock_118 : decode cX9_endBlock 118 = .ok (.invokevirtual 73, 3) := by decide +kernel
theorem dX9_endBlock_121 : decode cX9_endBlock 121 = .ok (.putfield 47, 3) := by decide +kernel
theorem dX9_endBlock_124 : decode cX9_endBlock 124 = .ok (.return_, 1) := by decide +kernel
theorem dX9_operand_0 : decode cX9_operand 0 = .ok (.aload_n 0, 1) := by decide +kernel
theorem dX9_operand_1 : decode cX9_operand 1 = .ok (.getfield 33, 3) := by decide +kernel
theorem dX9_operand_4 : decode cX9_operand 4 = .ok (.getfield 68, 3) := by decide +kernel
theorem dX9_operand_7 : decode cX9_operand 7 = .ok (.aload_n 0, 1) := by decide +kernel
theorem dX9_operand_8 : decode cX9_operand 8 = .ok (.getfield 47, 3) := by decide +kernel
theorem dX9_operand_11 : decode cX9_operand 11 = .ok (.invokevirtual 73, 3) := by decide +kernel
theorem dX9_operand_14 : decode cX9_operand 14 = .ok (.lookupswitch 154 #[(3, 42), (9, 91), (34, 63), (35, 105)], 42) := by decide +kernel
theorem dX9_operand_56 : decode cX9_operand 56 = .ok (.aload_n 0, 1) := by decide +kernel
theorem dX9_operand_57 : decode cX9_operand 57 = .ok (.aload_n 0, 1) := by decide +kernel
theorem dX9_operand_58 : decode cX9_operand 58 = .ok (.getfield 33, 3) := by decide +kernel
theorem dX9_operand_61 : decode cX9_operand 61 = .ok (.getfield 83, 3) := by decide +kernel
theorem dX9_operand_64 : decode cX9_operand 64 = .ok (.aload_n 0, 1) := by decide +kernel
theorem dX9_operand_65 : decode cX9_operand 65 = .ok (.getfield 47, 3) := by decide +kernel
theorem dX9_operand_68 : decode cX9_operand 68 = .ok (.invokevirtual 73, 3) := by decide +kernel
theorem dX9_operand_71 : decode cX9_operand 71 = .ok (.invokevirtual 96, 3) := by decide +kernel
theorem dX9_operand_74 : decode cX9_operand 74 = .ok (.goto 115, 3) := by decide +kernel
theorem dX9_operand_77 : decode cX9_operand 77 = .ok (.aload_n 0, 1) := by decide +kernel
theorem dX9_operand_78 : decode cX9_operand 78 = .ok (.aload_n 0, 1) := by decide +kernel
theorem dX9_operand_79 : decode cX9_operand 79 = .ok (.getfield 34, 3) := by decide +kernel
theorem dX9_operand_82 : decode cX9_operand 82 = .ok (.aload_n 0, 1) := by decide +kernel
theorem dX9_operand_83 : decode cX9_operand 83 = .ok (.getfield 33, 3) := by decide +kernel
theorem dX9_operand_86 : decode cX9_operand 86 = .ok (.getfield 83, 3) := by decide +kernel
theorem dX9_operand_89 : decode cX9_operand 89 = .ok (.aload_n 0, 1) := by decide +kernel
theorem dX9_operand_90 : decode cX9_operand 90 = .ok (.getfield 47, 3) := by decide +kernel
theorem dX9_operand_93 : decode cX9_operand 93 = .ok (.invokevirtual 73, 3) := by decide +kernel
theorem dX9_operand_96 : decode cX9_operand 96 = .ok (.invokevirtual 99, 3) := by decide +kernel
theorem dX9_operand_99 : decode cX9_operand 99 = .ok (.invokevirtual 96, 3) := by decide +kernel
theorem dX9_operand_102 : decode cX9_operand 102 = .ok (.goto 87, 3) := by decide +kernel
theorem dX9_operand_105 : decode cX9_operand 105 = .ok (.aload_n 0, 1) := by decide +kernel
theorem dX9_operand_106 : decode cX9_operand 106 = .ok (.aload_n 0, 1) := by decide +kernel
theorem dX9_operand_107 : decode cX9_operand 107 = .ok (.getfield 34, 3) := by decide +kernel
theorem dX9_operand_110 : decode cX9_operand 110 = .ok (.invokevirtual 102, 3) := by decide +kernel
theorem dX9_operand_113 : decode cX9_operand 113 = .ok (.invokevirtual 96, 3) := by decide +kernel
theorem dX9_operand_116 : decode cX9_operand 116 = .ok (.goto 73, 3) := by decide +kernel
theorem dX9_operand_119 : decode cX9_operand 119 = .ok (.aload_n 0, 1) := by decide +kernel
theorem dX9_operand_120 : decode cX9_operand 120 = .ok (.getfield 20, 3) := by decide +kernel
theorem dX9_operand_123 : decode cX9_operand 123 = .ok (.aload_n 0, 1) := by decide +kernel
theorem dX9_operand_124 : decode cX9_operand 124 = .ok (.getfield 47, 3) := by decide +kernel
theorem dX9_operand_127 : decode cX9_operand 127 = .ok (.iconst 1, 1) := by decide +kernel
theorem dX9_operand_128 : decode cX9_operand 128 = .ok (.iadd, 1) := by decide +kernel
theorem dX9_operand_129 : decode cX9_operand 129 = .ok (.invokevirtual 90, 3) := by decide +kernel
theorem dX9_operand_132 : decode cX9_operand 132 = .ok (.aload_n 0, 1) := by decide +kernel
theorem dX9_operand_133 : decode cX9_operand 133 = .ok (.dup, 1) := by decide +kernel
theorem dX9_operand_134 : decode cX9_operand 134 = .ok (.getfield 47, 3) := by decide +kernel
theorem dX9_operand_137 : decode cX9_operand 137 = .ok (.iconst 2, 1) := by decide +kernel
theorem dX9_operand_138 : decode cX9_operand 138 = .ok (.iadd, 1) := by decide +kernel
theorem dX9_operand_139 : decode cX9_operand 139 = .ok (.putfield 47, 3) := by decide +kernel
theorem dX9_operand_142 : decode cX9_operand 142 = .ok (.aload_n 0, 1) := by decide +kernel
theorem dX9_operand_143 : decode cX9_operand 143 = .ok (.getfield 33, 3) := by decide +kernel
theorem dX9_operand_146 : decode cX9_operand 146 = .ok (.getfield 68, 3) := by decide +kernel
theorem dX9_operand_149 : decode cX9_operand 149 = .ok (.aload_n 0, 1) := by decide +kernel
theorem dX9_operand_150 : decode cX9_operand 150 = .ok (.getfield 47, 3) := by decide +kernel
theorem dX9_operand_153 : decode cX9_operand 153 = .ok (.invokevirtual 73, 3) := by decide +kernel
theorem dX9_operand_156 : decode cX9_operand 156 = .ok (.bipush 29, 2) := by decide +kernel
theorem dX9_operand_158 : decode cX9_operand 158 = .ok (.if_icmp .ne 31, 3) := by decide +kernel
theorem dX9_operand_161 : decode cX9_operand 161 = .ok (.aload_n 0, 1) := by decide +kernel
theorem dX9_operand_162 : decode cX9_operand 162 = .ok (.invokevirtual 106, 3) := by decide +kernel
theorem dX9_operand_165 : decode cX9_operand 165 = .ok (.goto 24, 3) := by decide +kernel
theorem dX9_operand_168 : decode cX9_operand 168 = .ok (.aload_n 0, 1) := by decide +kernel
theorem dX9_operand_169 : decode cX9_operand 169 = .ok (.getfield 20, 3) := by decide +kernel
theorem dX9_operand_172 : decode cX9_operand 172 = .ok (.aload_n 0, 1) := by decide +kernel
theorem dX9_operand_173 : decode cX9_operand 173 = .ok (.getfield 47, 3) := by decide +kernel
theorem dX9_operand_176 : decode cX9_operand 176 = .ok (.invokevirtual 90, 3) := by decide +kernel
theorem dX9_operand_179 : decode cX9_operand 179 = .ok (.aload_n 0, 1) := by decide +kernel
theorem dX9_operand_180 : decode cX9_operand 180 = .ok (.dup, 1) := by decide +kernel
theorem dX9_operand_181 : decode cX9_operand 181 = .ok (.getfield 47, 3) := by decide +kernel
theorem dX9_operand_184 : decode cX9_operand 184 = .ok (.iconst 1, 1) := by decide +kernel
theorem dX9_operand_185 : decode cX9_operand 185 = .ok (.iadd, 1) := by decide +kernel
theorem dX9_operand_186 : decode cX9_operand 186 = .ok (.putfield 47, 3) := by decide +kernel
theorem dX9_operand_189 : decode cX9_operand 189 = .ok (.return_, 1) := by decide +kernel
theorem dX9_value_0 : decode cX9_value 0 = .ok (.aload_n 0, 1) := by decide +kernel
theorem dX9_value_1 : decode cX9_value 1 = .ok (.getfield 14, 3) := by decide +kernel
theorem dX9_value_4 : decode cX9_value 4 = .ok (.iload_n 1, 1) := by decide +kernel
theorem dX9_value_5 : decode cX9_value 5 = .ok (.invokevirtual 90, 3) := by decide +kernel
theorem dX9_value_8 : decode cX9_value 8 = .ok (.aload_n 0, 1) := by decide +kernel
theorem dX9_value_9 : decode cX9_value 9 = .ok (.dup, 1) := by decide +kernel
theorem dX9_value_10 : decode cX9_value 10 = .ok (.getfield 47, 3) := by decide +kernel
theorem dX9_value_13 : decode cX9_value 13 = .ok (.iconst 1, 1) := by decide +kernel
theorem dX9_value_14 : decode cX9_value 14 = .ok (.iadd, 1) := by decide +kernel
theorem dX9_value_15 : decode cX9_value 15 = .ok (.putfield 47, 3) := by decide +kernel
theorem dX9_value_18 : decode cX9_value 18 = .ok (.aload_n 0, 1) := by decide +kernel
theorem dX9_value_19 : decode cX9_value 19 = .ok (.iconst 2, 1) := by decide +kernel
theorem dX9_value_20 : decode cX9_value 20 = .ok (.putfield 51, 3) := by decide +kernel
theorem dX9_value_23 : decode cX9_value 23 = .ok (.return_, 1) := by decide +kernel
theorem dX9_operator_0 : decode cX9_operator 0 = .ok (.aload_n 0, 1) := by decide +kernel
theorem dX9_operator_1 : decode cX9_operator 1 = .ok (.getfield 33, 3) := by decide +kernel
theorem dX9_operator_4 : decode cX9_operator 4 = .ok (.getfield 68, 3) := by decide +kernel
theorem dX9_operator_7 : decode cX9_operator 7 = .ok (.aload_n 0, 1) := by decide +kernel
theorem dX9_operator_8 : decode cX9_operator 8 = .ok (.getfield 47, 3) := by decide +kernel
theorem dX9_operator_11 : decode cX9_operator 11 = .ok (.invokevirtual 73, 3) := by decide +kernel
theorem dX9_operator_14 : decode cX9_operator 14 = .ok (.istore_n 1, 1) := by decide +kernel
theorem dX9_operator_15 : decode cX9_operator 15 = .ok (.iload_n 1, 1) := by decide +kernel
theorem dX9_operator_16 : decode cX9_operator 16 = .ok (.invokestatic 109, 3) := by decide +kernel
theorem dX9_operator_19 : decode cX9_operator 19 = .ok (.istore_n 2, 1) := by decide +kernel
theorem dX9_operator_20 : decode cX9_operator 20 = .ok (.aload_n 0, 1) := by decide +kernel
theorem dX9_operator_21 : decode cX9_operator 21 = .ok (.iload_n 2, 1) := by decide +kernel
theorem dX9_operator_22 : decode cX9_operator 22 = .ok (.invokevirtual 112, 3) := by decide +kernel
theorem dX9_operator_25 : decode cX9_operator 25 = .ok (.aload_n 0, 1) := by decide +kernel
theorem dX9_operator_26 : decode cX9_operator 26 = .ok (.getfield 34, 3) := by decide +kernel
theorem dX9_operator_29 : decode cX9_operator 29 = .ok (.invokevirtual 55, 3) := by decide +kernel
theorem dX9_operator_32 : decode cX9_operator 32 = .ok (.ifCond .ne 4, 3) := by decide +kernel
theorem dX9_operator_35 : decode cX9_operator 35 = .ok (.return_, 1) := by decide +kernel
theorem dX9_operator_36 : decode cX9_operator 36 = .ok (.iload_n 2, 1) := by decide +kernel
theorem dX9_operator_37 : decode cX9_operator 37 = .ok (.ifCond .ne 11, 3) := by decide +kernel
theorem dX9_operator_40 : decode cX9_operator 40 = .ok (.aload_n 0, 1) := by decide +kernel
theorem dX9_operator_41 : decode cX9_operator 41 = .ok (.iload_n 1, 1) := by decide +kernel
theorem dX9_operator_42 : decode cX9_operator 42 = .ok (.invokevirtual 115, 3) := by decide +kernel
theorem dX9_operator_45 : decode cX9_operator 45 = .ok (.goto 59, 3) := by decide +kernel
theorem dX9_operator_48 : decode cX9_operator 48 = .ok (.iload_n 1, 1) := by decide +kernel
theorem dX9_operator_49 : decode cX9_operator 49 = .ok (.bipush 23, 2) := by decide +kernel
theorem dX9_operator_51 : decode cX9_operator 51 = .ok (.if_icmp .eq 9, 3) := by decide +kernel
theorem dX9_operator_54 : decode cX9_operator 54 = .ok (.iload_n 1, 1) := by decide +kernel
theorem dX9_operator_55 : decode cX9_operator 55 = .ok (.bipush 24, 2) := by decide +kernel
theorem dX9_operator_57 : decode cX9_operator 57 = .ok (.if_icmp .ne 21, 3) := by decide +kernel
theorem dX9_operator_60 : decode cX9_operator 60 = .ok (.aload_n 0, 1) := by decide +kernel
theorem dX9_operator_61 : decode cX9_operator 61 = .ok (.iload_n 1, 1) := by decide +kernel
theorem dX9_operator_62 : decode cX9_operator 62 = .ok (.bipush 24, 2) := by decide +kernel
theorem dX9_operator_64 : decode cX9_operator 64 = .ok (.if_icmp .ne 7, 3) := by decide +kernel
theorem dX9_operator_67 : decode cX9_operator 67 = .ok (.iconst 1, 1) := by decide +kernel
theorem dX9_operator_68 : decode cX9_operator 68 = .ok (.goto 4, 3) := by decide +kernel
theorem dX9_operator_71 : decode cX9_operator 71 = .ok (.iconst 0, 1) := by decide +kernel
theorem dX9_operator_72 : decode cX9_operator 72 = .ok (.invokevirtual 118, 3) := by decide +kernel
theorem dX9_operator_75 : decode cX9_operator 75 = .ok (.goto 29, 3) := by decide +kernel
theorem dX9_operator_78 : decode cX9_operator 78 = .ok (.aload_n 0, 1) := by decide +kernel
theorem dX9_operator_79 : decode cX9_operator 79 = .ok (.getfield 20, 3) := by decide +kernel
theorem dX9_operator_82 : decode cX9_operator 82 = .ok (.aload_n 0, 1) := by decide +kernel
theorem dX9_operator_83 : decode cX9_operator 83 = .ok (.getfield 47, 3) := by decide +kernel
theorem dX9_operator_86 : decode cX9_operator 86 = .ok (.invokevirtual 90, 3) := by decide +kernel
theorem dX9_operator_89 : decode cX9_operator 89 = .ok (.aload_n 0, 1) := by decide +kernel
theorem dX9_operator_90 : decode cX9_operator 90 = .ok (.dup, 1) := by decide +kernel
theorem dX9_operator_91 : decode cX9_operator 91 = .ok (.getfield 47, 3) := by decide +kernel
theorem dX9_operator_94 : decode cX9_operator 94 = .ok (.iconst 1, 1) := by decide +kernel
theorem dX9_operator_95 : decode cX9_operator 95 = .ok (.iadd, 1) := by decide +kernel
theorem dX9_operator_96 : decode cX9_operator 96 = .ok (.putfield 47, 3) := by decide +kernel
theorem dX9_operator_99 : decode cX9_operator 99 = .ok (.aload_n 0, 1) := by decide +kernel
theorem dX9_operator_100 : decode cX9_operator 100 = .ok (.iconst 1, 1) := by decide +kernel
theorem dX9_operator_101 : decode cX9_operator 101 = .ok (.putfield 51, 3) := by decide +kernel
theorem dX9_operator_104 : decode cX9_operator 104 = .ok (.return_, 1) := by decide +kernel
theorem dX9_doWaitingMarks_0 : decode cX9_doWaitingMarks 0 = .ok (.aload_n 0, 1) := by decide +kernel
theorem dX9_doWaitingMarks_1 : decode cX9_doWaitingMarks 1 = .ok (.getfield 20, 3) := by decide +kernel
theorem dX9_doWaitingMarks_4 : decode cX9_doWaitingMarks 4 = .ok (.invokevirtual 122, 3) := by decide +kernel
theorem dX9_doWaitingMarks_7 : decode cX9_doWaitingMarks 7 = .ok (.iconst 1, 1) := by decide +kernel
theorem dX9_doWaitingMarks_8 : decode cX9_doWaitingMarks 8 = .ok (.isub, 1) := by decide +kernel
theorem dX9_doWaitingMarks_9 : decode cX9_doWaitingMarks 9 = .ok (.istore_n 2, 1) := by decide +kernel
theorem dX9_doWaitingMarks_10 : decode cX9_doWaitingMarks 10 = .ok (.iload_n 2, 1) := by decide +kernel
theorem dX9_doWaitingMarks_11 : decode cX9_doWaitingMarks 11 = .ok (.ifCond .lt 156, 3) := by decide +kernel
theorem dX9_doWaitingMarks_14 : decode cX9_doWaitingMarks 14 = .ok (.aload_n 0, 1) := by decide +kernel
theorem dX9_doWaitingMarks_15 : decode cX9_doWaitingMarks 15 = .ok (.getfield 34, 3) := by decide +kernel
theorem dX9_doWaitingMarks_18 : decode cX9_doWaitingMarks 18 = .ok (.invokevirtual 55, 3) := by decide +kernel
theorem dX9_doWaitingMarks_21 : decode cX9_doWaitingMarks 21 = .ok (.ifCond .eq 146, 3) := by decide +kernel
theorem dX9_doWaitingMarks_24 : decode cX9_doWaitingMarks 24 = .ok (.aload_n 0, 1) := by decide +kernel
theorem dX9_doWaitingMarks_25 : decode cX9_doWaitingMarks 25 = .ok (.getfield 33, 3) := by decide +kernel
theorem dX9_doWaitingMarks_28 : decode cX9_doWaitingMarks 28 = .ok (.getfield 68, 3) := by decide +kernel
theorem dX9_doWaitingMarks_31 : decode cX9_doWaitingMarks 31 = .ok (.aload_n 0, 1) := by decide +kernel
theorem dX9_doWaitingMarks_32 : decode cX9_doWaitingMarks 32 = .ok (.getfield 20, 3) := by decide +kernel
theorem dX9_doWaitingMarks_35 : decode cX9_doWaitingMarks 35 = .ok (.iload_n 2, 1) := by decide +kernel
theorem dX9_doWaitingMarks_36 : decode cX9_doWaitingMarks 36 = .ok (.invokevirtual 73, 3) := by decide +kernel
theorem dX9_doWaitingMarks_39 : decode cX9_doWaitingMarks 39 = .ok (.invokevirtual 73, 3) := by decide +kernel
theorem dX9_doWaitingMarks_42 : decode cX9_doWaitingMarks 42 = .ok (.istore_n 3, 1) := by decide +kernel
theorem dX9_doWaitingMarks_43 : decode cX9_doWaitingMarks 43 = .ok (.iload_n 3, 1) := by decide +kernel
theorem dX9_doWaitingMarks_44 : decode cX9_doWaitingMarks 44 = .ok (.invokestatic 109, 3) := by decide +kernel
theorem dX9_doWaitingMarks_47 : decode cX9_doWaitingMarks 47 = .ok (.istore 4, 2) := by decide +kernel
theorem dX9_doWaitingMarks_49 : decode cX9_doWaitingMarks 49 = .ok (.iload 4, 2) := by decide +kernel
theorem dX9_doWaitingMarks_51 : decode cX9_doWaitingMarks 51 = .ok (.ifCond .eq 9, 3) := by decide +kernel
theorem dX9_doWaitingMarks_54 : decode cX9_doWaitingMarks 54 = .ok (.iload 4, 2) := by decide +kernel
theorem dX9_doWaitingMarks_56 : decode cX9_doWaitingMarks 56 = .ok (.iload_n 1, 1) := by decide +kernel
theorem dX9_doWaitingMarks_57 : decode cX9_doWaitingMarks 57 = .ok (.if_icmp .ge 4, 3) := by decide +kernel
theorem dX9_doWaitingMarks_60 : decode cX9_doWaitingMarks 60 = .ok (.return_, 1) := by decide +kernel
theorem dX9_doWaitingMarks_61 : decode cX9_doWaitingMarks 61 = .ok (.aload_n 0, 1) := by decide +kernel
theorem dX9_doWaitingMarks_62 : decode cX9_doWaitingMarks 62 = .ok (.getfield 20, 3) := by decide +kernel
theorem dX9_doWaitingMarks_65 : decode cX9_doWaitingMarks 65 = .ok (.invokevirtual 125, 3) := by decide +kernel
theorem dX9_doWaitingMarks_68 : decode cX9_doWaitingMarks 68 = .ok (.pop, 1) := by decide +kernel
theorem dX9_doWaitingMarks_69 : decode cX9_doWaitingMarks 69 = .ok (.aload_n 0, 1) := by decide +kernel
theorem dX9_doWaitingMarks_70 : decode cX9_doWaitingMarks 70 = .ok (.getfield 14, 3) := by decide +kernel
theorem dX9_doWaitingMarks_73 : decode cX9_doWaitingMarks 73 = .ok (.invokevirtual 125, 3) := by decide +kernel
theorem dX9_doWaitingMarks_76 : decode cX9_doWaitingMarks 76 = .ok (.istore 5, 2) := by decide +kernel
theorem dX9_doWaitingMarks_78 : decode cX9_doWaitingMarks 78 = .ok (.iload_n 3, 1) := by decide +kernel
theorem dX9_doWaitingMarks_79 : decode cX9_doWaitingMarks 79 = .ok (.bipush 23, 2) := by decide +kernel
theorem dX9_doWaitingMarks_81 : decode cX9_doWaitingMarks 81 = .ok (.if_icmp .eq 9, 3) := by decide +kernel
theorem dX9_doWaitingMarks_84 : decode cX9_doWaitingMarks 84 = .ok (.iload_n 3, 1) := by decide +kernel
theorem dX9_doWaitingMarks_85 : decode cX9_doWaitingMarks 85 = .ok (.bipush 24, 2) := by decide +kernel
theorem dX9_doWaitingMarks_87 : decode cX9_doWaitingMarks 87 = .ok (.if_icmp .ne 23, 3) := by decide +kernel
theorem dX9_doWaitingMarks_90 : decode cX9_doWaitingMarks 90 = .ok (.aload_n 0, 1) := by decide +kernel
theorem dX9_doWaitingMarks_91 : decode cX9_doWaitingMarks 91 = .ok (.getfield 14, 3) := by decide +kernel
theorem dX9_doWaitingMarks_94 : decode cX9_doWaitingMarks 94 = .ok (.iload 5, 2) := by decide +kernel
theorem dX9_doWaitingMarks_96 : decode cX9_doWaitingMarks 96 = .ok (.ifCond .ne 7, 3) := by decide +kernel
theorem dX9_doWaitingMarks_99 : decode cX9_doWaitingMarks 99 = .ok (.iconst 0, 1) := by decide +kernel
theorem dX9_doWaitingMarks_100 : decode cX9_doWaitingMarks 100 = .ok (.goto 4, 3) := by decide +kernel
theorem dX9_doWaitingMarks_103 : decode cX9_doWaitingMarks 103 = .ok (.iconst 1, 1) := by decide +kernel
theorem dX9_doWaitingMarks_104 : decode cX9_doWaitingMarks 104 = .ok (.invokevirtual 90, 3) := by decide +kernel
theorem dX9_doWaitingMarks_107 : decode cX9_doWaitingMarks 107 = .ok (.goto 54, 3) := by decide +kernel
theorem dX9_doWaitingMarks_110 : decode cX9_doWaitingMarks 110 = .ok (.iload 4, 2) := by decide +kernel
theorem dX9_doWaitingMarks_112 : decode cX9_doWaitingMarks 112 = .ok (.bipush 7, 2) := by decide +kernel
theorem dX9_doWaitingMarks_114 : decode cX9_doWaitingMarks 114 = .ok (.if_icmp .ne 23, 3) := by decide +kernel
theorem dX9_doWaitingMarks_117 : decode cX9_doWaitingMarks 117 = .ok (.aload_n 0, 1) := by decide +kernel
theorem dX9_doWaitingMarks_118 : decode cX9_doWaitingMarks 118 = .ok (.getfield 14, 3) := by decide +kernel
theorem dX9_doWaitingMarks_121 : decode cX9_doWaitingMarks 121 = .ok (.aload_n 0, 1) := by decide +kernel
theorem dX9_doWaitingMarks_122 : decode cX9_doWaitingMarks 122 = .ok (.getfield 34, 3) := by decide +kernel
theorem dX9_doWaitingMarks_125 : decode cX9_doWaitingMarks 125 = .ok (.iload_n 3, 1) := by decide +kernel
theorem dX9_doWaitingMarks_126 : decode cX9_doWaitingMarks 126 = .ok (.iload 5, 2) := by decide +kernel
theorem dX9_doWaitingMarks_128 : decode cX9_doWaitingMarks 128 = .ok (.invokevirtual 128, 3) := by decide +kernel
theorem dX9_doWaitingMarks_131 : decode cX9_doWaitingMarks 131 = .ok (.invokevirtual 90, 3) := by decide +kernel
theorem dX9_doWaitingMarks_134 : decode cX9_doWaitingMarks 134 = .ok (.goto 27, 3) := by decide +kernel
theorem dX9_doWaitingMarks_137 : decode cX9_doWaitingMarks 137 = .ok (.aload_n 0, 1) := by decide +kernel
theorem dX9_doWaitingMarks_138 : decode cX9_doWaitingMarks 138 = .ok (.getfield 14, 3) := by decide +kernel
theorem dX9_doWaitingMarks_141 : decode cX9_doWaitingMarks 141 = .ok (.aload_n 0, 1) := by decide +kernel
theorem dX9_doWaitingMarks_142 : decode cX9_doWaitingMarks 142 = .ok (.getfield 34, 3) := by decide +kernel
theorem dX9_doWaitingMarks_145 : decode cX9_doWaitingMarks 145 = .ok (.iload_n 3, 1) := by decide +kernel
theorem dX9_doWaitingMarks_146 : decode cX9_doWaitingMarks 146 = .ok (.aload_n 0, 1) := by decide +kernel
theorem dX9_doWaitingMarks_147 : decode cX9_doWaitingMarks 147 = .ok (.getfield 14, 3) := by decide +kernel
theorem dX9_doWaitingMarks_150 : decode cX9_doWaitingMarks 150 = .ok (.invokevirtual 125, 3) := by decide +kernel
theorem dX9_doWaitingMarks_153 : decode cX9_doWaitingMarks 153 = .ok (.iload 5, 2) := by decide +kernel
theorem dX9_doWaitingMarks_155 : decode cX9_doWaitingMarks 155 = .ok (.invokevirtual 132, 3) := by decide +kernel
theorem dX9_doWaitingMarks_158 : decode cX9_doWaitingMarks 158 = .ok (.invokevirtual 90, 3) := by decide +kernel
theorem dX9_doWaitingMarks_161 : decode cX9_doWaitingMarks 161 = .ok (.iinc 2 (-1), 3) := by decide +kernel
theorem dX9_doWaitingMarks_164 : decode cX9_doWaitingMarks 164 = .ok (.goto (-154), 3) := by decide +kernel
theorem dX9_doWaitingMarks_167 : decode cX9_doWaitingMarks 167 = .ok (.return_, 1) := by decide +kernel
theorem dX9_decide_0 : decode cX9_decide 0 = .ok (.aload_n 0, 1) := by decide +kernel
theorem dX9_decide_1 : decode cX9_decide 1 = .ok (.getfield 34, 3) := by decide +kernel
theorem dX9_decide_4 : decode cX9_decide 4 = .ok (.invokevirtual 84, 3) := by decide +kernel
theorem dX9_decide_7 : decode cX9_decide 7 = .ok (.ifCond .ne 4, 3) := by decide +kernel
theorem dX9_decide_10 : decode cX9_decide 10 = .ok (.return_, 1) := by decide +kernel
theorem dX9_decide_11 : decode cX9_decide 11 = .ok (.aload_n 0, 1) := by decide +kernel
theorem dX9_decide_12 : decode cX9_decide 12 = .ok (.getfield 14, 3) := by decide +kernel
theorem dX9_decide_15 : decode cX9_decide 15 = .ok (.invokevirtual 125, 3) := by decide +kernel
theorem dX9_decide_18 : decode cX9_decide 18 = .ok (.ifCond .eq 7, 3) := by decide +kernel
theorem dX9_decide_21 : decode cX9_decide 21 = .ok (.iconst 1, 1) := by decide +kernel
theorem dX9_decide_22 : decode cX9_decide 22 = .ok (.goto 4, 3) := by decide +kernel
theorem dX9_decide_25 : decode cX9_decide 25 = .ok (.iconst 0, 1) := by decide +kernel
theorem dX9_decide_26 : decode cX9_decide 26 = .ok (.istore_n 2, 1) := by decide +kernel
theorem dX9_decide_27 : decode cX9_decide 27 = .ok (.iload_n 2, 1) := by decide +kernel
theorem dX9_decide_28 : decode cX9_decide 28 = .ok (.iload_n 1, 1) := by decide +kernel
theorem dX9_decide_29 : decode cX9_decide 29 = .ok (.if_icmp .ne 40, 3) := by decide +kernel
theorem dX9_decide_32 : decode cX9_decide 32 = .ok (.aload_n 0, 1) := by decide +kernel
theorem dX9_decide_33 : decode cX9_decide 33 = .ok (.getfield 14, 3) := by decide +kernel
theorem dX9_decide_36 : decode cX9_decide 36 = .ok (.iload_n 2, 1) := by decide +kernel
theorem dX9_decide_37 : decode cX9_decide 37 = .ok (.ifCond .eq 7, 3) := by decide +kernel
theorem dX9_decide_40 : decode cX9_decide 40 = .ok (.iconst 1, 1) := by decide +kernel
theorem dX9_decide_41 : decode cX9_decide 41 = .ok (.goto 4, 3) := by decide +kernel
theorem dX9_decide_44 : decode cX9_decide 44 = .ok (.iconst 0, 1) := by decide +kernel
theorem dX9_decide_45 : decode cX9_decide 45 = .ok (.invokevirtual 90, 3) := by decide +kernel
theorem dX9_decide_48 : decode cX9_decide 48 = .ok (.aload_n 0, 1) := by decide +kernel
theorem dX9_decide_49 : decode cX9_decide 49 = .ok (.aload_n 0, 1) := by decide +kernel
theorem dX9_decide_50 : decode cX9_decide 50 = .ok (.getfield 33, 3) := by decide +kernel
theorem dX9_decide_53 : decode cX9_decide 53 = .ok (.getfield 83, 3) := by decide +kernel
theorem dX9_decide_56 : decode cX9_decide 56 = .ok (.aload_n 0, 1) := by decide +kernel
theorem dX9_decide_57 : decode cX9_decide 57 = .ok (.getfield 47, 3) := by decide +kernel
theorem dX9_decide_60 : decode cX9_decide 60 = .ok (.invokevirtual 73, 3) := by decide +kernel
theorem dX9_decide_63 : decode cX9_decide 63 = .ok (.putfield 47, 3) := by decide +kernel
theorem dX9_decide_66 : decode cX9_decide 66 = .ok (.goto 29, 3) := by decide +kernel
theorem dX9_decide_69 : decode cX9_decide 69 = .ok (.aload_n 0, 1) := by decide +kernel
theorem dX9_decide_70 : decode cX9_decide 70 = .ok (.getfield 20, 3) := by decide +kernel
theorem dX9_decide_73 : decode cX9_decide 73 = .ok (.aload_n 0, 1) := by decide +kernel
theorem dX9_decide_74 : decode cX9_decide 74 = .ok (.getfield 47, 3) := by decide +kernel
theorem dX9_decide_77 : decode cX9_decide 77 = .ok (.invokevirtual 90, 3) := by decide +kernel
theorem dX9_decide_80 : decode cX9_decide 80 = .ok (.aload_n 0, 1) := by decide +kernel
theorem dX9_decide_81 : decode cX9_decide 81 = .ok (.dup, 1) := by decide +kernel
theorem dX9_decide_82 : decode cX9_decide 82 = .ok (.getfield 47, 3) := by decide +kernel
theorem dX9_decide_85 : decode cX9_decide 85 = .ok (.iconst 1, 1) := by decide +kernel
theorem dX9_decide_86 : decode cX9_decide 86 = .ok (.iadd, 1) := by decide +kernel
theorem dX9_decide_87 : decode cX9_decide 87 = .ok (.putfield 47, 3) := by decide +kernel
theorem dX9_decide_90 : decode cX9_decide 90 = .ok (.aload_n 0, 1) := by decide +kernel
theorem dX9_decide_91 : decode cX9_decide 91 = .ok (.iconst 1, 1) := by decide +kernel
theorem dX9_decide_92 : decode cX9_decide 92 = .ok (.putfield 51, 3) := by decide +kernel
theorem dX9_decide_95 : decode cX9_decide 95 = .ok (.return_, 1) := by decide +kernel
theorem dX9_endExpression_0 : decode cX9_endExpression 0 = .ok (.aload_n 0, 1) := by decide +kernel
theorem dX9_endExpression_1 : decode cX9_endExpression 1 = .ok (.getfield 20, 3) := by decide +kernel
theorem dX9_endExpression_4 : decode cX9_endExpression 4 = .ok (.invokevirtual 136, 3) := by decide +kernel
theorem dX9_endExpression_7 : decode cX9_endExpression 7 = .ok (.istore_n 2, 1) := by decide +kernel
theorem dX9_endExpression_8 : decode cX9_endExpression 8 = .ok (.iload_n 1, 1) := by decide +kernel
theorem dX9_endExpression_9 : decode cX9_endExpression 9 = .ok (.bipush 32, 2) := by decide +kernel
theorem dX9_endExpression_11 : decode cX9_endExpression 11 = .ok (.if_icmp .eq 9, 3) := by decide +kernel
theorem dX9_endExpression_14 : decode cX9_endExpression 14 = .ok (.iload_n 1, 1) := by decide +kernel
theorem dX9_endExpression_15 : decode cX9_endExpression 15 = .ok (.bipush 27, 2) := by decide +kernel
theorem dX9_endExpression_17 : decode cX9_endExpression 17 = .ok (.if_icmp .ne 21, 3) := by decide +kernel
theorem dX9_endExpression_20 : decode cX9_endExpression 20 = .ok (.aload_n 0, 1) := by decide +kernel
theorem dX9_endExpression_21 : decode cX9_endExpression 21 = .ok (.dup, 1) := by decide +kernel
theorem dX9_endExpression_22 : decode cX9_endExpression 22 = .ok (.getfield 47, 3) := by decide +kernel
theorem dX9_endExpression_25 : decode cX9_endExpression 25 = .ok (.iconst 1, 1) := by decide +kernel
theorem dX9_endExpression_26 : decode cX9_endExpression 26 = .ok (.iadd, 1) := by decide +kernel
theorem dX9_endExpression_27 : decode cX9_endExpression 27 = .ok (.putfield 47, 3) := by decide +kernel
theorem dX9_endExpression_30 : decode cX9_endExpression 30 = .ok (.aload_n 0, 1) := by decide +kernel
theorem dX9_endExpression_31 : decode cX9_endExpression 31 = .ok (.iconst 1, 1) := by decide +kernel
theorem dX9_endExpression_32 : decode cX9_endExpression 32 = .ok (.putfield 51, 3) := by decide +kernel
theorem dX9_endExpression_35 : decode cX9_endExpression 35 = .ok (.goto 80, 3) := by decide +kernel
theorem dX9_endExpression_38 : decode cX9_endExpression 38 = .ok (.aload_n 0, 1) := by decide +kernel
theorem dX9_endExpression_39 : decode cX9_endExpression 39 = .ok (.getfield 33, 3) := by decide +kernel
theorem dX9_endExpression_42 : decode cX9_endExpression 42 = .ok (.getfield 68, 3) := by decide +kernel
theorem dX9_endExpression_45 : decode cX9_endExpression 45 = .ok (.iload_n 2, 1) := by decide +kernel
theorem dX9_endExpression_46 : decode cX9_endExpression 46 = .ok (.invokevirtual 73, 3) := by decide +kernel
theorem dX9_endExpression_49 : decode cX9_endExpression 49 = .ok (.bipush 38, 2) := by decide +kernel
theorem dX9_endExpression_51 : decode cX9_endExpression 51 = .ok (.if_icmp .ne 10, 3) := by decide +kernel
theorem dX9_endExpression_54 : decode cX9_endExpression 54 = .ok (.aload_n 0, 1) := by decide +kernel
theorem dX9_endExpression_55 : decode cX9_endExpression 55 = .ok (.invokevirtual 106, 3) := by decide +kernel
theorem dX9_endExpression_58 : decode cX9_endExpression 58 = .ok (.goto 57, 3) := by decide +kernel
theorem dX9_endExpression_61 : decode cX9_endExpression 61 = .ok (.aload_n 0, 1) := by decide +kernel
theorem dX9_endExpression_62 : decode cX9_endExpression 62 = .ok (.getfield 20, 3) := by decide +kernel
theorem dX9_endExpression_65 : decode cX9_endExpression 65 = .ok (.invokevirtual 125, 3) := by decide +kernel
theorem dX9_endExpression_68 : decode cX9_endExpression 68 = .ok (.pop, 1) := by decide +kernel
theorem dX9_endExpression_69 : decode cX9_endExpression 69 = .ok (.aload_n 0, 1) := by decide +kernel
theorem dX9_endExpression_70 : decode cX9_endExpression 70 = .ok (.getfield 33, 3) := by decide +kernel
theorem dX9_endExpression_73 : decode cX9_endExpression 73 = .ok (.getfield 68, 3) := by decide +kernel
theorem dX9_endExpression_76 : decode cX9_endExpression 76 = .ok (.iload_n 2, 1) := by decide +kernel
theorem dX9_endExpression_77 : decode cX9_endExpression 77 = .ok (.invokevirtual 73, 3) := by decide +kernel
theorem dX9_endExpression_80 : decode cX9_endExpression 80 = .ok (.bipush 28, 2) := by decide +kernel
theorem dX9_endExpression_82 : decode cX9_endExpression 82 = .ok (.if_icmp .ne 16, 3) := by decide +kernel
theorem dX9_endExpression_85 : decode cX9_endExpression 85 = .ok (.aload_n 0, 1) := by decide +kernel
theorem dX9_endExpression_86 : decode cX9_endExpression 86 = .ok (.dup, 1) := by decide +kernel
theorem dX9_endExpression_87 : decode cX9_endExpression 87 = .ok (.getfield 47, 3) := by decide +kernel
theorem dX9_endExpression_90 : decode cX9_endExpression 90 = .ok (.iconst 1, 1) := by decide +kernel
theorem dX9_endExpression_91 : decode cX9_endExpression 91 = .ok (.iadd, 1) := by decide +kernel
theorem dX9_endExpression_92 : decode cX9_endExpression 92 = .ok (.putfield 47, 3) := by decide +kernel
theorem dX9_endExpression_95 : decode cX9_endExpression 95 = .ok (.goto 20, 3) := by decide +kernel
theorem dX9_endExpression_98 : decode cX9_endExpression 98 = .ok (.aload_n 0, 1) := by decide +kernel
theorem dX9_endExpression_99 : decode cX9_endExpression 99 = .ok (.iconst 0, 1) := by decide +kernel
theorem dX9_endExpression_100 : decode cX9_endExpression 100 = .ok (.putfield 51, 3) := by decide +kernel
theorem dX9_endExpression_103 : decode cX9_endExpression 103 = .ok (.aload_n 0, 1) := by decide +kernel
theorem dX9_endExpression_104 : decode cX9_endExpression 104 = .ok (.iload_n 2, 1) := by decide +kernel
theorem dX9_endExpression_105 : decode cX9_endExpression 105 = .ok (.aload_n 0, 1) := by decide +kernel
theorem dX9_endExpression_106 : decode cX9_endExpression 106 = .ok (.getfield 14, 3) := by decide +kernel
theorem dX9_endExpression_109 : decode cX9_endExpression 109 = .ok (.invokevirtual 125, 3) := by decide +kernel
theorem dX9_endExpression_112 : decode cX9_endExpression 112 = .ok (.invokevirtual 139, 3) := by decide +kernel
theorem dX9_endExpression_115 : decode cX9_endExpression 115 = .ok (.return_, 1) := by decide +kernel
theorem dX9_endStatement_0 : decode cX9_endStatement 0 = .ok (.aload_n 0, 1) := by decide +kernel
theorem dX9_endStatement_1 : decode cX9_endStatement 1 = .ok (.getfield 33, 3) := by decide +kernel
theorem dX9_endStatement_4 : decode cX9_endStatement 4 = .ok (.getfield 68, 3) := by decide +kernel
theorem dX9_endStatement_7 : decode cX9_endStatement 7 = .ok (.iload_n 1, 1) := by decide +kernel
theorem dX9_endStatement_8 : decode cX9_endStatement 8 = .ok (.invokevirtual 73, 3) := by decide +kernel
theorem dX9_endStatement_11 : decode cX9_endStatement 11 = .ok (.lookupswitch 211 #[(5, 153), (7, 177), (8, 117), (11, 138), (34, 57), (37, 89)], 57) := by decide +kernel
theorem dX9_endStatement_68 : decode cX9_endStatement 68 = .ok (.aload_n 0, 1) := by decide +kernel
theorem dX9_endStatement_69 : decode cX9_endStatement 69 = .ok (.getfield 34, 3) := by decide +kernel
theorem dX9_endStatement_72 : decode cX9_endStatement 72 = .ok (.aload_n 0, 1) := by decide +kernel
theorem dX9_endStatement_73 : decode cX9_endStatement 73 = .ok (.getfield 33, 3) := by decide +kernel
theorem dX9_endStatement_76 : decode cX9_endStatement 76 = .ok (.getfield 83, 3) := by decide +kernel
theorem dX9_endStatement_79 : decode cX9_endStatement 79 = .ok (.iload_n 1, 1) := by decide +kernel
theorem dX9_endStatement_80 : decode cX9_endStatement 80 = .ok (.invokevirtual 73, 3) := by decide +kernel
theorem dX9_endStatement_83 : decode cX9_endStatement 83 = .ok (.iload_n 2, 1) := by decide +kernel
theorem dX9_endStatement_84 : decode cX9_endStatement 84 = .ok (.invokevirtual 143, 3) := by decide +kernel
theorem dX9_endStatement_87 : decode cX9_endStatement 87 = .ok (.aload_n 0, 1) := by decide +kernel
theorem dX9_endStatement_88 : decode cX9_endStatement 88 = .ok (.dup, 1) := by decide +kernel
theorem dX9_endStatement_89 : decode cX9_endStatement 89 = .ok (.getfield 47, 3) := by decide +kernel
theorem dX9_endStatement_92 : decode cX9_endStatement 92 = .ok (.iconst 1, 1) := by decide +kernel
theorem dX9_endStatement_93 : decode cX9_endStatement 93 = .ok (.iadd, 1) := by decide +kernel
theorem dX9_endStatement_94 : decode cX9_endStatement 94 = .ok (.putfield 47, 3) := by decide +kernel
theorem dX9_endStatement_97 : decode cX9_endStatement 97 = .ok (.goto 135, 3) := by decide +kernel
theorem dX9_endStatement_100 : decode cX9_endStatement 100 = .ok (.aload_n 0, 1) := by decide +kernel
theorem dX9_endStatement_101 : decode cX9_endStatement 101 = .ok (.getfield 34, 3) := by decide +kernel
theorem dX9_endStatement_104 : decode cX9_endStatement 104 = .ok (.aload_n 0, 1) := by decide +kernel
theorem dX9_endStatement_105 : decode cX9_endStatement 105 = .ok (.getfield 14, 3) := by decide +kernel
theorem dX9_endStatement_108 : decode cX9_endStatement 108 = .ok (.invokevirtual 125, 3) := by decide +kernel
theorem dX9_endStatement_111 : decode cX9_endStatement 111 = .ok (.iload_n 2, 1) := by decide +kernel
theorem dX9_endStatement_112 : decode cX9_endStatement 112 = .ok (.invokevirtual 146, 3) := by decide +kernel
theorem dX9_endStatement_115 : decode cX9_endStatement 115 = .ok (.aload_n 0, 1) := by decide +kernel
theorem dX9_endStatement_116 : decode cX9_endStatement 116 = .ok (.dup, 1) := by decide +kernel
theorem dX9_endStatement_117 : decode cX9_endStatement 117 = .ok (.getfield 47, 3) := by decide +kernel
theorem dX9_endStatement_120 : decode cX9_endStatement 120 = .ok (.iconst 1, 1) := by decide +kernel
theorem dX9_endStatement_121 : decode cX9_endStatement 121 = .ok (.iadd, 1) := by decide +kernel
theorem dX9_endStatement_122 : decode cX9_endStatement 122 = .ok (.putfield 47, 3) := by decide +kernel
theorem dX9_endStatement_125 : decode cX9_endStatement 125 = .ok (.goto 107, 3) := by decide +kernel
theorem dX9_endStatement_128 : decode cX9_endStatement 128 = .ok (.aload_n 0, 1) := by decide +kernel
theorem dX9_endStatement_129 : decode cX9_endStatement 129 = .ok (.getfield 34, 3) := by decide +kernel
theorem dX9_endStatement_132 : decode cX9_endStatement 132 = .ok (.iload_n 2, 1) := by decide +kernel
theorem dX9_endStatement_133 : decode cX9_endStatement 133 = .ok (.invokevirtual 149, 3) := by decide +kernel
theorem dX9_endStatement_136 : decode cX9_endStatement 136 = .ok (.aload_n 0, 1) := by decide +kernel
theorem dX9_endStatement_137 : decode cX9_endStatement 137 = .ok (.dup, 1) := by decide +kernel
theorem dX9_endStatement_138 : decode cX9_endStatement 138 = .ok (.getfield 47, 3) := by decide +kernel
theorem dX9_endStatement_141 : decode cX9_endStatement 141 = .ok (.iconst 1, 1) := by decide +kernel
theorem dX9_endStatement_142 : decode cX9_endStatement 142 = .ok (.iadd, 1) := by decide +kernel
theorem dX9_endStatement_143 : decode cX9_endStatement 143 = .ok (.putfield 47, 3) := by decide +kernel
theorem dX9_endStatement_146 : decode cX9_endStatement 146 = .ok (.goto 86, 3) := by decide +kernel
theorem dX9_endStatement_149 : decode cX9_endStatement 149 = .ok (.aload_n 0, 1) := by decide +kernel
theorem dX9_endStatement_150 : decode cX9_endStatement 150 = .ok (.getfield 14, 3) := by decide +kernel
theorem dX9_endStatement_153 : decode cX9_endStatement 153 = .ok (.iload_n 2, 1) := by decide +kernel
theorem dX9_endStatement_154 : decode cX9_endStatement 154 = .ok (.invokevirtual 90, 3) := by decide +kernel
theorem dX9_endStatement_157 : decode cX9_endStatement 157 = .ok (.aload_n 0, 1) := by decide +kernel
theorem dX9_endStatement_158 : decode cX9_endStatement 158 = .ok (.invokevirtual 93, 3) := by decide +kernel
theorem dX9_endStatement_161 : decode cX9_endStatement 161 = .ok (.goto 71, 3) := by decide +kernel
theorem dX9_endStatement_164 : decode cX9_endStatement 164 = .ok (.aload_n 0, 1) := by decide +kernel
theorem dX9_endStatement_165 : decode cX9_endStatement 165 = .ok (.iload_n 2, 1) := by decide +kernel
theorem dX9_endStatement_166 : decode cX9_endStatement 166 = .ok (.ifCond .eq 12, 3) := by decide +kernel
theorem dX9_endStatement_169 : decode cX9_endStatement 169 = .ok (.aload_n 0, 1) := by decide +kernel
theorem dX9_endStatement_170 : decode cX9_endStatement 170 = .ok (.getfield 47, 3) := by decide +kernel
theorem dX9_endStatement_173 : decode cX9_endStatement 173 = .ok (.iconst 1, 1) := by decide +kernel
theorem dX9_endStatement_174 : decode cX9_endStatement 174 = .ok (.iadd, 1) := by decide +kernel
theorem dX9_endStatement_175 : decode cX9_endStatement 175 = .ok (.goto 7, 3) := by decide +kernel
theorem dX9_endStatement_178 : decode cX9_endStatement 178 = .ok (.aload_n 0, 1) := by decide +kernel
theorem dX9_endStatement_179 : decode cX9_endStatement 179 = .ok (.invokevirtual 152, 3) := by decide +kernel
theorem dX9_endStatement_182 : decode cX9_endStatement 182 = .ok (.putfield 47, 3) := by decide +kernel
theorem dX9_endStatement_185 : decode cX9_endStatement 185 = .ok (.goto 47, 3) := by decide +kernel
theorem dX9_endStatement_188 : decode cX9_endStatement 188 = .ok (.aload_n 0, 1) := by decide +kernel
theorem dX9_endStatement_189 : decode cX9_endStatement 189 = .ok (.iload_n 2, 1) := by decide +kernel
theorem dX9_endStatement_190 : decode cX9_endStatement 190 = .ok (.ifCond .eq 12, 3) := by decide +kernel
theorem dX9_endStatement_193 : decode cX9_endStatement 193 = .ok (.aload_n 0, 1) := by decide +kernel
theorem dX9_endStatement_194 : decode cX9_endStatement 194 = .ok (.getfield 47, 3) := by decide +kernel
theorem dX9_endStatement_197 : decode cX9_endStatement 197 = .ok (.iconst 1, 1) := by decide +kernel
theorem dX9_endStatement_198 : decode cX9_endStatement 198 = .ok (.iadd, 1) := by decide +kernel
theorem dX9_endStatement_199 : decode cX9_endStatement 199 = .ok (.goto 17, 3) := by decide +kernel
theorem dX9_endStatement_202 : decode cX9_endStatement 202 = .ok (.aload_n 0, 1) := by decide +kernel
theorem dX9_endStatement_203 : decode cX9_endStatement 203 = .ok (.getfield 33, 3) := by decide +kernel
theorem dX9_endStatement_206 : decode cX9_endStatement 206 = .ok (.getfield 83, 3) := by decide +kernel
theorem dX9_endStatement_209 : decode cX9_endStatement 209 = .ok (.aload_n 0, 1) := by decide +kernel
theorem dX9_endStatement_210 : decode cX9_endStatement 210 = .ok (.getfield 47, 3) := by decide +kernel
theorem dX9_endStatement_213 : decode cX9_endStatement 213 = .ok (.invokevirtual 73, 3) := by decide +kernel
theorem dX9_endStatement_216 : decode cX9_endStatement 216 = .ok (.putfield 47, 3) := by decide +kernel
theorem dX9_endStatement_219 : decode cX9_endStatement 219 = .ok (.goto 13, 3) := by decide +kernel
theorem dX9_endStatement_222 : decode cX9_endStatement 222 = .ok (.aload_n 0, 1) := by decide +kernel
theorem dX9_endStatement_223 : decode cX9_endStatement 223 = .ok (.dup, 1) := by decide +kernel
theorem dX9_endStatement_224 : decode cX9_endStatement 224 = .ok (.getfield 47, 3) := by decide +kernel
theorem dX9_endStatement_227 : decode cX9_endStatement 227 = .ok (.iconst 1, 1) := by decide +kernel
theorem dX9_endStatement_228 : decode cX9_endStatement 228 = .ok (.iadd, 1) := by decide +kernel
theorem dX9_endStatement_229 : decode cX9_endStatement 229 = .ok (.putfield 47, 3) := by decide +kernel
theorem dX9_endStatement_232 : decode cX9_endStatement 232 = .ok (.return_, 1) := by decide +kernel
theorem dX9_otherBlock_0 : decode cX9_otherBlock 0 = .ok (.aload_n 0, 1) := by decide +kernel
theorem dX9_otherBlock_1 : decode cX9_otherBlock 1 = .ok (.getfield 33, 3) := by decide +kernel
theorem dX9_otherBlock_4 : decode cX9_otherBlock 4 = .ok (.getfield 83, 3) := by decide +kernel
theorem dX9_otherBlock_7 : decode cX9_otherBlock 7 = .ok (.aload_n 0, 1) := by decide +kernel
theorem dX9_otherBlock_8 : decode cX9_otherBlock 8 = .ok (.getfield 47, 3) := by decide +kernel
theorem dX9_otherBlock_11 : decode cX9_otherBlock 11 = .ok (.invokevirtual 73, 3) := by decide +kernel
theorem dX9_otherBlock_14 : decode cX9_otherBlock 14 = .ok (.istore_n 1, 1) := by decide +kernel
theorem dX9_otherBlock_15 : decode cX9_otherBlock 15 = .ok (.aload_n 0, 1) := by decide +kernel
theorem dX9_otherBlock_16 : decode cX9_otherBlock 16 = .ok (.getfield 33, 3) := by decide +kernel
theorem dX9_otherBlock_19 : decode cX9_otherBlock 19 = .ok (.getfield 68, 3) := by decide +kernel
theorem dX9_otherBlock_22 : decode cX9_otherBlock 22 = .ok (.iload_n 1, 1) := by decide +kernel
theorem dX9_otherBlock_23 : decode cX9_otherBlock 23 = .ok (.invokevirtual 73, 3) := by decide +kernel
theorem dX9_otherBlock_26 : decode cX9_otherBlock 26 = .ok (.bipush 6, 2) := by decide +kernel
theorem dX9_otherBlock_28 : decode cX9_otherBlock 28 = .ok (.if_icmp .ne 9, 3) := by decide +kernel
theorem dX9_otherBlock_31 : decode cX9_otherBlock 31 = .ok (.iload_n 1, 1) := by decide +kernel
theorem dX9_otherBlock_32 : decode cX9_otherBlock 32 = .ok (.iconst 2, 1) := by decide +kernel
theorem dX9_otherBlock_33 : decode cX9_otherBlock 33 = .ok (.iadd, 1) := by decide +kernel
theorem dX9_otherBlock_34 : decode cX9_otherBlock 34 = .ok (.goto 4, 3) := by decide +kernel
theorem dX9_otherBlock_37 : decode cX9_otherBlock 37 = .ok (.iload_n 1, 1) := by decide +kernel
theorem dX9_otherBlock_38 : decode cX9_otherBlock 38 = .ok (.ireturn, 1) := by decide +kernel
theorem dX9_call_0 : decode cX9_call 0 = .ok (.aload_n 0, 1) := by decide +kernel
theorem dX9_call_1 : decode cX9_call 1 = .ok (.getfield 33, 3) := by decide +kernel
theorem dX9_call_4 : decode cX9_call 4 = .ok (.getfield 83, 3) := by decide +kernel
theorem dX9_call_7 : decode cX9_call 7 = .ok (.aload_n 0, 1) := by decide +kernel
theorem dX9_call_8 : decode cX9_call 8 = .ok (.getfield 20, 3) := by decide +kernel
theorem dX9_call_11 : decode cX9_call 11 = .ok (.invokevirtual 125, 3) := by decide +kernel
theorem dX9_call_14 : decode cX9_call 14 = .ok (.iconst 1, 1) := by decide +kernel
theorem dX9_call_15 : decode cX9_call 15 = .ok (.isub, 1) := by decide +kernel
theorem dX9_call_16 : decode cX9_call 16 = .ok (.invokevirtual 73, 3) := by decide +kernel
theorem dX9_call_19 : decode cX9_call 19 = .ok (.istore_n 1, 1) := by decide +kernel
theorem dX9_call_20 : decode cX9_call 20 = .ok (.aload_n 0, 1) := by decide +kernel
theorem dX9_call_21 : decode cX9_call 21 = .ok (.getfield 34, 3) := by decide +kernel
theorem dX9_call_24 : decode cX9_call 24 = .ok (.aload_n 0, 1) := by decide +kernel
theorem dX9_call_25 : decode cX9_call 25 = .ok (.getfield 47, 3) := by decide +kernel
theorem dX9_call_28 : decode cX9_call 28 = .ok (.iconst 1, 1) := by decide +kernel
theorem dX9_call_29 : decode cX9_call 29 = .ok (.iadd, 1) := by decide +kernel
theorem dX9_call_30 : decode cX9_call 30 = .ok (.invokevirtual 155, 3) := by decide +kernel
theorem dX9_call_33 : decode cX9_call 33 = .ok (.ifCond .eq 58, 3) := by decide +kernel
theorem dX9_call_36 : decode cX9_call 36 = .ok (.aload_n 0, 1) := by decide +kernel
theorem dX9_call_37 : decode cX9_call 37 = .ok (.getfield 23, 3) := by decide +kernel
theorem dX9_call_40 : decode cX9_call 40 = .ok (.iload_n 1, 1) := by decide +kernel
theorem dX9_call_41 : decode cX9_call 41 = .ok (.invokevirtual 159, 3) := by decide +kernel
theorem dX9_call_44 : decode cX9_call 44 = .ok (.iconst 1, 1) := by decide +kernel
theorem dX9_call_45 : decode cX9_call 45 = .ok (.isub, 1) := by decide +kernel
theorem dX9_call_46 : decode cX9_call 46 = .ok (.istore_n 2, 1) := by decide +kernel
theorem dX9_call_47 : decode cX9_call 47 = .ok (.iload_n 2, 1) := by decide +kernel
theorem dX9_call_48 : decode cX9_call 48 = .ok (.ifCond .lt 24, 3) := by decide +kernel
theorem dX9_call_51 : decode cX9_call 51 = .ok (.aload_n 0, 1) := by decide +kernel
theorem dX9_call_52 : decode cX9_call 52 = .ok (.getfield 34, 3) := by decide +kernel
theorem dX9_call_55 : decode cX9_call 55 = .ok (.iload_n 2, 1) := by decide +kernel
theorem dX9_call_56 : decode cX9_call 56 = .ok (.aload_n 0, 1) := by decide +kernel
theorem dX9_call_57 : decode cX9_call 57 = .ok (.getfield 14, 3) := by decide +kernel
theorem dX9_call_60 : decode cX9_call 60 = .ok (.invokevirtual 125, 3) := by decide +kernel
theorem dX9_call_63 : decode cX9_call 63 = .ok (.invokevirtual 143, 3) := by decide +kernel
theorem dX9_call_66 : decode cX9_call 66 = .ok (.iinc 2 (-1), 3) := by decide +kernel
theorem dX9_call_69 : decode cX9_call 69 = .ok (.goto (-22), 3) := by decide +kernel
theorem dX9_call_72 : decode cX9_call 72 = .ok (.aload_n 0, 1) := by decide +kernel
theorem dX9_call_73 : decode cX9_call 73 = .ok (.aload_n 0, 1) := by decide +kernel
theorem dX9_call_74 : decode cX9_call 74 = .ok (.getfield 23, 3) := by decide +kernel
theorem dX9_call_77 : decode cX9_call 77 = .ok (.iload_n 1, 1) := by decide +kernel
theorem dX9_call_78 : decode cX9_call 78 = .ok (.invokevirtual 162, 3) := by decide +kernel
theorem dX9_call_81 : decode cX9_call 81 = .ok (.iconst 1, 1) := by decide +kernel
theorem dX9_call_82 : decode cX9_call 82 = .ok (.iadd, 1) := by decide +kernel
theorem dX9_call_83 : decode cX9_call 83 = .ok (.putfield 47, 3) := by decide +kernel
theorem dX9_call_86 : decode cX9_call 86 = .ok (.aload_n 0, 1) := by decide +kernel
theorem dX9_call_87 : decode cX9_call 87 = .ok (.iconst 0, 1) := by decide +kernel
theorem dX9_call_88 : decode cX9_call 88 = .ok (.putfield 51, 3) := by decide +kernel
theorem dX9_call_91 : decode cX9_call 91 = .ok (.return_, 1) := by decide +kernel
theorem dX9_endCall_0 : decode cX9_endCall 0 = .ok (.aload_n 0, 1) := by decide +kernel
theorem dX9_endCall_1 : decode cX9_endCall 1 = .ok (.aload_n 0, 1) := by decide +kernel
theorem dX9_endCall_2 : decode cX9_endCall 2 = .ok (.getfield 34, 3) := by decide +kernel
theorem dX9_endCall_5 : decode cX9_endCall 5 = .ok (.invokevirtual 165, 3) := by decide +kernel
theorem dX9_endCall_8 : decode cX9_endCall 8 = .ok (.putfield 47, 3) := by decide +kernel
theorem dX9_endCall_11 : decode cX9_endCall 11 = .ok (.aload_n 0, 1) := by decide +kernel
theorem dX9_endCall_12 : decode cX9_endCall 12 = .ok (.iconst 2, 1) := by decide +kernel
theorem dX9_endCall_13 : decode cX9_endCall 13 = .ok (.putfield 51, 3) := by decide +kernel
theorem dX9_endCall_16 : decode cX9_endCall 16 = .ok (.return_, 1) := by decide +kernel
theorem dX10_init_0 : decode cX10_init 0 = .ok (.aload_n 0, 1) := by decide +kernel
theorem dX10_init_1 : decode cX10_init 1 = .ok (.invokespecial 3, 3) := by decide +kernel
theorem dX10_init_4 : decode cX10_init 4 = .ok (.aload_n 0, 1) := by decide +kernel
theorem dX10_init_5 : decode cX10_init 5 = .ok (.new 9, 3) := by decide +kernel
theorem dX10_init_8 : decode cX10_init 8 = .ok (.dup, 1) := by decide +kernel
theorem dX10_init_9 : decode cX10_init 9 = .ok (.sipush 300, 3) := by decide +kernel
theorem dX10_init_12 : decode cX10_init 12 = .ok (.invokespecial 11, 3) := by decide +kernel
theorem dX10_init_15 : decode cX10_init 15 = .ok (.putfield 14, 3) := by decide +kernel
theorem dX10_init_18 : decode cX10_init 18 = .ok (.aload_n 0, 1) := by decide +kernel
theorem dX10_init_19 : decode cX10_init 19 = .ok (.new 18, 3) := by decide +kernel
theorem dX10_init_22 : decode cX10_init 22 = .ok (.dup, 1) := by decide +kernel
theorem dX10_init_23 : decode cX10_init 23 = .ok (.invokespecial 20, 3) := by decide +kernel
theorem dX10_init_26 : decode cX10_init 26 = .ok (.putfield 21, 3) := by decide +kernel
theorem dX10_init_29 : decode cX10_init 29 = .ok (.aload_n 0, 1) := by decide +kernel
theorem dX10_init_30 : decode cX10_init 30 = .ok (.new 25, 3) := by decide +kernel
theorem dX10_init_33 : decode cX10_init 33 = .ok (.dup, 1) := by decide +kernel
theorem dX10_init_34 : decode cX10_init 34 = .ok (.aload_n 0, 1) := by decide +kernel
theorem dX10_init_35 : decode cX10_init 35 = .ok (.getfield 21, 3) := by decide +kernel
theorem dX10_init_38 : decode cX10_init 38 = .ok (.invokespecial 27, 3) := by decide +kernel
theorem dX10_init_41 : decode cX10_init 41 = .ok (.putfield 30, 3) := by decide +kernel
theorem dX10_init_44 : decode cX10_init 44 = .ok (.aload_n 0, 1) := by decide +kernel
theorem dX10_init_45 : decode cX10_init 45 = .ok (.new 34, 3) := by decide +kernel
theorem dX10_init_48 : decode cX10_init 48 = .ok (.dup, 1) := by decide +kernel
theorem dX10_init_49 : decode cX10_init 49 = .ok (.invokespecial 36, 3) := by decide +kernel
theorem dX10_init_52 : decode cX10_init 52 = .ok (.putfield 37, 3) := by decide +kernel
theorem dX10_init_55 : decode cX10_init 55 = .ok (.aload_n 0, 1) := by decide +kernel
theorem dX10_init_56 : decode cX10_init 56 = .ok (.new 34, 3) := by decide +kernel
theorem dX10_init_59 : decode cX10_init 59 = .ok (.dup, 1) := by decide +kernel
theorem dX10_init_60 : decode cX10_init 60 = .ok (.invokespecial 36, 3) := by decide +kernel
theorem dX10_init_63 : decode cX10_init 63 = .ok (.putfield 41, 3) := by decide +kernel
theorem dX10_init_66 : decode cX10_init 66 = .ok (.aload_n 0, 1) := by decide +kernel
theorem dX10_init_67 : decode cX10_init 67 = .ok (.new 44, 3) := by decide +kernel
theorem dX10_init_70 : decode cX10_init 70 = .ok (.dup, 1) := by decide +kernel
theorem dX10_init_71 : decode cX10_init 71 = .ok (.aload_n 0, 1) := by decide +kernel
theorem dX10_init_72 : decode cX10_init 72 = .ok (.getfield 21, 3) := by decide +kernel
theorem dX10_init_75 : decode cX10_init 75 = .ok (.aload_n 0, 1) := by decide +kernel
theorem dX10_init_76 : decode cX10_init 76 = .ok (.getfield 41, 3) := by decide +kernel
theorem dX10_init_79 : decode cX10_init 79 = .ok (.invokespecial 46, 3) := by decide +kernel
theorem dX10_init_82 : decode cX10_init 82 = .ok (.putfield 49, 3) := by decide +kernel
theorem dX10_init_85 : decode cX10_init 85 = .ok (.aload_n 0, 1) := by decide +kernel
theorem dX10_init_86 : decode cX10_init 86 = .ok (.new 53, 3) := by decide +kernel
theorem dX10_init_89 : decode cX10_init 89 = .ok (.dup, 1) := by decide +kernel
theorem dX10_init_90 : decode cX10_init 90 = .ok (.aload_n 0, 1) := by decide +kernel
theorem dX10_init_91 : decode cX10_init 91 = .ok (.getfield 21, 3) := by decide +kernel
theorem dX10_init_94 : decode cX10_init 94 = .ok (.aload_n 0, 1) := by decide +kernel
theorem dX10_init_95 : decode cX10_init 95 = .ok (.getfield 41, 3) := by decide +kernel
theorem dX10_init_98 : decode cX10_init 98 = .ok (.invokespecial 55, 3) := by decide +kernel
theorem dX10_init_101 : decode cX10_init 101 = .ok (.putfield 56, 3) := by decide +kernel
theorem dX10_init_104 : decode cX10_init 104 = .ok (.aload_n 0, 1) := by decide +kernel
theorem dX10_init_105 : decode cX10_init 105 = .ok (.new 60, 3) := by decide +kernel
theorem dX10_init_108 : decode cX10_init 108 = .ok (.dup, 1) := by decide +kernel
theorem dX10_init_109 : decode cX10_init 109 = .ok (.invokespecial 62, 3) := by decide +kernel
theorem dX10_init_112 : decode cX10_init 112 = .ok (.putfield 63, 3) := by decide +kernel
theorem dX10_init_115 : decode cX10_init 115 = .ok (.aload_n 0, 1) := by decide +kernel
theorem dX10_init_116 : decode cX10_init 116 = .ok (.new 60, 3) := by decide +kernel
theorem dX10_init_119 : decode cX10_init 119 = .ok (.dup, 1) := by decide +kernel
theorem dX10_init_120 : decode cX10_init 120 = .ok (.invokespecial 62, 3) := by decide +kernel
theorem dX10_init_123 : decode cX10_init 123 = .ok (.putfield 67, 3) := by decide +kernel
theorem dX10_init_126 : decode cX10_init 126 = .ok (.aload_n 0, 1) := by decide +kernel
theorem dX10_init_127 : decode cX10_init 127 = .ok (.new 9, 3) := by decide +kernel
theorem dX10_init_130 : decode cX10_init 130 = .ok (.dup, 1) := by decide +kernel
theorem dX10_init_131 : decode cX10_init 131 = .ok (.bipush 30, 2) := by decide +kernel
theorem dX10_init_133 : decode cX10_init 133 = .ok (.invokespecial 11, 3) := by decide +kernel
theorem dX10_init_136 : decode cX10_init 136 = .ok (.putfield 70, 3) := by decide +kernel
theorem dX10_init_139 : decode cX10_init 139 = .ok (.aload_n 0, 1) := by decide +kernel
theorem dX10_init_140 : decode cX10_init 140 = .ok (.new 9, 3) := by decide +kernel
theorem dX10_init_143 : decode cX10_init 143 = .ok (.dup, 1) := by decide +kernel
theorem dX10_init_144 : decode cX10_init 144 = .ok (.bipush 8, 2) := by decide +kernel
theorem dX10_init_146 : decode cX10_init 146 = .ok (.invokespecial 11, 3) := by decide +kernel
theorem dX10_init_149 : decode cX10_init 149 = .ok (.putfield 73, 3) := by decide +kernel
theorem dX10_init_152 : decode cX10_init 152 = .ok (.return_, 1) := by decide +kernel
theorem dX10_write_0 : decode cX10_write 0 = .ok (.iconst 0, 1) := by decide +kernel
theorem dX10_write_1 : decode cX10_write 1 = .ok (.istore_n 3, 1) := by decide +kernel
theorem dX10_write_2 : decode cX10_write 2 = .ok (.iconst 0, 1) := by decide +kernel
theorem dX10_write_3 : decode cX10_write 3 = .ok (.istore 4, 2) := by decide +kernel
theorem dX10_write_5 : decode cX10_write 5 = .ok (.iload 4, 2) := by decide +kernel
theorem dX10_write_7 : decode cX10_write 7 = .ok (.bipush 8, 2) := by decide +kernel
theorem dX10_write_9 : decode cX10_write 9 = .ok (.if_icmp .ge 66, 3) := by decide +kernel
theorem dX10_write_12 : decode cX10_write 12 = .ok (.lload_n 1, 1) := by decide +kernel
theorem dX10_write_13 : decode cX10_write 13 = .ok (.iload 4, 2) := by decide +kernel
theorem dX10_write_15 : decode cX10_write 15 = .ok (.invokestatic 76, 3) := by decide +kernel
theorem dX10_write_18 : decode cX10_write 18 = .ok (.istore 5, 2) := by decide +kernel
theorem dX10_write_20 : decode cX10_write 20 = .ok (.iload 5, 2) := by decide +kernel
theorem dX10_write_22 : decode cX10_write 22 = .ok (.ifCond .eq 34, 3) := by decide +kernel
theorem dX10_write_25 : decode cX10_write 25 = .ok (.iload 5, 2) := by decide +kernel
theorem dX10_write_27 : decode cX10_write 27 = .ok (.bipush 10, 2) := by decide +kernel
theorem dX10_write_29 : decode cX10_write 29 = .ok (.if_icmp .eq 27, 3) := by decide +kernel
theorem dX10_write_32 : decode cX10_write 32 = .ok (.iload 5, 2) := by decide +kernel
theorem dX10_write_34 : decode cX10_write 34 = .ok (.bipush 32, 2) := by decide +kernel
theorem dX10_write_36 : decode cX10_write 36 = .ok (.if_icmp .lt 10, 3) := by decide +kernel
theorem dX10_write_39 : decode cX10_write 39 = .ok (.iload 5, 2) := by decide +kernel
theorem dX10_write_41 : decode cX10_write 41 = .ok (.bipush 126, 2) := by decide +kernel
theorem dX10_write_43 : decode cX10_write 43 = .ok (.if_icmp .le 13, 3) := by decide +kernel
theorem dX10_write_46 : decode cX10_write 46 = .ok (.new 80, 3) := by decide +kernel
theorem dX10_write_49 : decode cX10_write 49 = .ok (.dup, 1) := by decide +kernel
theorem dX10_write_50 : decode cX10_write 50 = .ok (.ldc 82, 2) := by decide +kernel
theorem dX10_write_52 : decode cX10_write 52 = .ok (.invokespecial 84, 3) := by decide +kernel
theorem dX10_write_55 : decode cX10_write 55 = .ok (.athrow, 1) := by decide +kernel
theorem dX10_write_56 : decode cX10_write 56 = .ok (.iload_n 3, 1) := by decide +kernel
theorem dX10_write_57 : decode cX10_write 57 = .ok (.iload 5, 2) := by decide +kernel
theorem dX10_write_59 : decode cX10_write 59 = .ok (.ifCond .ne 7, 3) := by decide +kernel
theorem dX10_write_62 : decode cX10_write 62 = .ok (.iconst 0, 1) := by decide +kernel
theorem dX10_write_63 : decode cX10_write 63 = .ok (.goto 4, 3) := by decide +kernel
theorem dX10_write_66 : decode cX10_write 66 = .ok (.iconst 1, 1) := by decide +kernel
theorem dX10_write_67 : decode cX10_write 67 = .ok (.iadd, 1) := by decide +kernel
theorem dX10_write_68 : decode cX10_write 68 = .ok (.istore_n 3, 1) := by decide +kernel
theorem dX10_write_69 : decode cX10_write 69 = .ok (.iinc 4 1, 3) := by decide +kernel
theorem dX10_write_72 : decode cX10_write 72 = .ok (.goto (-67), 3) := by decide +kernel
theorem dX10_write_75 : decode cX10_write 75 = .ok (.aload_n 0, 1) := by decide +kernel
theorem dX10_write_76 : decode cX10_write 76 = .ok (.getfield 14, 3) := by decide +kernel
theorem dX10_write_79 : decode cX10_write 79 = .ok (.invokevirtual 87, 3) := by decide +kernel
theorem dX10_write_82 : decode cX10_write 82 = .ok (.iload_n 3, 1) := by decide +kernel
theorem dX10_write_83 : decode cX10_write 83 = .ok (.iadd, 1) := by decide +kernel
theorem dX10_write_84 : decode cX10_write 84 = .ok (.sipush 300, 3) := by decide +kernel
theorem dX10_write_87 : decode cX10_write 87 = .ok (.if_icmp .le 5, 3) := by decide +kernel
theorem dX10_write_90 : decode cX10_write 90 = .ok (.iconst (-1), 1) := by decide +kernel
theorem dX10_write_91 : decode cX10_write 91 = .ok (.ireturn, 1) := by decide +kernel
theorem dX10_write_92 : decode cX10_write 92 = .ok (.iconst 0, 1) := by decide +kernel
theorem dX10_write_93 : decode cX10_write 93 = .ok (.istore 4, 2) := by decide +kernel
theorem dX10_write_95 : decode cX10_write 95 = .ok (.iload 4, 2) := by decide +kernel
theorem dX10_write_97 : decode cX10_write 97 = .ok (.bipush 8, 2) := by decide +kernel
theorem dX10_write_99 : decode cX10_write 99 = .ok (.if_icmp .ge 31, 3) := by decide +kernel
theorem dX10_write_102 : decode cX10_write 102 = .ok (.lload_n 1, 1) := by decide +kernel
theorem dX10_write_103 : decode cX10_write 103 = .ok (.iload 4, 2) := by decide +kernel
theorem dX10_write_105 : decode cX10_write 105 = .ok (.invokestatic 76, 3) := by decide +kernel
theorem dX10_write_108 : decode cX10_write 108 = .ok (.istore 5, 2) := by decide +kernel
theorem dX10_write_110 : decode cX10_write 110 = .ok (.iload 5, 2) := by decide +kernel
theorem dX10_write_112 : decode cX10_write 112 = .ok (.ifCond .eq 12, 3) := by decide +kernel
theorem dX10_write_115 : decode cX10_write 115 = .ok (.aload_n 0, 1) := by decide +kernel
theorem dX10_write_116 : decode cX10_write 116 = .ok (.getfield 14, 3) := by decide +kernel
theorem dX10_write_119 : decode cX10_write 119 = .ok (.iload 5, 2) := by decide +kernel
theorem dX10_write_121 : decode cX10_write 121 = .ok (.invokevirtual 91, 3) := by decide +kernel
theorem dX10_write_124 : decode cX10_write 124 = .ok (.iinc 4 1, 3) := by decide +kernel
theorem dX10_write_127 : decode cX10_write 127 = .ok (.goto (-32), 3) := by decide +kernel
theorem dX10_write_130 : decode cX10_write 130 = .ok (.aload_n 0, 1) := by decide +kernel
theorem dX10_write_131 : decode cX10_write 131 = .ok (.iconst 0, 1) := by decide +kernel
theorem dX10_write_132 : decode cX10_write 132 = .ok (.putfield 94, 3) := by decide +kernel
theorem dX10_write_135 : decode cX10_write 135 = .ok (.aload_n 0, 1) := by decide +kernel
theorem dX10_write_136 : decode cX10_write 136 = .ok (.getfield 14, 3) := by decide +kernel
theorem dX10_write_139 : decode cX10_write 139 = .ok (.invokevirtual 87, 3) := by decide +kernel
theorem dX10_write_142 : decode cX10_write 142 = .ok (.ireturn, 1) := by decide +kernel
theorem dX10_wipe_0 : decode cX10_wipe 0 = .ok (.aload_n 0, 1) := by decide +kernel
theorem dX10_wipe_1 : decode cX10_wipe 1 = .ok (.getfield 14, 3) := by decide +kernel
theorem dX10_wipe_4 : decode cX10_wipe 4 = .ok (.invokevirtual 87, 3) := by decide +kernel
theorem dX10_wipe_7 : decode cX10_wipe 7 = .ok (.istore_n 1, 1) := by decide +kernel
theorem dX10_wipe_8 : decode cX10_wipe 8 = .ok (.aload_n 0, 1) := by decide +kernel
theorem dX10_wipe_9 : decode cX10_wipe 9 = .ok (.getfield 14, 3) := by decide +kernel
theorem dX10_wipe_12 : decode cX10_wipe 12 = .ok (.invokevirtual 98, 3) := by decide +kernel
theorem dX10_wipe_15 : decode cX10_wipe 15 = .ok (.aload_n 0, 1) := by decide +kernel
theorem dX10_wipe_16 : decode cX10_wipe 16 = .ok (.iconst 0, 1) := by decide +kernel
theorem dX10_wipe_17 : decode cX10_wipe 17 = .ok (.putfield 94, 3) := by decide +kernel
theorem dX10_wipe_20 : decode cX10_wipe 20 = .ok (.iload_n 1, 1) := by decide +kernel
theorem dX10_wipe_21 : decode cX10_wipe 21 = .ok (.ireturn, 1) := by decide +kernel
theorem dX10_erase_0 : decode cX10_erase 0 = .ok (.iload_n 1, 1) := by decide +kernel
theorem dX10_erase_1 : decode cX10_erase 1 = .ok (.iconst 1, 1) := by decide +kernel
theorem dX10_erase_2 : decode cX10_erase 2 = .ok (.if_icmp .lt 14, 3) := by decide +kernel
theorem dX10_erase_5 : decode cX10_erase 5 = .ok (.iload_n 1, 1) := by decide +kernel
theorem dX10_erase_6 : decode cX10_erase 6 = .ok (.aload_n 0, 1) := by decide +kernel
theorem dX10_erase_7 : decode cX10_erase 7 = .ok (.getfield 14, 3) := by decide +kernel
theorem dX10_erase_10 : decode cX10_erase 10 = .ok (.invokevirtual 87, 3) := by decide +kernel
theorem dX10_erase_13 : decode cX10_erase 13 = .ok (.if_icmp .le 13, 3) := by decide +kernel
theorem dX10_erase_16 : decode cX10_erase 16 = .ok (.new 80, 3) := by decide +kernel
theorem dX10_erase_19 : decode cX10_erase 19 = .ok (.dup, 1) := by decide +kernel
theorem dX10_erase_20 : decode cX10_erase 20 = .ok (.ldc 101, 2) := by decide +kernel
theorem dX10_erase_22 : decode cX10_erase 22 = .ok (.invokespecial 84, 3) := by decide +kernel
theorem dX10_erase_25 : decode cX10_erase 25 = .ok (.athrow, 1) := by decide +kernel
theorem dX10_erase_26 : decode cX10_erase 26 = .ok (.aload_n 0, 1) := by decide +kernel
theorem dX10_erase_27 : decode cX10_erase 27 = .ok (.getfield 14, 3) := by decide +kernel
theorem dX10_erase_30 : decode cX10_erase 30 = .ok (.aload_n 0, 1) := by decide +kernel
theorem dX10_erase_31 : decode cX10_erase 31 = .ok (.getfield 14, 3) := by decide +kernel
theorem dX10_erase_34 : decode cX10_erase 34 = .ok (.invokevirtual 87, 3) := by decide +kernel
theorem dX10_erase_37 : decode cX10_erase 37 = .ok (.iload_n 1, 1) := by decide +kernel
theorem dX10_erase_38 : decode cX10_erase 38 = .ok (.isub, 1) := by decide +kernel
theorem dX10_erase_39 : decode cX10_erase 39 = .ok (.invokevirtual 103, 3) := by decide +kernel
theorem dX10_erase_42 : decode cX10_erase 42 = .ok (.aload_n 0, 1) := by decide +kernel
theorem dX10_erase_43 : decode cX10_erase 43 = .ok (.iconst 0, 1) := by decide +kernel
theorem dX10_erase_44 : decode cX10_erase 44 = .ok (.putfield 94, 3) := by decide +kernel
theorem dX10_erase_47 : decode cX10_erase 47 = .ok (.aload_n 0, 1) := by decide +kernel
theorem dX10_erase_48 : decode cX10_erase 48 = .ok (.getfield 14, 3) := by decide +kernel
theorem dX10_erase_51 : decode cX10_erase 51 = .ok (.invokevirtual 87, 3) := by decide +kernel
theorem dX10_erase_54 : decode cX10_erase 54 = .ok (.ireturn, 1) := by decide +kernel
theorem dX10_length_0 : decode cX10_length 0 = .ok (.aload_n 0, 1) := by decide +kernel
theorem dX10_length_1 : decode cX10_length 1 = .ok (.getfield 14, 3) := by decide +kernel
theorem dX10_length_4 : decode cX10_length 4 = .ok (.invokevirtual 87, 3) := by decide +kernel
theorem dX10_length_7 : decode cX10_length 7 = .ok (.ireturn, 1) := by decide +kernel
theorem dX10_signAt_0 : decode cX10_signAt 0 = .ok (.iload_n 1, 1) := by decide +kernel
theorem dX10_signAt_1 : decode cX10_signAt 1 = .ok (.ifCond .lt 14, 3) := by decide +kernel
theorem dX10_signAt_4 : decode cX10_signAt 4 = .ok (.iload_n 1, 1) := by decide +kernel
theorem dX10_signAt_5 : decode cX10_signAt 5 = .ok (.aload_n 0, 1) := by decide +kernel
theorem dX10_signAt_6 : decode cX10_signAt 6 = .ok (.getfield 14, 3) := by decide +kernel
theorem dX10_signAt_9 : decode cX10_signAt 9 = .ok (.invokevirtual 87, 3) := by decide +kernel
theorem dX10_signAt_12 : decode cX10_signAt 12 = .ok (.if_icmp .lt 13, 3) := by decide +kernel
theorem dX10_signAt_15 : decode cX10_signAt 15 = .ok (.new 106, 3) := by decide +kernel
theorem dX10_signAt_18 : decode cX10_signAt 18 = .ok (.dup, 1) := by decide +kernel
theorem dX10_signAt_19 : decode cX10_signAt 19 = .ok (.ldc 108, 2) := by decide +kernel
theorem dX10_signAt_21 : decode cX10_signAt 21 = .ok (.invokespecial 110, 3) := by decide +kernel
theorem dX10_signAt_24 : decode cX10_signAt 24 = .ok (.athrow, 1) := by decide +kernel
theorem dX10_signAt_25 : decode cX10_signAt 25 = .ok (.aload_n 0, 1) := by decide +kernel
theorem dX10_signAt_26 : decode cX10_signAt 26 = .ok (.getfield 14, 3) := by decide +kernel
theorem dX10_signAt_29 : decode cX10_signAt 29 = .ok (.iload_n 1, 1) := by decide +kernel
theorem dX10_signAt_30 : decode cX10_signAt 30 = .ok (.invokevirtual 111, 3) := by decide +kernel
theorem dX10_signAt_33 : decode cX10_signAt 33 = .ok (.i2c, 1) := by decide +kernel
theorem dX10_signAt_34 : decode cX10_signAt 34 = .ok (.ireturn, 1) := by decide +kernel
theorem dX10_fault_0 : decode cX10_fault 0 = .ok (.aload_n 0, 1) := by decide +kernel
theorem dX10_fault_1 : decode cX10_fault 1 = .ok (.invokevirtual 115, 3) := by decide +kernel
theorem dX10_fault_4 : decode cX10_fault 4 = .ok (.aload_n 0, 1) := by decide +kernel
theorem dX10_fault_5 : decode cX10_fault 5 = .ok (.getfield 21, 3) := by decide +kernel
theorem dX10_fault_8 : decode cX10_fault 8 = .ok (.getfield 118, 3) := by decide +kernel
theorem dX10_fault_11 : decode cX10_fault 11 = .ok (.ireturn, 1) := by decide +kernel
theorem dX10_faultPlace_0 : decode cX10_faultPlace 0 = .ok (.aload_n 0, 1) := by decide +kernel
theorem dX10_faultPlace_1 : decode cX10_faultPlace 1 = .ok (.invokevirtual 115, 3) := by decide +kernel
theorem dX10_faultPlace_4 : decode cX10_faultPlace 4 = .ok (.aload_n 0, 1) := by decide +kernel
theorem dX10_faultPlace_5 : decode cX10_faultPlace 5 = .ok (.getfield 21, 3) := by decide +kernel
theorem dX10_faultPlace_8 : decode cX10_faultPlace 8 = .ok (.getfield 118, 3) := by decide +kernel
theorem dX10_faultPlace_11 : decode cX10_faultPlace 11 = .ok (.ifCond .ne 7, 3) := by decide +kernel
theorem dX10_faultPlace_14 : decode cX10_faultPlace 14 = .ok (.iconst (-1), 1) := by decide +kernel
theorem dX10_faultPlace_15 : decode cX10_faultPlace 15 = .ok (.goto 23, 3) := by decide +kernel
theorem dX10_faultPlace_18 : decode cX10_faultPlace 18 = .ok (.aload_n 0, 1) := by decide +kernel
theorem dX10_faultPlace_19 : decode cX10_faultPlace 19 = .ok (.getfield 21, 3) := by decide +kernel
theorem dX10_faultPlace_22 : decode cX10_faultPlace 22 = .ok (.getfield 122, 3) := by decide +kernel
theorem dX10_faultPlace_25 : decode cX10_faultPlace 25 = .ok (.getfield 126, 3) := by decide +kernel
theorem dX10_faultPlace_28 : decode cX10_faultPlace 28 = .ok (.aload_n 0, 1) := by decide +kernel
theorem dX10_faultPlace_29 : decode cX10_faultPlace 29 = .ok (.getfield 21, 3) := by decide +kernel
theorem dX10_faultPlace_32 : decode cX10_faultPlace 32 = .ok (.getfield 131, 3) := by decide +kernel
theorem dX10_faultPlace_35 : decode cX10_faultPlace 35 = .ok (.invokevirtual 111, 3) := by decide +kernel
theorem dX10_faultPlace_38 : decode cX10_faultPlace 38 = .ok (.ireturn, 1) := by decide +kernel
theorem dX10_draftParts_0 : decode cX10_draftParts 0 = .ok (.aload_n 0, 1) := by decide +kernel
theorem dX10_draftParts_1 : decode cX10_draftParts 1 = .ok (.invokevirtual 115, 3) := by decide +kernel
theorem dX10_draftParts_4 : decode cX10_draftParts 4 = .ok (.aload_n 0, 1) := by decide +kernel
theorem dX10_draftParts_5 : decode cX10_draftParts 5 = .ok (.invokevirtual 134, 3) := by decide +kernel
theorem dX10_draftParts_8 : decode cX10_draftParts 8 = .ok (.aload_n 0, 1) := by decide +kernel
theorem dX10_draftParts_9 : decode cX10_draftParts 9 = .ok (.getfield 21, 3) := by decide +kernel
theorem dX10_draftParts_12 : decode cX10_draftParts 12 = .ok (.invokevirtual 137, 3) := by decide +kernel
theorem dX10_draftParts_15 : decode cX10_draftParts 15 = .ok (.ireturn, 1) := by decide +kernel
theorem dX10_trial_0 : decode cX10_trial 0 = .ok (.iload_n 1, 1) := by decide +kernel
theorem dX10_trial_1 : decode cX10_trial 1 = .ok (.invokestatic 140, 3) := by decide +kernel
theorem dX10_trial_4 : decode cX10_trial 4 = .ok (.aload_n 0, 1) := by decide +kernel
theorem dX10_trial_5 : decode cX10_trial 5 = .ok (.invokevirtual 115, 3) := by decide +kernel
theorem dX10_trial_8 : decode cX10_trial 8 = .ok (.aload_n 0, 1) := by decide +kernel
theorem dX10_trial_9 : decode cX10_trial 9 = .ok (.invokevirtual 134, 3) := by decide +kernel
theorem dX10_trial_12 : decode cX10_trial 12 = .ok (.aload_n 0, 1) := by decide +kernel
theorem dX10_trial_13 : decode cX10_trial 13 = .ok (.getfield 49, 3) := by decide +kernel
theorem dX10_trial_16 : decode cX10_trial 16 = .ok (.aload_n 0, 1) := by decide +kernel
theorem dX10_trial_17 : decode cX10_trial 17 = .ok (.getfield 21, 3) := by decide +kernel
theorem dX10_trial_20 : decode cX10_trial 20 = .ok (.aload_n 0, 1) := by decide +kernel
theorem dX10_trial_21 : decode cX10_trial 21 = .ok (.getfield 37, 3) := by decide +kernel
theorem dX10_trial_24 : decode cX10_trial 24 = .ok (.iload_n 1, 1) := by decide +kernel
theorem dX10_trial_25 : decode cX10_trial 25 = .ok (.iload_n 2, 1) := by decide +kernel
theorem dX10_trial_26 : decode cX10_trial 26 = .ok (.iload_n 3, 1) := by decide +kernel
theorem dX10_trial_27 : decode cX10_trial 27 = .ok (.invokevirtual 143, 3) := by decide +kernel
theorem dX10_trial_30 : decode cX10_trial 30 = .ok (.aload_n 0, 1) := by decide +kernel
theorem dX10_trial_31 : decode cX10_trial 31 = .ok (.getfield 37, 3) := by decide +kernel
theorem dX10_trial_34 : decode cX10_trial 34 = .ok (.invokevirtual 147, 3) := by decide +kernel
theorem dX10_trial_37 : decode cX10_trial 37 = .ok (.ireturn, 1) := by decide +kernel
theorem dX10_trialByTree_0 : decode cX10_trialByTree 0 = .ok (.iload_n 1, 1) := by decide +kernel
theorem dX10_trialByTree_1 : decode cX10_trialByTree 1 = .ok (.invokestatic 140, 3) := by decide +kernel
theorem dX10_trialByTree_4 : decode cX10_trialByTree 4 = .ok (.aload_n 0, 1) := by decide +kernel
theorem dX10_trialByTree_5 : decode cX10_trialByTree 5 = .ok (.invokevirtual 115, 3) := by decide +kernel
theorem dX10_trialByTree_8 : decode cX10_trialByTree 8 = .ok (.aload_n 0, 1) := by decide +kernel
theorem dX10_trialByTree_9 : decode cX10_trialByTree 9 = .ok (.invokevirtual 134, 3) := by decide +kernel
theorem dX10_trialByTree_12 : decode cX10_trialByTree 12 = .ok (.aload_n 0, 1) := by decide +kernel
theorem dX10_trialByTree_13 : decode cX10_trialByTree 13 = .ok (.getfield 56, 3) := by decide +kernel
theorem dX10_trialByTree_16 : decode cX10_trialByTree 16 = .ok (.aload_n 0, 1) := by decide +kernel
theorem dX10_trialByTree_17 : decode cX10_trialByTree 17 = .ok (.getfield 21, 3) := by decide +kernel
theorem dX10_trialByTree_20 : decode cX10_trialByTree 20 = .ok (.aload_n 0, 1) := by decide +kernel
theorem dX10_trialByTree_21 : decode cX10_trialByTree 21 = .ok (.getfield 37, 3) := by decide +kernel
theorem dX10_trialByTree_24 : decode cX10_trialByTree 24 = .ok (.iload_n 1, 1) := by decide +kernel
theorem dX10_trialByTree_25 : decode cX10_trialByTree 25 = .ok (.iload_n 2, 1) := by decide +kernel
theorem dX10_trialByTree_26 : decode cX10_trialByTree 26 = .ok (.iload_n 3, 1) := by decide +kernel
theorem dX10_trialByTree_27 : decode cX10_trialByTree 27 = .ok (.invokevirtual 150, 3) := by decide +kernel
theorem dX10_trialByTree_30 : decode cX10_trialByTree 30 = .ok (.aload_n 0, 1) := by decide +kernel
theorem dX10_trialByTree_31 : decode cX10_trialByTree 31 = .ok (.getfield 37, 3) := by decide +kernel
theorem dX10_trialByTree_34 : decode cX10_trialByTree 34 = .ok (.invokevirtual 147, 3) := by decide +kernel
theorem dX10_trialByTree_37 : decode cX10_trialByTree 37 = .ok (.ireturn, 1) := by decide +kernel
theorem dX10_outputs_0 : decode cX10_outputs 0 = .ok (.aload_n 0, 1) := by decide +kernel
theorem dX10_outputs_1 : decode cX10_outputs 1 = .ok (.getfield 37, 3) := by decide +kernel
theorem dX10_outputs_4 : decode cX10_outputs 4 = .ok (.invokevirtual 151, 3) := by decide +kernel
theorem dX10_outputs_7 : decode cX10_outputs 7 = .ok (.ireturn, 1) := by decide +kernel
theorem dX10_outputAt_0 : decode cX10_outputAt 0 = .ok (.iload_n 1, 1) := by decide +kernel
theorem dX10_outputAt_1 : decode cX10_outputAt 1 = .ok (.ifCond .lt 14, 3) := by decide +kernel
theorem dX10_outputAt_4 : decode cX10_outputAt 4 = .ok (.iload_n 1, 1) := by decide +kernel
theorem dX10_outputAt_5 : decode cX10_outputAt 5 = .ok (.aload_n 0, 1) := by decide +kernel
theorem dX10_outputAt_6 : decode cX10_outputAt 6 = .ok (.getfield 37, 3) := by decide +kernel
theorem dX10_outputAt_9 : decode cX10_outputAt 9 = .ok (.invokevirtual 151, 3) := by decide +kernel
theorem dX10_outputAt_12 : decode cX10_outputAt 12 = .ok (.if_icmp .lt 13, 3) := by decide +kernel
theorem dX10_outputAt_15 : decode cX10_outputAt 15 = .ok (.new 106, 3) := by decide +kernel
theorem dX10_outputAt_18 : decode cX10_outputAt 18 = .ok (.dup, 1) := by decide +kernel
theorem dX10_outputAt_19 : decode cX10_outputAt 19 = .ok (.ldc 154, 2) := by decide +kernel
theorem dX10_outputAt_21 : decode cX10_outputAt 21 = .ok (.invokespecial 110, 3) := by decide +kernel
theorem dX10_outputAt_24 : decode cX10_outputAt 24 = .ok (.athrow, 1) := by decide +kernel
theorem dX10_outputAt_25 : decode cX10_outputAt 25 = .ok (.aload_n 0, 1) := by decide +kernel
theorem dX10_outputAt_26 : decode cX10_outputAt 26 = .ok (.getfield 37, 3) := by decide +kernel
theorem dX10_outputAt_29 : decode cX10_outputAt 29 = .ok (.iload_n 1, 1) := by decide +kernel
theorem dX10_outputAt_30 : decode cX10_outputAt 30 = .ok (.invokevirtual 156, 3) := by decide +kernel
theorem dX10_outputAt_33 : decode cX10_outputAt 33 = .ok (.ireturn, 1) := by decide +kernel
theorem dX10_fuelLeft_0 : decode cX10_fuelLeft 0 = .ok (.aload_n 0, 1) := by decide +kernel
theorem dX10_fuelLeft_1 : decode cX10_fuelLeft 1 = .ok (.getfield 37, 3) := by decide +kernel
theorem dX10_fuelLeft_4 : decode cX10_fuelLeft 4 = .ok (.invokevirtual 159, 3) := by decide +kernel
theorem dX10_fuelLeft_7 : decode cX10_fuelLeft 7 = .ok (.ireturn, 1) := by decide +kernel
theorem dX10_cellAt_0 : decode cX10_cellAt 0 = .ok (.iload_n 1, 1) := by decide +kernel
theorem dX10_cellAt_1 : decode cX10_cellAt 1 = .ok (.ifCond .lt 9, 3) := by decide +kernel
theorem dX10_cellAt_4 : decode cX10_cellAt 4 = .ok (.iload_n 1, 1) := by decide +kernel
theorem dX10_cellAt_5 : decode cX10_cellAt 5 = .ok (.bipush 32, 2) := by decide +kernel
theorem dX10_cellAt_7 : decode cX10_cellAt 7 = .ok (.if_icmp .lt 13, 3) := by decide +kernel
theorem dX10_cellAt_10 : decode cX10_cellAt 10 = .ok (.new 106, 3) := by decide +kernel
theorem dX10_cellAt_13 : decode cX10_cellAt 13 = .ok (.dup, 1) := by decide +kernel
theorem dX10_cellAt_14 : decode cX10_cellAt 14 = .ok (.ldc 162, 2) := by decide +kernel
theorem dX10_cellAt_16 : decode cX10_cellAt 16 = .ok (.invokespecial 110, 3) := by decide +kernel
theorem dX10_cellAt_19 : decode cX10_cellAt 19 = .ok (.athrow, 1) := by decide +kernel
theorem dX10_cellAt_20 : decode cX10_cellAt 20 = .ok (.aload_n 0, 1) := by decide +kernel
theorem dX10_cellAt_21 : decode cX10_cellAt 21 = .ok (.getfield 37, 3) := by decide +kernel
theorem dX10_cellAt_24 : decode cX10_cellAt 24 = .ok (.iload_n 1, 1) := by decide +kernel
theorem dX10_cellAt_25 : decode cX10_cellAt 25 = .ok (.invokevirtual 164, 3) := by decide +kernel
theorem dX10_cellAt_28 : decode cX10_cellAt 28 = .ok (.ireturn, 1) := by decide +kernel
theorem dX10_addExercise_0 : decode cX10_addExercise 0 = .ok (.iload_n 1, 1) := by decide +kernel
theorem dX10_addExercise_1 : decode cX10_addExercise 1 = .ok (.iconst 1, 1) := by decide +kernel
theorem dX10_addExercise_2 : decode cX10_addExercise 2 = .ok (.if_icmp .lt 25, 3) := by decide +kernel
theorem dX10_addExercise_5 : decode cX10_addExercise 5 = .ok (.iload_n 1, 1) := by decide +kernel
theorem dX10_addExercise_6 : decode cX10_addExercise 6 = .ok (.sipush 2000, 3) := by decide +kernel
theorem dX10_addExercise_9 : decode cX10_addExercise 9 = .ok (.if_icmp .gt 18, 3) := by decide +kernel
theorem dX10_addExercise_12 : decode cX10_addExercise 12 = .ok (.iload_n 2, 1) := by decide +kernel
theorem dX10_addExercise_13 : decode cX10_addExercise 13 = .ok (.aload_n 0, 1) := by decide +kernel
theorem dX10_addExercise_14 : decode cX10_addExercise 14 = .ok (.getfield 167, 3) := by decide +kernel
theorem dX10_addExercise_17 : decode cX10_addExercise 17 = .ok (.if_icmp .lt 10, 3) := by decide +kernel
theorem dX10_addExercise_20 : decode cX10_addExercise 20 = .ok (.iload_n 2, 1) := by decide +kernel
theorem dX10_addExercise_21 : decode cX10_addExercise 21 = .ok (.sipush 1000, 3) := by decide +kernel
theorem dX10_addExercise_24 : decode cX10_addExercise 24 = .ok (.if_icmp .le 13, 3) := by decide +kernel
theorem dX10_addExercise_27 : decode cX10_addExercise 27 = .ok (.new 80, 3) := by decide +kernel
theorem dX10_addExercise_30 : decode cX10_addExercise 30 = .ok (.dup, 1) := by decide +kernel
theorem dX10_addExercise_31 : decode cX10_addExercise 31 = .ok (.ldc 170, 2) := by decide +kernel
theorem dX10_addExercise_33 : decode cX10_addExercise 33 = .ok (.invokespecial 84, 3) := by decide +kernel
theorem dX10_addExercise_36 : decode cX10_addExercise 36 = .ok (.athrow, 1) := by decide +kernel
theorem dX10_addExercise_37 : decode cX10_addExercise 37 = .ok (.aload_n 0, 1) := by decide +kernel
theorem dX10_addExercise_38 : decode cX10_addExercise 38 = .ok (.getfield 63, 3) := by decide +kernel
theorem dX10_addExercise_41 : decode cX10_addExercise 41 = .ok (.invokevirtual 172, 3) := by decide +kernel
theorem dX10_addExercise_44 : decode cX10_addExercise 44 = .ok (.iconst 4, 1) := by decide +kernel
theorem dX10_addExercise_45 : decode cX10_addExercise 45 = .ok (.if_icmp .lt 13, 3) := by decide +kernel
theorem dX10_addExercise_48 : decode cX10_addExercise 48 = .ok (.new 173, 3) := by decide +kernel
theorem dX10_addExercise_51 : decode cX10_addExercise 51 = .ok (.dup, 1) := by decide +kernel
theorem dX10_addExercise_52 : decode cX10_addExercise 52 = .ok (.ldc 175, 2) := by decide +kernel
theorem dX10_addExercise_54 : decode cX10_addExercise 54 = .ok (.invokespecial 177, 3) := by decide +kernel
theorem dX10_addExercise_57 : decode cX10_addExercise 57 = .ok (.athrow, 1) := by decide +kernel
theorem dX10_addExercise_58 : decode cX10_addExercise 58 = .ok (.aload_n 0, 1) := by decide +kernel
theorem dX10_addExercise_59 : decode cX10_addExercise 59 = .ok (.getfield 63, 3) := by decide +kernel
theorem dX10_addExercise_62 : decode cX10_addExercise 62 = .ok (.new 178, 3) := by decide +kernel
theorem dX10_addExercise_65 : decode cX10_addExercise 65 = .ok (.dup, 1) := by decide +kernel
theorem dX10_addExercise_66 : decode cX10_addExercise 66 = .ok (.aload_n 0, 1) := by decide +kernel
theorem dX10_addExercise_67 : decode cX10_addExercise 67 = .ok (.getfield 63, 3) := by decide +kernel
theorem dX10_addExercise_70 : decode cX10_addExercise 70 = .ok (.invokevirtual 172, 3) := by decide +kernel
theorem dX10_addExercise_73 : decode cX10_addExercise 73 = .ok (.iload_n 1, 1) := by decide +kernel
theorem dX10_addExercise_74 : decode cX10_addExercise 74 = .ok (.iload_n 2, 1) := by decide +kernel
theorem dX10_addExercise_75 : decode cX10_addExercise 75 = .ok (.invokespecial 180, 3) := by decide +kernel
theorem dX10_addExercise_78 : decode cX10_addExercise 78 = .ok (.invokevirtual 183, 3) := by decide +kernel
theorem dX10_addExercise_81 : decode cX10_addExercise 81 = .ok (.pop, 1) := by decide +kernel
theorem dX10_addExercise_82 : decode cX10_addExercise 82 = .ok (.aload_n 0, 1) := by decide +kernel
theorem dX10_addExercise_83 : decode cX10_addExercise 83 = .ok (.getfield 63, 3) := by decide +kernel
theorem dX10_addExercise_86 : decode cX10_addExercise 86 = .ok (.invokevirtual 172, 3) := by decide +kernel
theorem dX10_addExercise_89 : decode cX10_addExercise 89 = .ok (.iconst 1, 1) := by decide +kernel
theorem dX10_addExercise_90 : decode cX10_addExercise 90 = .ok (.isub, 1) := by decide +kernel
theorem dX10_addExercise_91 : decode cX10_addExercise 91 = .ok (.ireturn, 1) := by decide +kernel
theorem dX10_addTest_0 : decode cX10_addTest 0 = .ok (.aload_n 0, 1) := by decide +kernel
theorem dX10_addTest_1 : decode cX10_addTest 1 = .ok (.iload_n 1, 1) := by decide +kernel
theorem dX10_addTest_2 : decode cX10_addTest 2 = .ok (.invokevirtual 186, 3) := by decide +kernel
theorem dX10_addTest_5 : decode cX10_addTest 5 = .ok (.astore 8, 2) := by decide +kernel
theorem dX10_addTest_7 : decode cX10_addTest 7 = .ok (.iload_n 2, 1) := by decide +kernel
theorem dX10_addTest_8 : decode cX10_addTest 8 = .ok (.iconst 1, 1) := by decide +kernel
theorem dX10_addTest_9 : decode cX10_addTest 9 = .ok (.if_icmp .lt 20, 3) := by decide +kernel
theorem dX10_addTest_12 : decode cX10_addTest 12 = .ok (.iload_n 2, 1) := by decide +kernel
theorem dX10_addTest_13 : decode cX10_addTest 13 = .ok (.bipush 10, 2) := by decide +kernel
theorem dX10_addTest_15 : decode cX10_addTest 15 = .ok (.if_icmp .gt 14, 3) := by decide +kernel
theorem dX10_addTest_18 : decode cX10_addTest 18 = .ok (.iload 5, 2) := by decide +kernel
theorem dX10_addTest_20 : decode cX10_addTest 20 = .ok (.ifCond .lt 9, 3) := by decide +kernel
theorem dX10_addTest_23 : decode cX10_addTest 23 = .ok (.iload 5, 2) := by decide +kernel
theorem dX10_addTest_25 : decode cX10_addTest 25 = .ok (.iconst 2, 1) := by decide +kernel
theorem dX10_addTest_26 : decode cX10_addTest 26 = .ok (.if_icmp .le 13, 3) := by decide +kernel
theorem dX10_addTest_29 : decode cX10_addTest 29 = .ok (.new 80, 3) := by decide +kernel
theorem dX10_addTest_32 : decode cX10_addTest 32 = .ok (.dup, 1) := by decide +kernel
theorem dX10_addTest_33 : decode cX10_addTest 33 = .ok (.ldc 190, 2) := by decide +kernel
theorem dX10_addTest_35 : decode cX10_addTest 35 = .ok (.invokespecial 84, 3) := by decide +kernel
theorem dX10_addTest_38 : decode cX10_addTest 38 = .ok (.athrow, 1) := by decide +kernel
theorem dX10_addTest_39 : decode cX10_addTest 39 = .ok (.aload 8, 2) := by decide +kernel
theorem dX10_addTest_41 : decode cX10_addTest 41 = .ok (.invokevirtual 192, 3) := by decide +kernel
theorem dX10_addTest_44 : decode cX10_addTest 44 = .ok (.bipush 8, 2) := by decide +kernel
theorem dX10_addTest_46 : decode cX10_addTest 46 = .ok (.if_icmp .lt 13, 3) := by decide +kernel
theorem dX10_addTest_49 : decode cX10_addTest 49 = .ok (.new 173, 3) := by decide +kernel
theorem dX10_addTest_52 : decode cX10_addTest 52 = .ok (.dup, 1) := by decide +kernel
theorem dX10_addTest_53 : decode cX10_addTest 53 = .ok (.ldc 195, 2) := by decide +kernel
theorem dX10_addTest_55 : decode cX10_addTest 55 = .ok (.invokespecial 177, 3) := by decide +kernel
theorem dX10_addTest_58 : decode cX10_addTest 58 = .ok (.athrow, 1) := by decide +kernel
theorem dX10_addTest_59 : decode cX10_addTest 59 = .ok (.new 197, 3) := by decide +kernel
theorem dX10_addTest_62 : decode cX10_addTest 62 = .ok (.dup, 1) := by decide +kernel
theorem dX10_addTest_63 : decode cX10_addTest 63 = .ok (.iload_n 2, 1) := by decide +kernel
theorem dX10_addTest_64 : decode cX10_addTest 64 = .ok (.iload_n 3, 1) := by decide +kernel
theorem dX10_addTest_65 : decode cX10_addTest 65 = .ok (.iload 4, 2) := by decide +kernel
theorem dX10_addTest_67 : decode cX10_addTest 67 = .ok (.iload 5, 2) := by decide +kernel
theorem dX10_addTest_69 : decode cX10_addTest 69 = .ok (.iload 6, 2) := by decide +kernel
theorem dX10_addTest_71 : decode cX10_addTest 71 = .ok (.iload 7, 2) := by decide +kernel
theorem dX10_addTest_73 : decode cX10_addTest 73 = .ok (.invokespecial 199, 3) := by decide +kernel
theorem dX10_addTest_76 : decode cX10_addTest 76 = .ok (.astore 9, 2) := by decide +kernel
theorem dX10_addTest_78 : decode cX10_addTest 78 = .ok (.aload 8, 2) := by decide +kernel
theorem dX10_addTest_80 : decode cX10_addTest 80 = .ok (.aload 9, 2) := by decide +kernel
theorem dX10_addTest_82 : decode cX10_addTest 82 = .ok (.invokevirtual 202, 3) := by decide +kernel
theorem dX10_addTest_85 : decode cX10_addTest 85 = .ok (.iconst 0, 1) := by decide +kernel
theorem dX10_addTest_86 : decode cX10_addTest 86 = .ok (.istore 10, 2) := by decide +kernel
theorem dX10_addTest_88 : decode cX10_addTest 88 = .ok (.iload 10, 2) := by decide +kernel
theorem dX10_addTest_90 : decode cX10_addTest 90 = .ok (.aload_n 0, 1) := by decide +kernel
theorem dX10_addTest_91 : decode cX10_addTest 91 = .ok (.getfield 67, 3) := by decide +kernel
theorem dX10_addTest_94 : decode cX10_addTest 94 = .ok (.invokevirtual 172, 3) := by decide +kernel
theorem dX10_addTest_97 : decode cX10_addTest 97 = .ok (.if_icmp .ge 43, 3) := by decide +kernel
theorem dX10_addTest_100 : decode cX10_addTest 100 = .ok (.aload_n 0, 1) := by decide +kernel
theorem dX10_addTest_101 : decode cX10_addTest 101 = .ok (.getfield 67, 3) := by decide +kernel
theorem dX10_addTest_104 : decode cX10_addTest 104 = .ok (.iload 10, 2) := by decide +kernel
theorem dX10_addTest_106 : decode cX10_addTest 106 = .ok (.invokevirtual 205, 3) := by decide +kernel
theorem dX10_addTest_109 : decode cX10_addTest 109 = .ok (.checkcast 208, 3) := by decide +kernel
theorem dX10_addTest_112 : decode cX10_addTest 112 = .ok (.astore 11, 2) := by decide +kernel
theorem dX10_addTest_114 : decode cX10_addTest 114 = .ok (.aload 11, 2) := by decide +kernel
theorem dX10_addTest_116 : decode cX10_addTest 116 = .ok (.getfield 210, 3) := by decide +kernel
theorem dX10_addTest_119 : decode cX10_addTest 119 = .ok (.getfield 214, 3) := by decide +kernel
theorem dX10_addTest_122 : decode cX10_addTest 122 = .ok (.iload_n 1, 1) := by decide +kernel
theorem dX10_addTest_123 : decode cX10_addTest 123 = .ok (.if_icmp .ne 11, 3) := by decide +kernel
theorem dX10_addTest_126 : decode cX10_addTest 126 = .ok (.aload_n 0, 1) := by decide +kernel
theorem dX10_addTest_127 : decode cX10_addTest 127 = .ok (.aload 11, 2) := by decide +kernel
theorem dX10_addTest_129 : decode cX10_addTest 129 = .ok (.aload 9, 2) := by decide +kernel
theorem dX10_addTest_131 : decode cX10_addTest 131 = .ok (.invokevirtual 217, 3) := by decide +kernel
theorem dX10_addTest_134 : decode cX10_addTest 134 = .ok (.iinc 10 1, 3) := by decide +kernel
theorem dX10_addTest_137 : decode cX10_addTest 137 = .ok (.goto (-49), 3) := by decide +kernel
theorem dX10_addTest_140 : decode cX10_addTest 140 = .ok (.aload 8, 2) := by decide +kernel
theorem dX10_addTest_142 : decode cX10_addTest 142 = .ok (.invokevirtual 192, 3) := by decide +kernel
theorem dX10_addTest_145 : decode cX10_addTest 145 = .ok (.iconst 1, 1) := by decide +kernel
theorem dX10_addTest_146 : decode cX10_addTest 146 = .ok (.isub, 1) := by decide +kernel
theorem dX10_addTest_147 : decode cX10_addTest 147 = .ok (.ireturn, 1) := by decide +kernel
theorem dX10_withdraw_0 : decode cX10_withdraw 0 = .ok (.aload_n 0, 1) := by decide +kernel
theorem dX10_withdraw_1 : decode cX10_withdraw 1 = .ok (.iload_n 1, 1) := by decide +kernel
theorem dX10_withdraw_2 : decode cX10_withdraw 2 = .ok (.invokevirtual 186, 3) := by decide +kernel
theorem dX10_withdraw_5 : decode cX10_withdraw 5 = .ok (.astore_n 3, 1) := by decide +kernel
theorem dX10_withdraw_6 : decode cX10_withdraw 6 = .ok (.aload_n 3, 1) := by decide +kernel
theorem dX10_withdraw_7 : decode cX10_withdraw 7 = .ok (.iload_n 2, 1) := by decide +kernel
theorem dX10_withdraw_8 : decode cX10_withdraw 8 = .ok (.invokestatic 221, 3) := by decide +kernel
theorem dX10_withdraw_11 : decode cX10_withdraw 11 = .ok (.astore 4, 2) := by decide +kernel
theorem dX10_withdraw_13 : decode cX10_withdraw 13 = .ok (.aload 4, 2) := by decide +kernel
theorem dX10_withdraw_15 : decode cX10_withdraw 15 = .ok (.getfield 225, 3) := by decide +kernel
theorem dX10_withdraw_18 : decode cX10_withdraw 18 = .ok (.ifCond .eq 13, 3) := by decide +kernel
theorem dX10_withdraw_21 : decode cX10_withdraw 21 = .ok (.new 173, 3) := by decide +kernel
theorem dX10_withdraw_24 : decode cX10_withdraw 24 = .ok (.dup, 1) := by decide +kernel
theorem dX10_withdraw_25 : decode cX10_withdraw 25 = .ok (.ldc 228, 2) := by decide +kernel
theorem dX10_withdraw_27 : decode cX10_withdraw 27 = .ok (.invokespecial 177, 3) := by decide +kernel
theorem dX10_withdraw_30 : decode cX10_withdraw 30 = .ok (.athrow, 1) := by decide +kernel
theorem dX10_withdraw_31 : decode cX10_withdraw 31 = .ok (.aload_n 0, 1) := by decide +kernel
theorem dX10_withdraw_32 : decode cX10_withdraw 32 = .ok (.invokevirtual 230, 3) := by decide +kernel
theorem dX10_withdraw_35 : decode cX10_withdraw 35 = .ok (.aload 4, 2) := by decide +kernel
theorem dX10_withdraw_37 : decode cX10_withdraw 37 = .ok (.iconst 1, 1) := by decide +kernel
theorem dX10_withdraw_38 : decode cX10_withdraw 38 = .ok (.putfield 225, 3) := by decide +kernel
theorem dX10_withdraw_41 : decode cX10_withdraw 41 = .ok (.iconst 0, 1) := by decide +kernel
theorem dX10_withdraw_42 : decode cX10_withdraw 42 = .ok (.istore 5, 2) := by decide +kernel
theorem dX10_withdraw_44 : decode cX10_withdraw 44 = .ok (.iconst 0, 1) := by decide +kernel
theorem dX10_withdraw_45 : decode cX10_withdraw 45 = .ok (.istore 6, 2) := by decide +kernel
theorem dX10_withdraw_47 : decode cX10_withdraw 47 = .ok (.iload 6, 2) := by decide +kernel
theorem dX10_withdraw_49 : decode cX10_withdraw 49 = .ok (.aload_n 0, 1) := by decide +kernel
theorem dX10_withdraw_50 : decode cX10_withdraw 50 = .ok (.getfield 67, 3) := by decide +kernel
theorem dX10_withdraw_53 : decode cX10_withdraw 53 = .ok (.invokevirtual 172, 3) := by decide +kernel
theorem dX10_withdraw_56 : decode cX10_withdraw 56 = .ok (.if_icmp .ge 46, 3) := by decide +kernel
theorem dX10_withdraw_59 : decode cX10_withdraw 59 = .ok (.iload 5, 2) := by decide +kernel
theorem dX10_withdraw_61 : decode cX10_withdraw 61 = .ok (.aload_n 0, 1) := by decide +kernel
theorem dX10_withdraw_62 : decode cX10_withdraw 62 = .ok (.getfield 67, 3) := by decide +kernel
theorem dX10_withdraw_65 : decode cX10_withdraw 65 = .ok (.iload 6, 2) := by decide +kernel
theorem dX10_withdraw_67 : decode cX10_withdraw 67 = .ok (.invokevirtual 205, 3) := by decide +kernel
theorem dX10_withdraw_70 : decode cX10_withdraw 70 = .ok (.checkcast 208, 3) := by decide +kernel
theorem dX10_withdraw_73 : decode cX10_withdraw 73 = .ok (.invokevirtual 233, 3) := by decide +kernel
theorem dX10_withdraw_76 : decode cX10_withdraw 76 = .ok (.aload_n 0, 1) := by decide +kernel
theorem dX10_withdraw_77 : decode cX10_withdraw 77 = .ok (.getfield 70, 3) := by decide +kernel
theorem dX10_withdraw_80 : decode cX10_withdraw 80 = .ok (.iload 6, 2) := by decide +kernel
theorem dX10_withdraw_82 : decode cX10_withdraw 82 = .ok (.invokevirtual 111, 3) := by decide +kernel
theorem dX10_withdraw_85 : decode cX10_withdraw 85 = .ok (.if_icmp .ne 7, 3) := by decide +kernel
theorem dX10_withdraw_88 : decode cX10_withdraw 88 = .ok (.iconst 0, 1) := by decide +kernel
theorem dX10_withdraw_89 : decode cX10_withdraw 89 = .ok (.goto 4, 3) := by decide +kernel
theorem dX10_withdraw_92 : decode cX10_withdraw 92 = .ok (.iconst 1, 1) := by decide +kernel
theorem dX10_withdraw_93 : decode cX10_withdraw 93 = .ok (.iadd, 1) := by decide +kernel
theorem dX10_withdraw_94 : decode cX10_withdraw 94 = .ok (.istore 5, 2) := by decide +kernel
theorem dX10_withdraw_96 : decode cX10_withdraw 96 = .ok (.iinc 6 1, 3) := by decide +kernel
theorem dX10_withdraw_99 : decode cX10_withdraw 99 = .ok (.goto (-52), 3) := by decide +kernel
theorem dX10_withdraw_102 : decode cX10_withdraw 102 = .ok (.iload 5, 2) := by decide +kernel
theorem dX10_withdraw_104 : decode cX10_withdraw 104 = .ok (.ireturn, 1) := by decide +kernel
theorem dX10_pass_0 : decode cX10_pass 0 = .ok (.iload_n 1, 1) := by decide +kernel
theorem dX10_pass_1 : decode cX10_pass 1 = .ok (.iconst 1, 1) := by decide +kernel
theorem dX10_pass_2 : decode cX10_pass 2 = .ok (.if_icmp .lt 9, 3) := by decide +kernel
theorem dX10_pass_5 : decode cX10_pass 5 = .ok (.iload_n 1, 1) := by decide +kernel
theorem dX10_pass_6 : decode cX10_pass 6 = .ok (.bipush 100, 2) := by decide +kernel
theorem dX10_pass_8 : decode cX10_pass 8 = .ok (.if_icmp .le 13, 3) := by decide +kernel
theorem dX10_pass_11 : decode cX10_pass 11 = .ok (.new 80, 3) := by decide +kernel
theorem dX10_pass_14 : decode cX10_pass 14 = .ok (.dup, 1) := by decide +kernel
theorem dX10_pass_15 : decode cX10_pass 15 = .ok (.ldc 236, 2) := by decide +kernel
theorem dX10_pass_17 : decode cX10_pass 17 = .ok (.invokespecial 84, 3) := by decide +kernel
theorem dX10_pass_20 : decode cX10_pass 20 = .ok (.athrow, 1) := by decide +kernel
theorem dX10_pass_21 : decode cX10_pass 21 = .ok (.aload_n 0, 1) := by decide +kernel
theorem dX10_pass_22 : decode cX10_pass 22 = .ok (.getfield 167, 3) := by decide +kernel
theorem dX10_pass_25 : decode cX10_pass 25 = .ok (.iload_n 1, 1) := by decide +kernel
theorem dX10_pass_26 : decode cX10_pass 26 = .ok (.iadd, 1) := by decide +kernel
theorem dX10_pass_27 : decode cX10_pass 27 = .ok (.sipush 1000, 3) := by decide +kernel
theorem dX10_pass_30 : decode cX10_pass 30 = .ok (.if_icmp .le 13, 3) := by decide +kernel
theorem dX10_pass_33 : decode cX10_pass 33 = .ok (.new 173, 3) := by decide +kernel
theorem dX10_pass_36 : decode cX10_pass 36 = .ok (.dup, 1) := by decide +kernel
theorem dX10_pass_37 : decode cX10_pass 37 = .ok (.ldc 238, 2) := by decide +kernel
theorem dX10_pass_39 : decode cX10_pass 39 = .ok (.invokespecial 177, 3) := by decide +kernel
theorem dX10_pass_42 : decode cX10_pass 42 = .ok (.athrow, 1) := by decide +kernel
theorem dX10_pass_43 : decode cX10_pass 43 = .ok (.aload_n 0, 1) := by decide +kernel
theorem dX10_pass_44 : decode cX10_pass 44 = .ok (.dup, 1) := by decide +kernel
theorem dX10_pass_45 : decode cX10_pass 45 = .ok (.getfield 167, 3) := by decide +kernel
theorem dX10_pass_48 : decode cX10_pass 48 = .ok (.iload_n 1, 1) := by decide +kernel
theorem dX10_pass_49 : decode cX10_pass 49 = .ok (.iadd, 1) := by decide +kernel
theorem dX10_pass_50 : decode cX10_pass 50 = .ok (.putfield 167, 3) := by decide +kernel
theorem dX10_pass_53 : decode cX10_pass 53 = .ok (.aload_n 0, 1) := by decide +kernel
theorem dX10_pass_54 : decode cX10_pass 54 = .ok (.getfield 167, 3) := by decide +kernel
theorem dX10_pass_57 : decode cX10_pass 57 = .ok (.ireturn, 1) := by decide +kernel
theorem dX10_today_0 : decode cX10_today 0 = .ok (.aload_n 0, 1) := by decide +kernel
theorem dX10_today_1 : decode cX10_today 1 = .ok (.getfield 167, 3) := by decide +kernel
theorem dX10_today_4 : decode cX10_today 4 = .ok (.ireturn, 1) := by decide +kernel
theorem dX10_hand_0 : decode cX10_hand 0 = .ok (.iload_n 1, 1) := by decide +kernel
theorem dX10_hand_1 : decode cX10_hand 1 = .ok (.invokestatic 240, 3) := by decide +kernel
theorem dX10_hand_4 : decode cX10_hand 4 = .ok (.aload_n 0, 1) := by decide +kernel
theorem dX10_hand_5 : decode cX10_hand 5 = .ok (.iload_n 2, 1) := by decide +kernel
theorem dX10_hand_6 : decode cX10_hand 6 = .ok (.invokevirtual 186, 3) := by decide +kernel
theorem dX10_hand_9 : decode cX10_hand 9 = .ok (.astore_n 3, 1) := by decide +kernel
theorem dX10_hand_10 : decode cX10_hand 10 = .ok (.aload_n 0, 1) := by decide +kernel
theorem dX10_hand_11 : decode cX10_hand 11 = .ok (.invokevirtual 115, 3) := by decide +kernel
theorem dX10_hand_14 : decode cX10_hand 14 = .ok (.aload_n 0, 1) := by decide +kernel
theorem dX10_hand_15 : decode cX10_hand 15 = .ok (.invokevirtual 134, 3) := by decide +kernel
theorem dX10_hand_18 : decode cX10_hand 18 = .ok (.aload_n 0, 1) := by decide +kernel
theorem dX10_hand_19 : decode cX10_hand 19 = .ok (.getfield 67, 3) := by decide +kernel
theorem dX10_hand_22 : decode cX10_hand 22 = .ok (.invokevirtual 172, 3) := by decide +kernel
theorem dX10_hand_25 : decode cX10_hand 25 = .ok (.bipush 30, 2) := by decide +kernel
theorem dX10_hand_27 : decode cX10_hand 27 = .ok (.if_icmp .lt 13, 3) := by decide +kernel
theorem dX10_hand_30 : decode cX10_hand 30 = .ok (.new 173, 3) := by decide +kernel
theorem dX10_hand_33 : decode cX10_hand 33 = .ok (.dup, 1) := by decide +kernel
theorem dX10_hand_34 : decode cX10_hand 34 = .ok (.ldc 243, 2) := by decide +kernel
theorem dX10_hand_36 : decode cX10_hand 36 = .ok (.invokespecial 177, 3) := by decide +kernel
theorem dX10_hand_39 : decode cX10_hand 39 = .ok (.athrow, 1) := by decide +kernel
theorem dX10_hand_40 : decode cX10_hand 40 = .ok (.new 208, 3) := by decide +kernel
theorem dX10_hand_43 : decode cX10_hand 43 = .ok (.dup, 1) := by decide +kernel
theorem dX10_hand_44 : decode cX10_hand 44 = .ok (.iload_n 1, 1) := by decide +kernel
theorem dX10_hand_45 : decode cX10_hand 45 = .ok (.aload_n 3, 1) := by decide +kernel
theorem dX10_hand_46 : decode cX10_hand 46 = .ok (.aload_n 0, 1) := by decide +kernel
theorem dX10_hand_47 : decode cX10_hand 47 = .ok (.getfield 167, 3) := by decide +kernel
theorem dX10_hand_50 : decode cX10_hand 50 = .ok (.aload_n 0, 1) := by decide +kernel
theorem dX10_hand_51 : decode cX10_hand 51 = .ok (.getfield 21, 3) := by decide +kernel
theorem dX10_hand_54 : decode cX10_hand 54 = .ok (.invokespecial 245, 3) := by decide +kernel
theorem dX10_hand_57 : decode cX10_hand 57 = .ok (.astore 4, 2) := by decide +kernel
theorem dX10_hand_59 : decode cX10_hand 59 = .ok (.aload_n 0, 1) := by decide +kernel
theorem dX10_hand_60 : decode cX10_hand 60 = .ok (.iconst 1, 1) := by decide +kernel
theorem dX10_hand_61 : decode cX10_hand 61 = .ok (.putfield 248, 3) := by decide +kernel
theorem dX10_hand_64 : decode cX10_hand 64 = .ok (.iconst 0, 1) := by decide +kernel
theorem dX10_hand_65 : decode cX10_hand 65 = .ok (.istore 5, 2) := by decide +kernel
theorem dX10_hand_67 : decode cX10_hand 67 = .ok (.iload 5, 2) := by decide +kernel
theorem dX10_hand_69 : decode cX10_hand 69 = .ok (.aload_n 0, 1) := by decide +kernel
theorem dX10_hand_70 : decode cX10_hand 70 = .ok (.getfield 67, 3) := by decide +kernel
theorem dX10_hand_73 : decode cX10_hand 73 = .ok (.invokevirtual 172, 3) := by decide +kernel
theorem dX10_hand_76 : decode cX10_hand 76 = .ok (.if_icmp .ge 39, 3) := by decide +kernel
theorem dX10_hand_79 : decode cX10_hand 79 = .ok (.aload 4, 2) := by decide +kernel
theorem dX10_hand_81 : decode cX10_hand 81 = .ok (.getfield 251, 3) := by decide +kernel
theorem dX10_hand_84 : decode cX10_hand 84 = .ok (.aload_n 0, 1) := by decide +kernel
theorem dX10_hand_85 : decode cX10_hand 85 = .ok (.getfield 21, 3) := by decide +kernel
theorem dX10_hand_88 : decode cX10_hand 88 = .ok (.aload_n 0, 1) := by decide +kernel
theorem dX10_hand_89 : decode cX10_hand 89 = .ok (.getfield 67, 3) := by decide +kernel
theorem dX10_hand_92 : decode cX10_hand 92 = .ok (.iload 5, 2) := by decide +kernel
theorem dX10_hand_94 : decode cX10_hand 94 = .ok (.invokevirtual 205, 3) := by decide +kernel
theorem dX10_hand_97 : decode cX10_hand 97 = .ok (.checkcast 208, 3) := by decide +kernel
theorem dX10_hand_100 : decode cX10_hand 100 = .ok (.getfield 254, 3) := by decide +kernel
theorem dX10_hand_103 : decode cX10_hand 103 = .ok (.invokevirtual 257, 3) := by decide +kernel
theorem dX10_hand_106 : decode cX10_hand 106 = .ok (.invokevirtual 91, 3) := by decide +kernel
theorem dX10_hand_109 : decode cX10_hand 109 = .ok (.iinc 5 1, 3) := by decide +kernel
theorem dX10_hand_112 : decode cX10_hand 112 = .ok (.goto (-45), 3) := by decide +kernel
theorem dX10_hand_115 : decode cX10_hand 115 = .ok (.aload 4, 2) := by decide +kernel
theorem dX10_hand_117 : decode cX10_hand 117 = .ok (.getfield 251, 3) := by decide +kernel
theorem dX10_hand_120 : decode cX10_hand 120 = .ok (.aload_n 0, 1) := by decide +kernel
theorem dX10_hand_121 : decode cX10_hand 121 = .ok (.getfield 21, 3) := by decide +kernel
theorem dX10_hand_124 : decode cX10_hand 124 = .ok (.invokevirtual 137, 3) := by decide +kernel
theorem dX10_hand_127 : decode cX10_hand 127 = .ok (.invokevirtual 91, 3) := by decide +kernel
theorem dX10_hand_130 : decode cX10_hand 130 = .ok (.iconst 0, 1) := by decide +kernel
theorem dX10_hand_131 : decode cX10_hand 131 = .ok (.istore 5, 2) := by decide +kernel
theorem dX10_hand_133 : decode cX10_hand 133 = .ok (.iload 5, 2) := by decide +kernel
theorem dX10_hand_135 : decode cX10_hand 135 = .ok (.aload_n 3, 1) := by decide +kernel
theorem dX10_hand_136 : decode cX10_hand 136 = .ok (.invokevirtual 192, 3) := by decide +kernel
theorem dX10_hand_139 : decode cX10_hand 139 = .ok (.if_icmp .ge 21, 3) := by decide +kernel
theorem dX10_hand_142 : decode cX10_hand 142 = .ok (.aload_n 0, 1) := by decide +kernel
theorem dX10_hand_143 : decode cX10_hand 143 = .ok (.aload 4, 2) := by decide +kernel
theorem dX10_hand_145 : decode cX10_hand 145 = .ok (.aload_n 3, 1) := by decide +kernel
theorem dX10_hand_146 : decode cX10_hand 146 = .ok (.iload 5, 2) := by decide +kernel
theorem dX10_hand_148 : decode cX10_hand 148 = .ok (.invokestatic 221, 3) := by decide +kernel
theorem dX10_hand_151 : decode cX10_hand 151 = .ok (.invokevirtual 217, 3) := by decide +kernel
theorem dX10_hand_154 : decode cX10_hand 154 = .ok (.iinc 5 1, 3) := by decide +kernel
theorem dX10_hand_157 : decode cX10_hand 157 = .ok (.goto (-24), 3) := by decide +kernel
theorem dX10_hand_160 : decode cX10_hand 160 = .ok (.aload_n 0, 1) := by decide +kernel
theorem dX10_hand_161 : decode cX10_hand 161 = .ok (.getfield 67, 3) := by decide +kernel
theorem dX10_hand_164 : decode cX10_hand 164 = .ok (.aload 4, 2) := by decide +kernel
theorem dX10_hand_166 : decode cX10_hand 166 = .ok (.invokevirtual 183, 3) := by decide +kernel
theorem dX10_hand_169 : decode cX10_hand 169 = .ok (.pop, 1) := by decide +kernel
theorem dX10_hand_170 : decode cX10_hand 170 = .ok (.aload_n 0, 1) := by decide +kernel
theorem dX10_hand_171 : decode cX10_hand 171 = .ok (.getfield 67, 3) := by decide +kernel
theorem dX10_hand_174 : decode cX10_hand 174 = .ok (.invokevirtual 172, 3) := by decide +kernel
theorem dX10_hand_177 : decode cX10_hand 177 = .ok (.iconst 1, 1) := by decide +kernel
theorem dX10_hand_178 : decode cX10_hand 178 = .ok (.isub, 1) := by decide +kernel
theorem dX10_hand_179 : decode cX10_hand 179 = .ok (.ireturn, 1) := by decide +kernel
theorem dX10_answers_0 : decode cX10_answers 0 = .ok (.aload_n 0, 1) := by decide +kernel
theorem dX10_answers_1 : decode cX10_answers 1 = .ok (.getfield 67, 3) := by decide +kernel
theorem dX10_answers_4 : decode cX10_answers 4 = .ok (.invokevirtual 172, 3) := by decide +kernel
theorem dX10_answers_7 : decode cX10_answers 7 = .ok (.ireturn, 1) := by decide +kernel
theorem dX10_passes_0 : decode cX10_passes 0 = .ok (.aload_n 0, 1) := by decide +kernel
theorem dX10_passes_1 : decode cX10_passes 1 = .ok (.iload_n 1, 1) := by decide +kernel
theorem dX10_passes_2 : decode cX10_passes 2 = .ok (.invokevirtual 261, 3) := by decide +kernel
theorem dX10_passes_5 : decode cX10_passes 5 = .ok (.astore_n 3, 1) := by decide +kernel
theorem dX10_passes_6 : decode cX10_passes 6 = .ok (.aload_n 3, 1) := by decide +kernel
theorem dX10_passes_7 : decode cX10_passes 7 = .ok (.getfield 210, 3) := by decide +kernel
theorem dX10_passes_10 : decode cX10_passes 10 = .ok (.iload_n 2, 1) := by decide +kernel
theorem dX10_passes_11 : decode cX10_passes 11 = .ok (.invokestatic 221, 3) := by decide +kernel
theorem dX10_passes_14 : decode cX10_passes 14 = .ok (.pop, 1) := by decide +kernel
theorem dX10_passes_15 : decode cX10_passes 15 = .ok (.aload_n 3, 1) := by decide +kernel
theorem dX10_passes_16 : decode cX10_passes 16 = .ok (.getfield 265, 3) := by decide +kernel
theorem dX10_passes_19 : decode cX10_passes 19 = .ok (.iload_n 2, 1) := by decide +kernel
theorem dX10_passes_20 : decode cX10_passes 20 = .ok (.invokevirtual 111, 3) := by decide +kernel
theorem dX10_passes_23 : decode cX10_passes 23 = .ok (.iconst 1, 1) := by decide +kernel
theorem dX10_passes_24 : decode cX10_passes 24 = .ok (.if_icmp .ne 7, 3) := by decide +kernel
theorem dX10_passes_27 : decode cX10_passes 27 = .ok (.iconst 1, 1) := by decide +kernel
theorem dX10_passes_28 : decode cX10_passes 28 = .ok (.goto 4, 3) := by decide +kernel
theorem dX10_passes_31 : decode cX10_passes 31 = .ok (.iconst 0, 1) := by decide +kernel
theorem dX10_passes_32 : decode cX10_passes 32 = .ok (.ireturn, 1) := by decide +kernel
theorem dX10_endOf_0 : decode cX10_endOf 0 = .ok (.aload_n 0, 1) := by decide +kernel
theorem dX10_endOf_1 : decode cX10_endOf 1 = .ok (.iload_n 1, 1) := by decide +kernel
theorem dX10_endOf_2 : decode cX10_endOf 2 = .ok (.invokevirtual 261, 3) := by decide +kernel
theorem dX10_endOf_5 : decode cX10_endOf 5 = .ok (.astore_n 3, 1) := by decide +kernel
theorem dX10_endOf_6 : decode cX10_endOf 6 = .ok (.aload_n 3, 1) := by decide +kernel
theorem dX10_endOf_7 : decode cX10_endOf 7 = .ok (.getfield 210, 3) := by decide +kernel
theorem dX10_endOf_10 : decode cX10_endOf 10 = .ok (.iload_n 2, 1) := by decide +kernel
theorem dX10_endOf_11 : decode cX10_endOf 11 = .ok (.invokestatic 221, 3) := by decide +kernel
theorem dX10_endOf_14 : decode cX10_endOf 14 = .ok (.pop, 1) := by decide +kernel
theorem dX10_endOf_15 : decode cX10_endOf 15 = .ok (.aload_n 3, 1) := by decide +kernel
theorem dX10_endOf_16 : decode cX10_endOf 16 = .ok (.getfield 268, 3) := by decide +kernel
theorem dX10_endOf_19 : decode cX10_endOf 19 = .ok (.iload_n 2, 1) := by decide +kernel
theorem dX10_endOf_20 : decode cX10_endOf 20 = .ok (.invokevirtual 111, 3) := by decide +kernel
theorem dX10_endOf_23 : decode cX10_endOf 23 = .ok (.ireturn, 1) := by decide +kernel
theorem dX10_points_0 : decode cX10_points 0 = .ok (.aload_n 0, 1) := by decide +kernel
theorem dX10_points_1 : decode cX10_points 1 = .ok (.iload_n 1, 1) := by decide +kernel
theorem dX10_points_2 : decode cX10_points 2 = .ok (.invokevirtual 261, 3) := by decide +kernel
theorem dX10_points_5 : decode cX10_points 5 = .ok (.astore_n 2, 1) := by decide +kernel
theorem dX10_points_6 : decode cX10_points 6 = .ok (.aload_n 2, 1) := by decide +kernel
theorem dX10_points_7 : decode cX10_points 7 = .ok (.getfield 210, 3) := by decide +kernel
theorem dX10_points_10 : decode cX10_points 10 = .ok (.aload_n 2, 1) := by decide +kernel
theorem dX10_points_11 : decode cX10_points 11 = .ok (.getfield 265, 3) := by decide +kernel
theorem dX10_points_14 : decode cX10_points 14 = .ok (.invokevirtual 271, 3) := by decide +kernel
theorem dX10_points_17 : decode cX10_points 17 = .ok (.ireturn, 1) := by decide +kernel
theorem dX10_mark_0 : decode cX10_mark 0 = .ok (.aload_n 0, 1) := by decide +kernel
theorem dX10_mark_1 : decode cX10_mark 1 = .ok (.iload_n 1, 1) := by decide +kernel
theorem dX10_mark_2 : decode cX10_mark 2 = .ok (.invokevirtual 261, 3) := by decide +kernel
theorem dX10_mark_5 : decode cX10_mark 5 = .ok (.invokevirtual 233, 3) := by decide +kernel
theorem dX10_mark_8 : decode cX10_mark 8 = .ok (.ireturn, 1) := by decide +kernel
theorem dX10_markAnew_0 : decode cX10_markAnew 0 = .ok (.aload_n 0, 1) := by decide +kernel
theorem dX10_markAnew_1 : decode cX10_markAnew 1 = .ok (.iload_n 1, 1) := by decide +kernel
theorem dX10_markAnew_2 : decode cX10_markAnew 2 = .ok (.invokevirtual 261, 3) := by decide +kernel
theorem dX10_markAnew_5 : decode cX10_markAnew 5 = .ok (.astore_n 2, 1) := by decide +kernel
theorem dX10_markAnew_6 : decode cX10_markAnew 6 = .ok (.aload_n 2, 1) := by decide +kernel
theorem dX10_markAnew_7 : decode cX10_markAnew 7 = .ok (.getfield 210, 3) := by decide +kernel
theorem dX10_markAnew_10 : decode cX10_markAnew 10 = .ok (.astore_n 3, 1) := by decide +kernel
theorem dX10_markAnew_11 : decode cX10_markAnew 11 = .ok (.aload_n 0, 1) := by decide +kernel
theorem dX10_markAnew_12 : decode cX10_markAnew 12 = .ok (.getfield 73, 3) := by decide +kernel
theorem dX10_markAnew_15 : decode cX10_markAnew 15 = .ok (.invokevirtual 98, 3) := by decide +kernel
theorem dX10_markAnew_18 : decode cX10_markAnew 18 = .ok (.iconst 0, 1) := by decide +kernel
theorem dX10_markAnew_19 : decode cX10_markAnew 19 = .ok (.istore 4, 2) := by decide +kernel
theorem dX10_markAnew_21 : decode cX10_markAnew 21 = .ok (.iload 4, 2) := by decide +kernel
theorem dX10_markAnew_23 : decode cX10_markAnew 23 = .ok (.aload_n 3, 1) := by decide +kernel
theorem dX10_markAnew_24 : decode cX10_markAnew 24 = .ok (.invokevirtual 192, 3) := by decide +kernel
theorem dX10_markAnew_27 : decode cX10_markAnew 27 = .ok (.if_icmp .ge 70, 3) := by decide +kernel
theorem dX10_markAnew_30 : decode cX10_markAnew 30 = .ok (.aload_n 3, 1) := by decide +kernel
theorem dX10_markAnew_31 : decode cX10_markAnew 31 = .ok (.iload 4, 2) := by decide +kernel
theorem dX10_markAnew_33 : decode cX10_markAnew 33 = .ok (.invokestatic 221, 3) := by decide +kernel
theorem dX10_markAnew_36 : decode cX10_markAnew 36 = .ok (.astore 5, 2) := by decide +kernel
theorem dX10_markAnew_38 : decode cX10_markAnew 38 = .ok (.aload_n 0, 1) := by decide +kernel
theorem dX10_markAnew_39 : decode cX10_markAnew 39 = .ok (.getfield 56, 3) := by decide +kernel
theorem dX10_markAnew_42 : decode cX10_markAnew 42 = .ok (.aload_n 2, 1) := by decide +kernel
theorem dX10_markAnew_43 : decode cX10_markAnew 43 = .ok (.getfield 254, 3) := by decide +kernel
theorem dX10_markAnew_46 : decode cX10_markAnew 46 = .ok (.aload_n 0, 1) := by decide +kernel
theorem dX10_markAnew_47 : decode cX10_markAnew 47 = .ok (.getfield 41, 3) := by decide +kernel
theorem dX10_markAnew_50 : decode cX10_markAnew 50 = .ok (.aload_n 3, 1) := by decide +kernel
theorem dX10_markAnew_51 : decode cX10_markAnew 51 = .ok (.getfield 275, 3) := by decide +kernel
theorem dX10_markAnew_54 : decode cX10_markAnew 54 = .ok (.aload 5, 2) := by decide +kernel
theorem dX10_markAnew_56 : decode cX10_markAnew 56 = .ok (.getfield 277, 3) := by decide +kernel
theorem dX10_markAnew_59 : decode cX10_markAnew 59 = .ok (.aload 5, 2) := by decide +kernel
theorem dX10_markAnew_61 : decode cX10_markAnew 61 = .ok (.getfield 280, 3) := by decide +kernel
theorem dX10_markAnew_64 : decode cX10_markAnew 64 = .ok (.invokevirtual 150, 3) := by decide +kernel
theorem dX10_markAnew_67 : decode cX10_markAnew 67 = .ok (.aload_n 0, 1) := by decide +kernel
theorem dX10_markAnew_68 : decode cX10_markAnew 68 = .ok (.getfield 73, 3) := by decide +kernel
theorem dX10_markAnew_71 : decode cX10_markAnew 71 = .ok (.aload 5, 2) := by decide +kernel
theorem dX10_markAnew_73 : decode cX10_markAnew 73 = .ok (.aload_n 0, 1) := by decide +kernel
theorem dX10_markAnew_74 : decode cX10_markAnew 74 = .ok (.getfield 41, 3) := by decide +kernel
theorem dX10_markAnew_77 : decode cX10_markAnew 77 = .ok (.invokevirtual 283, 3) := by decide +kernel
theorem dX10_markAnew_80 : decode cX10_markAnew 80 = .ok (.ifCond .eq 7, 3) := by decide +kernel
theorem dX10_markAnew_83 : decode cX10_markAnew 83 = .ok (.iconst 1, 1) := by decide +kernel
theorem dX10_markAnew_84 : decode cX10_markAnew 84 = .ok (.goto 4, 3) := by decide +kernel
theorem dX10_markAnew_87 : decode cX10_markAnew 87 = .ok (.iconst 0, 1) := by decide +kernel
theorem dX10_markAnew_88 : decode cX10_markAnew 88 = .ok (.invokevirtual 91, 3) := by decide +kernel
theorem dX10_markAnew_91 : decode cX10_markAnew 91 = .ok (.iinc 4 1, 3) := by decide +kernel
theorem dX10_markAnew_94 : decode cX10_markAnew 94 = .ok (.goto (-73), 3) := by decide +kernel
theorem dX10_markAnew_97 : decode cX10_markAnew 97 = .ok (.aload_n 2, 1) := by decide +kernel
theorem dX10_markAnew_98 : decode cX10_markAnew 98 = .ok (.aload_n 3, 1) := by decide +kernel
theorem dX10_markAnew_99 : decode cX10_markAnew 99 = .ok (.aload_n 0, 1) := by decide +kernel
theorem dX10_markAnew_100 : decode cX10_markAnew 100 = .ok (.getfield 73, 3) := by decide +kernel
theorem dX10_markAnew_103 : decode cX10_markAnew 103 = .ok (.invokevirtual 271, 3) := by decide +kernel
theorem dX10_markAnew_106 : decode cX10_markAnew 106 = .ok (.invokevirtual 287, 3) := by decide +kernel
theorem dX10_markAnew_109 : decode cX10_markAnew 109 = .ok (.ireturn, 1) := by decide +kernel
theorem dX10_best_0 : decode cX10_best 0 = .ok (.iload_n 1, 1) := by decide +kernel
theorem dX10_best_1 : decode cX10_best 1 = .ok (.invokestatic 240, 3) := by decide +kernel
theorem dX10_best_4 : decode cX10_best 4 = .ok (.aload_n 0, 1) := by decide +kernel
theorem dX10_best_5 : decode cX10_best 5 = .ok (.iload_n 2, 1) := by decide +kernel
theorem dX10_best_6 : decode cX10_best 6 = .ok (.invokevirtual 186, 3) := by decide +kernel
theorem dX10_best_9 : decode cX10_best 9 = .ok (.astore_n 3, 1) := by decide +kernel
theorem dX10_best_10 : decode cX10_best 10 = .ok (.iconst (-1), 1) := by decide +kernel
theorem dX10_best_11 : decode cX10_best 11 = .ok (.istore 4, 2) := by decide +kernel
theorem dX10_best_13 : decode cX10_best 13 = .ok (.iconst 0, 1) := by decide +kernel
theorem dX10_best_14 : decode cX10_best 14 = .ok (.istore 5, 2) := by decide +kernel
theorem dX10_best_16 : decode cX10_best 16 = .ok (.iload 5, 2) := by decide +kernel
theorem dX10_best_18 : decode cX10_best 18 = .ok (.aload_n 0, 1) := by decide +kernel
theorem dX10_best_19 : decode cX10_best 19 = .ok (.getfield 67, 3) := by decide +kernel
theorem dX10_best_22 : decode cX10_best 22 = .ok (.invokevirtual 172, 3) := by decide +kernel
theorem dX10_best_25 : decode cX10_best 25 = .ok (.if_icmp .ge 56, 3) := by decide +kernel
theorem dX10_best_28 : decode cX10_best 28 = .ok (.aload_n 0, 1) := by decide +kernel
theorem dX10_best_29 : decode cX10_best 29 = .ok (.getfield 67, 3) := by decide +kernel
theorem dX10_best_32 : decode cX10_best 32 = .ok (.iload 5, 2) := by decide +kernel
theorem dX10_best_34 : decode cX10_best 34 = .ok (.invokevirtual 205, 3) := by decide +kernel
theorem dX10_best_37 : decode cX10_best 37 = .ok (.checkcast 208, 3) := by decide +kernel
theorem dX10_best_40 : decode cX10_best 40 = .ok (.astore 6, 2) := by decide +kernel
theorem dX10_best_42 : decode cX10_best 42 = .ok (.aload 6, 2) := by decide +kernel
theorem dX10_best_44 : decode cX10_best 44 = .ok (.getfield 290, 3) := by decide +kernel
theorem dX10_best_47 : decode cX10_best 47 = .ok (.iload_n 1, 1) := by decide +kernel
theorem dX10_best_48 : decode cX10_best 48 = .ok (.if_icmp .ne 27, 3) := by decide +kernel
theorem dX10_best_51 : decode cX10_best 51 = .ok (.aload 6, 2) := by decide +kernel
theorem dX10_best_53 : decode cX10_best 53 = .ok (.getfield 210, 3) := by decide +kernel
theorem dX10_best_56 : decode cX10_best 56 = .ok (.getfield 214, 3) := by decide +kernel
theorem dX10_best_59 : decode cX10_best 59 = .ok (.iload_n 2, 1) := by decide +kernel
theorem dX10_best_60 : decode cX10_best 60 = .ok (.if_icmp .ne 15, 3) := by decide +kernel
theorem dX10_best_63 : decode cX10_best 63 = .ok (.iload 4, 2) := by decide +kernel
theorem dX10_best_65 : decode cX10_best 65 = .ok (.aload 6, 2) := by decide +kernel
theorem dX10_best_67 : decode cX10_best 67 = .ok (.invokevirtual 233, 3) := by decide +kernel
theorem dX10_best_70 : decode cX10_best 70 = .ok (.invokestatic 293, 3) := by decide +kernel
theorem dX10_best_73 : decode cX10_best 73 = .ok (.istore 4, 2) := by decide +kernel
theorem dX10_best_75 : decode cX10_best 75 = .ok (.iinc 5 1, 3) := by decide +kernel
theorem dX10_best_78 : decode cX10_best 78 = .ok (.goto (-62), 3) := by decide +kernel
theorem dX10_best_81 : decode cX10_best 81 = .ok (.iload 4, 2) := by decide +kernel
theorem dX10_best_83 : decode cX10_best 83 = .ok (.ireturn, 1) := by decide +kernel
theorem dX10_passed_0 : decode cX10_passed 0 = .ok (.aload_n 0, 1) := by decide +kernel
theorem dX10_passed_1 : decode cX10_passed 1 = .ok (.iload_n 1, 1) := by decide +kernel
theorem dX10_passed_2 : decode cX10_passed 2 = .ok (.invokevirtual 186, 3) := by decide +kernel
theorem dX10_passed_5 : decode cX10_passed 5 = .ok (.astore_n 3, 1) := by decide +kernel
theorem dX10_passed_6 : decode cX10_passed 6 = .ok (.aload_n 3, 1) := by decide +kernel
theorem dX10_passed_7 : decode cX10_passed 7 = .ok (.iload_n 2, 1) := by decide +kernel
theorem dX10_passed_8 : decode cX10_passed 8 = .ok (.invokestatic 221, 3) := by decide +kernel
theorem dX10_passed_11 : decode cX10_passed 11 = .ok (.pop, 1) := by decide +kernel
theorem dX10_passed_12 : decode cX10_passed 12 = .ok (.iconst 0, 1) := by decide +kernel
theorem dX10_passed_13 : decode cX10_passed 13 = .ok (.istore 4, 2) := by decide +kernel
theorem dX10_passed_15 : decode cX10_passed 15 = .ok (.iconst 0, 1) := by decide +kernel
theorem dX10_passed_16 : decode cX10_passed 16 = .ok (.istore 5, 2) := by decide +kernel
theorem dX10_passed_18 : decode cX10_passed 18 = .ok (.iload 5, 2) := by decide +kernel
theorem dX10_passed_20 : decode cX10_passed 20 = .ok (.aload_n 0, 1) := by decide +kernel
theorem dX10_passed_21 : decode cX10_passed 21 = .ok (.getfield 67, 3) := by decide +kernel
theorem dX10_passed_24 : decode cX10_passed 24 = .ok (.invokevirtual 172, 3) := by decide +kernel
theorem dX10_passed_27 : decode cX10_passed 27 = .ok (.if_icmp .ge 49, 3) := by decide +kernel
theorem dX10_passed_30 : decode cX10_passed 30 = .ok (.aload_n 0, 1) := by decide +kernel
theorem dX10_passed_31 : decode cX10_passed 31 = .ok (.getfield 67, 3) := by decide +kernel
theorem dX10_passed_34 : decode cX10_passed 34 = .ok (.iload 5, 2) := by decide +kernel
theorem dX10_passed_36 : decode cX10_passed 36 = .ok (.invokevirtual 205, 3) := by decide +kernel
theorem dX10_passed_39 : decode cX10_passed 39 = .ok (.checkcast 208, 3) := by decide +kernel
theorem dX10_passed_42 : decode cX10_passed 42 = .ok (.astore 6, 2) := by decide +kernel
theorem dX10_passed_44 : decode cX10_passed 44 = .ok (.aload 6, 2) := by decide +kernel
theorem dX10_passed_46 : decode cX10_passed 46 = .ok (.getfield 210, 3) := by decide +kernel
theorem dX10_passed_49 : decode cX10_passed 49 = .ok (.getfield 214, 3) := by decide +kernel
theorem dX10_passed_52 : decode cX10_passed 52 = .ok (.iload_n 1, 1) := by decide +kernel
theorem dX10_passed_53 : decode cX10_passed 53 = .ok (.if_icmp .ne 17, 3) := by decide +kernel
theorem dX10_passed_56 : decode cX10_passed 56 = .ok (.iload 4, 2) := by decide +kernel
theorem dX10_passed_58 : decode cX10_passed 58 = .ok (.aload 6, 2) := by decide +kernel
theorem dX10_passed_60 : decode cX10_passed 60 = .ok (.getfield 265, 3) := by decide +kernel
theorem dX10_passed_63 : decode cX10_passed 63 = .ok (.iload_n 2, 1) := by decide +kernel
theorem dX10_passed_64 : decode cX10_passed 64 = .ok (.invokevirtual 111, 3) := by decide +kernel
theorem dX10_passed_67 : decode cX10_passed 67 = .ok (.iadd, 1) := by decide +kernel
theorem dX10_passed_68 : decode cX10_passed 68 = .ok (.istore 4, 2) := by decide +kernel
theorem dX10_passed_70 : decode cX10_passed 70 = .ok (.iinc 5 1, 3) := by decide +kernel
theorem dX10_passed_73 : decode cX10_passed 73 = .ok (.goto (-55), 3) := by decide +kernel
theorem dX10_passed_76 : decode cX10_passed 76 = .ok (.iload 4, 2) := by decide +kernel
theorem dX10_passed_78 : decode cX10_passed 78 = .ok (.ireturn, 1) := by decide +kernel
theorem dX10_parts_0 : decode cX10_parts 0 = .ok (.aload_n 0, 1) := by decide +kernel
theorem dX10_parts_1 : decode cX10_parts 1 = .ok (.iload_n 1, 1) := by decide +kernel
theorem dX10_parts_2 : decode cX10_parts 2 = .ok (.invokevirtual 261, 3) := by decide +kernel
theorem dX10_parts_5 : decode cX10_parts 5 = .ok (.getfield 254, 3) := by decide +kernel
theorem dX10_parts_8 : decode cX10_parts 8 = .ok (.invokevirtual 137, 3) := by decide +kernel
theorem dX10_parts_11 : decode cX10_parts 11 = .ok (.ireturn, 1) := by decide +kernel
theorem dX10_common_0 : decode cX10_common 0 = .ok (.aload_n 0, 1) := by decide +kernel
theorem dX10_common_1 : decode cX10_common 1 = .ok (.iload_n 1, 1) := by decide +kernel
theorem dX10_common_2 : decode cX10_common 2 = .ok (.invokevirtual 299, 3) := by decide +kernel
theorem dX10_common_5 : decode cX10_common 5 = .ok (.aload_n 0, 1) := by decide +kernel
theorem dX10_common_6 : decode cX10_common 6 = .ok (.iload_n 2, 1) := by decide +kernel
theorem dX10_common_7 : decode cX10_common 7 = .ok (.invokevirtual 299, 3) := by decide +kernel
theorem dX10_common_10 : decode cX10_common 10 = .ok (.aload_n 0, 1) := by decide +kernel
theorem dX10_common_11 : decode cX10_common 11 = .ok (.iload_n 1, 1) := by decide +kernel
theorem dX10_common_12 : decode cX10_common 12 = .ok (.iload_n 2, 1) := by decide +kernel
theorem dX10_common_13 : decode cX10_common 13 = .ok (.invokevirtual 302, 3) := by decide +kernel
theorem dX10_common_16 : decode cX10_common 16 = .ok (.ireturn, 1) := by decide +kernel
theorem dX10_likeness_0 : decode cX10_likeness 0 = .ok (.aload_n 0, 1) := by decide +kernel
theorem dX10_likeness_1 : decode cX10_likeness 1 = .ok (.iload_n 1, 1) := by decide +kernel
theorem dX10_likeness_2 : decode cX10_likeness 2 = .ok (.invokevirtual 299, 3) := by decide +kernel
theorem dX10_likeness_5 : decode cX10_likeness 5 = .ok (.aload_n 0, 1) := by decide +kernel
theorem dX10_likeness_6 : decode cX10_likeness 6 = .ok (.iload_n 2, 1) := by decide +kernel
theorem dX10_likeness_7 : decode cX10_likeness 7 = .ok (.invokevirtual 299, 3) := by decide +kernel
theorem dX10_likeness_10 : decode cX10_likeness 10 = .ok (.aload_n 0, 1) := by decide +kernel
theorem dX10_likeness_11 : decode cX10_likeness 11 = .ok (.iload_n 1, 1) := by decide +kernel
theorem dX10_likeness_12 : decode cX10_likeness 12 = .ok (.iload_n 2, 1) := by decide +kernel
theorem dX10_likeness_13 : decode cX10_likeness 13 = .ok (.invokevirtual 305, 3) := by decide +kernel
theorem dX10_likeness_16 : decode cX10_likeness 16 = .ok (.ireturn, 1) := by decide +kernel
theorem dX10_accuse_0 : decode cX10_accuse 0 = .ok (.aload_n 0, 1) := by decide +kernel
theorem dX10_accuse_1 : decode cX10_accuse 1 = .ok (.iload_n 1, 1) := by decide +kernel
theorem dX10_accuse_2 : decode cX10_accuse 2 = .ok (.invokevirtual 261, 3) := by decide +kernel
theorem dX10_accuse_5 : decode cX10_accuse 5 = .ok (.astore_n 3, 1) := by decide +kernel
theorem dX10_accuse_6 : decode cX10_accuse 6 = .ok (.aload_n 0, 1) := by decide +kernel
theorem dX10_accuse_7 : decode cX10_accuse 7 = .ok (.iload_n 2, 1) := by decide +kernel
theorem dX10_accuse_8 : decode cX10_accuse 8 = .ok (.invokevirtual 299, 3) := by decide +kernel
theorem dX10_accuse_11 : decode cX10_accuse 11 = .ok (.aload_n 3, 1) := by decide +kernel
theorem dX10_accuse_12 : decode cX10_accuse 12 = .ok (.getfield 308, 3) := by decide +kernel
theorem dX10_accuse_15 : decode cX10_accuse 15 = .ok (.ifCond .ne 12, 3) := by decide +kernel
theorem dX10_accuse_18 : decode cX10_accuse 18 = .ok (.aload_n 0, 1) := by decide +kernel
theorem dX10_accuse_19 : decode cX10_accuse 19 = .ok (.iload_n 1, 1) := by decide +kernel
theorem dX10_accuse_20 : decode cX10_accuse 20 = .ok (.iload_n 2, 1) := by decide +kernel
theorem dX10_accuse_21 : decode cX10_accuse 21 = .ok (.invokevirtual 311, 3) := by decide +kernel
theorem dX10_accuse_24 : decode cX10_accuse 24 = .ok (.ifCond .ne 14, 3) := by decide +kernel
theorem dX10_accuse_27 : decode cX10_accuse 27 = .ok (.new 173, 3) := by decide +kernel
theorem dX10_accuse_30 : decode cX10_accuse 30 = .ok (.dup, 1) := by decide +kernel
theorem dX10_accuse_31 : decode cX10_accuse 31 = .ok (.ldc_w 315, 3) := by decide +kernel
theorem dX10_accuse_34 : decode cX10_accuse 34 = .ok (.invokespecial 177, 3) := by decide +kernel
theorem dX10_accuse_37 : decode cX10_accuse 37 = .ok (.athrow, 1) := by decide +kernel
theorem dX10_accuse_38 : decode cX10_accuse 38 = .ok (.aload_n 3, 1) := by decide +kernel
theorem dX10_accuse_39 : decode cX10_accuse 39 = .ok (.invokevirtual 233, 3) := by decide +kernel
theorem dX10_accuse_42 : decode cX10_accuse 42 = .ok (.istore 4, 2) := by decide +kernel
theorem dX10_accuse_44 : decode cX10_accuse 44 = .ok (.aload_n 3, 1) := by decide +kernel
theorem dX10_accuse_45 : decode cX10_accuse 45 = .ok (.iconst 1, 1) := by decide +kernel
theorem dX10_accuse_46 : decode cX10_accuse 46 = .ok (.putfield 308, 3) := by decide +kernel
theorem dX10_accuse_49 : decode cX10_accuse 49 = .ok (.iload 4, 2) := by decide +kernel
theorem dX10_accuse_51 : decode cX10_accuse 51 = .ok (.ireturn, 1) := by decide +kernel
theorem dX10_clear_0 : decode cX10_clear 0 = .ok (.aload_n 0, 1) := by decide +kernel
theorem dX10_clear_1 : decode cX10_clear 1 = .ok (.iload_n 1, 1) := by decide +kernel
theorem dX10_clear_2 : decode cX10_clear 2 = .ok (.invokevirtual 261, 3) := by decide +kernel
theorem dX10_clear_5 : decode cX10_clear 5 = .ok (.astore_n 2, 1) := by decide +kernel
theorem dX10_clear_6 : decode cX10_clear 6 = .ok (.aload_n 2, 1) := by decide +kernel
theorem dX10_clear_7 : decode cX10_clear 7 = .ok (.getfield 308, 3) := by decide +kernel
theorem dX10_clear_10 : decode cX10_clear 10 = .ok (.ifCond .ne 14, 3) := by decide +kernel
theorem dX10_clear_13 : decode cX10_clear 13 = .ok (.new 173, 3) := by decide +kernel
theorem dX10_clear_16 : decode cX10_clear 16 = .ok (.dup, 1) := by decide +kernel
theorem dX10_clear_17 : decode cX10_clear 17 = .ok (.ldc_w 317, 3) := by decide +kernel
theorem dX10_clear_20 : decode cX10_clear 20 = .ok (.invokespecial 177, 3) := by decide +kernel
theorem dX10_clear_23 : decode cX10_clear 23 = .ok (.athrow, 1) := by decide +kernel
theorem dX10_clear_24 : decode cX10_clear 24 = .ok (.aload_n 2, 1) := by decide +kernel
theorem dX10_clear_25 : decode cX10_clear 25 = .ok (.iconst 0, 1) := by decide +kernel
theorem dX10_clear_26 : decode cX10_clear 26 = .ok (.putfield 308, 3) := by decide +kernel
theorem dX10_clear_29 : decode cX10_clear 29 = .ok (.aload_n 2, 1) := by decide +kernel
theorem dX10_clear_30 : decode cX10_clear 30 = .ok (.invokevirtual 233, 3) := by decide +kernel
theorem dX10_clear_33 : decode cX10_clear 33 = .ok (.ireturn, 1) := by decide +kernel
theorem dX10_doubt_0 : decode cX10_doubt 0 = .ok (.aload_n 0, 1) := by decide +kernel
theorem dX10_doubt_1 : decode cX10_doubt 1 = .ok (.iload_n 1, 1) := by decide +kernel
theorem dX10_doubt_2 : decode cX10_doubt 2 = .ok (.invokevirtual 299, 3) := by decide +kernel
theorem dX10_doubt_5 : decode cX10_doubt 5 = .ok (.iconst 0, 1) := by decide +kernel
theorem dX10_doubt_6 : decode cX10_doubt 6 = .ok (.istore_n 2, 1) := by decide +kernel
theorem dX10_doubt_7 : decode cX10_doubt 7 = .ok (.iload_n 2, 1) := by decide +kernel
theorem dX10_doubt_8 : decode cX10_doubt 8 = .ok (.iload_n 1, 1) := by decide +kernel
theorem dX10_doubt_9 : decode cX10_doubt 9 = .ok (.if_icmp .ge 31, 3) := by decide +kernel
theorem dX10_doubt_12 : decode cX10_doubt 12 = .ok (.iload_n 2, 1) := by decide +kernel
theorem dX10_doubt_13 : decode cX10_doubt 13 = .ok (.aload_n 0, 1) := by decide +kernel
theorem dX10_doubt_14 : decode cX10_doubt 14 = .ok (.getfield 67, 3) := by decide +kernel
theorem dX10_doubt_17 : decode cX10_doubt 17 = .ok (.invokevirtual 172, 3) := by decide +kernel
theorem dX10_doubt_20 : decode cX10_doubt 20 = .ok (.if_icmp .ge 20, 3) := by decide +kernel
theorem dX10_doubt_23 : decode cX10_doubt 23 = .ok (.aload_n 0, 1) := by decide +kernel
theorem dX10_doubt_24 : decode cX10_doubt 24 = .ok (.iload_n 1, 1) := by decide +kernel
theorem dX10_doubt_25 : decode cX10_doubt 25 = .ok (.iload_n 2, 1) := by decide +kernel
theorem dX10_doubt_26 : decode cX10_doubt 26 = .ok (.invokevirtual 311, 3) := by decide +kernel
theorem dX10_doubt_29 : decode cX10_doubt 29 = .ok (.ifCond .eq 5, 3) := by decide +kernel
theorem dX10_doubt_32 : decode cX10_doubt 32 = .ok (.iload_n 2, 1) := by decide +kernel
theorem dX10_doubt_33 : decode cX10_doubt 33 = .ok (.ireturn, 1) := by decide +kernel
theorem dX10_doubt_34 : decode cX10_doubt 34 = .ok (.iinc 2 1, 3) := by decide +kernel
theorem dX10_doubt_37 : decode cX10_doubt 37 = .ok (.goto (-30), 3) := by decide +kernel
theorem dX10_doubt_40 : decode cX10_doubt 40 = .ok (.iconst (-1), 1) := by decide +kernel
theorem dX10_doubt_41 : decode cX10_doubt 41 = .ok (.ireturn, 1) := by decide +kernel
theorem dX10_byteOf_0 : decode cX10_byteOf 0 = .ok (.lload_n 0, 1) := by decide +kernel
theorem dX10_byteOf_1 : decode cX10_byteOf 1 = .ok (.bipush 8, 2) := by decide +kernel
theorem dX10_byteOf_3 : decode cX10_byteOf 3 = .ok (.iload_n 2, 1) := by decide +kernel
theorem dX10_byteOf_4 : decode cX10_byteOf 4 = .ok (.imul, 1) := by decide +kernel
theorem dX10_byteOf_5 : decode cX10_byteOf 5 = .ok (.lushr, 1) := by decide +kernel
theorem dX10_byteOf_6 : decode cX10_byteOf 6 = .ok (.ldc2_w 319, 3) := by decide +kernel
theorem dX10_byteOf_9 : decode cX10_byteOf 9 = .ok (.land, 1) := by decide +kernel
theorem dX10_byteOf_10 : decode cX10_byteOf 10 = .ok (.l2i, 1) := by decide +kernel
theorem dX10_byteOf_11 : decode cX10_byteOf 11 = .ok (.ireturn, 1) := by decide +kernel
theorem dX10_requireTrialFuel_0 : decode cX10_requireTrialFuel 0 = .ok (.iload_n 0, 1) := by decide +kernel
theorem dX10_requireTrialFuel_1 : decode cX10_requireTrialFuel 1 = .ok (.ifCond .lt 10, 3) := by decide +kernel
theorem dX10_requireTrialFuel_4 : decode cX10_requireTrialFuel 4 = .ok (.iload_n 0, 1) := by decide +kernel
theorem dX10_requireTrialFuel_5 : decode cX10_requireTrialFuel 5 = .ok (.sipush 5000, 3) := by decide +kernel
theorem dX10_requireTrialFuel_8 : decode cX10_requireTrialFuel 8 = .ok (.if_icmp .le 14, 3) := by decide +kernel
theorem dX10_requireTrialFuel_11 : decode cX10_requireTrialFuel 11 = .ok (.new 80, 3) := by decide +kernel
theorem dX10_requireTrialFuel_14 : decode cX10_requireTrialFuel 14 = .ok (.dup, 1) := by decide +kernel
theorem dX10_requireTrialFuel_15 : decode cX10_requireTrialFuel 15 = .ok (.ldc_w 321, 3) := by decide +kernel
theorem dX10_requireTrialFuel_18 : decode cX10_requireTrialFuel 18 = .ok (.invokespecial 84, 3) := by decide +kernel
theorem dX10_requireTrialFuel_21 : decode cX10_requireTrialFuel 21 = .ok (.athrow, 1) := by decide +kernel
theorem dX10_requireTrialFuel_22 : decode cX10_requireTrialFuel 22 = .ok (.return_, 1) := by decide +kernel
theorem dX10_requirePupil_0 : decode cX10_requirePupil 0 = .ok (.iload_n 0, 1) := by decide +kernel
theorem dX10_requirePupil_1 : decode cX10_requirePupil 1 = .ok (.ifCond .lt 9, 3) := by decide +kernel
theorem dX10_requirePupil_4 : decode cX10_requirePupil 4 = .ok (.iload_n 0, 1) := by decide +kernel
theorem dX10_requirePupil_5 : decode cX10_requirePupil 5 = .ok (.bipush 6, 2) := by decide +kernel
theorem dX10_requirePupil_7 : decode cX10_requirePupil 7 = .ok (.if_icmp .lt 14, 3) := by decide +kernel
theorem dX10_requirePupil_10 : decode cX10_requirePupil 10 = .ok (.new 106, 3) := by decide +kernel
theorem dX10_requirePupil_13 : decode cX10_requirePupil 13 = .ok (.dup, 1) := by decide +kernel
theorem dX10_requirePupil_14 : decode cX10_requirePupil 14 = .ok (.ldc_w 323, 3) := by decide +kernel
theorem dX10_requirePupil_17 : decode cX10_requirePupil 17 = .ok (.invokespecial 110, 3) := by decide +kernel
theorem dX10_requirePupil_20 : decode cX10_requirePupil 20 = .ok (.athrow, 1) := by decide +kernel
theorem dX10_requirePupil_21 : decode cX10_requirePupil 21 = .ok (.return_, 1) := by decide +kernel
theorem dX10_requireAnswer_0 : decode cX10_requireAnswer 0 = .ok (.iload_n 1, 1) := by decide +kernel
theorem dX10_requireAnswer_1 : decode cX10_requireAnswer 1 = .ok (.ifCond .lt 14, 3) := by decide +kernel
theorem dX10_requireAnswer_4 : decode cX10_requireAnswer 4 = .ok (.iload_n 1, 1) := by decide +kernel
theorem dX10_requireAnswer_5 : decode cX10_requireAnswer 5 = .ok (.aload_n 0, 1) := by decide +kernel
theorem dX10_requireAnswer_6 : decode cX10_requireAnswer 6 = .ok (.getfield 67, 3) := by decide +kernel
theorem dX10_requireAnswer_9 : decode cX10_requireAnswer 9 = .ok (.invokevirtual 172, 3) := by decide +kernel
theorem dX10_requireAnswer_12 : decode cX10_requireAnswer 12 = .ok (.if_icmp .lt 14, 3) := by decide +kernel
theorem dX10_requireAnswer_15 : decode cX10_requireAnswer 15 = .ok (.new 106, 3) := by decide +kernel
theorem dX10_requireAnswer_18 : decode cX10_requireAnswer 18 = .ok (.dup, 1) := by decide +kernel
theorem dX10_requireAnswer_19 : decode cX10_requireAnswer 19 = .ok (.ldc_w 325, 3) := by decide +kernel
theorem dX10_requireAnswer_22 : decode cX10_requireAnswer 22 = .ok (.invokespecial 110, 3) := by decide +kernel
theorem dX10_requireAnswer_25 : decode cX10_requireAnswer 25 = .ok (.athrow, 1) := by decide +kernel
theorem dX10_requireAnswer_26 : decode cX10_requireAnswer 26 = .ok (.return_, 1) := by decide +kernel
theorem dX10_answerAt_0 : decode cX10_answerAt 0 = .ok (.iload_n 1, 1) := by decide +kernel
theorem dX10_answerAt_1 : decode cX10_answerAt 1 = .ok (.ifCond .lt 14, 3) := by decide +kernel
theorem dX10_answerAt_4 : decode cX10_answerAt 4 = .ok (.iload_n 1, 1) := by decide +kernel
theorem dX10_answerAt_5 : decode cX10_answerAt 5 = .ok (.aload_n 0, 1) := by decide +kernel
theorem dX10_answerAt_6 : decode cX10_answerAt 6 = .ok (.getfield 67, 3) := by decide +kernel
theorem dX10_answerAt_9 : decode cX10_answerAt 9 = .ok (.invokevirtual 172, 3) := by decide +kernel
theorem dX10_answerAt_12 : decode cX10_answerAt 12 = .ok (.if_icmp .lt 14, 3) := by decide +kernel
theorem dX10_answerAt_15 : decode cX10_answerAt 15 = .ok (.new 106, 3) := by decide +kernel
theorem dX10_answerAt_18 : decode cX10_answerAt 18 = .ok (.dup, 1) := by decide +kernel
theorem dX10_answerAt_19 : decode cX10_answerAt 19 = .ok (.ldc_w 325, 3) := by decide +kernel
theorem dX10_answerAt_22 : decode cX10_answerAt 22 = .ok (.invokespecial 110, 3) := by decide +kernel
theorem dX10_answerAt_25 : decode cX10_answerAt 25 = .ok (.athrow, 1) := by decide +kernel
theorem dX10_answerAt_26 : decode cX10_answerAt 26 = .ok (.aload_n 0, 1) := by decide +kernel
theorem dX10_answerAt_27 : decode cX10_answerAt 27 = .ok (.getfield 67, 3) := by decide +kernel
theorem dX10_answerAt_30 : decode cX10_answerAt 30 = .ok (.iload_n 1, 1) := by decide +kernel
theorem dX10_answerAt_31 : decode cX10_answerAt 31 = .ok (.invokevirtual 205, 3) := by decide +kernel
theorem dX10_answerAt_34 : decode cX10_answerAt 34 = .ok (.checkcast 208, 3) := by decide +kernel
theorem dX10_answerAt_37 : decode cX10_answerAt 37 = .ok (.areturn, 1) := by decide +kernel
theorem dX10_exerciseAt_0 : decode cX10_exerciseAt 0 = .ok (.iload_n 1, 1) := by decide +kernel
theorem dX10_exerciseAt_1 : decode cX10_exerciseAt 1 = .ok (.ifCond .lt 14, 3) := by decide +kernel
theorem dX10_exerciseAt_4 : decode cX10_exerciseAt 4 = .ok (.iload_n 1, 1) := by decide +kernel
theorem dX10_exerciseAt_5 : decode cX10_exerciseAt 5 = .ok (.aload_n 0, 1) := by decide +kernel
theorem dX10_exerciseAt_6 : decode cX10_exerciseAt 6 = .ok (.getfield 63, 3) := by decide +kernel
theorem dX10_exerciseAt_9 : decode cX10_exerciseAt 9 = .ok (.invokevirtual 172, 3) := by decide +kernel
theorem dX10_exerciseAt_12 : decode cX10_exerciseAt 12 = .ok (.if_icmp .lt 14, 3) := by decide +kernel
theorem dX10_exerciseAt_15 : decode cX10_exerciseAt 15 = .ok (.new 106, 3) := by decide +kernel
theorem dX10_exerciseAt_18 : decode cX10_exerciseAt 18 = .ok (.dup, 1) := by decide +kernel
theorem dX10_exerciseAt_19 : decode cX10_exerciseAt 19 = .ok (.ldc_w 327, 3) := by decide +kernel
theorem dX10_exerciseAt_22 : decode cX10_exerciseAt 22 = .ok (.invokespecial 110, 3) := by decide +kernel
theorem dX10_exerciseAt_25 : decode cX10_exerciseAt 25 = .ok (.athrow, 1) := by decide +kernel
theorem dX10_exerciseAt_26 : decode cX10_exerciseAt 26 = .ok (.aload_n 0, 1) := by decide +kernel
theorem dX10_exerciseAt_27 : decode cX10_exerciseAt 27 = .ok (.getfield 63, 3) := by decide +kernel
theorem dX10_exerciseAt_30 : decode cX10_exerciseAt 30 = .ok (.iload_n 1, 1) := by decide +kernel
theorem dX10_exerciseAt_31 : decode cX10_exerciseAt 31 = .ok (.invokevirtual 205, 3) := by decide +kernel
theorem dX10_exerciseAt_34 : decode cX10_exerciseAt 34 = .ok (.checkcast 178, 3) := by decide +kernel
theorem dX10_exerciseAt_37 : decode cX10_exerciseAt 37 = .ok (.areturn, 1) := by decide +kernel
theorem dX10_testAt_0 : decode cX10_testAt 0 = .ok (.aload_n 0, 1) := by decide +kernel
theorem dX10_testAt_1 : decode cX10_testAt 1 = .ok (.iload_n 1, 1) := by decide +kernel
theorem dX10_testAt_2 : decode cX10_testAt 2 = .ok (.invokevirtual 329, 3) := by decide +kernel
theorem dX10_testAt_5 : decode cX10_testAt 5 = .ok (.astore_n 2, 1) := by decide +kernel
theorem dX10_testAt_6 : decode cX10_testAt 6 = .ok (.aload_n 2, 1) := by decide +kernel
theorem dX10_testAt_7 : decode cX10_testAt 7 = .ok (.ifnonnull 14, 3) := by decide +kernel
theorem dX10_testAt_10 : decode cX10_testAt 10 = .ok (.new 106, 3) := by decide +kernel
theorem dX10_testAt_13 : decode cX10_testAt 13 = .ok (.dup, 1) := by decide +kernel
theorem dX10_testAt_14 : decode cX10_testAt 14 = .ok (.ldc_w 332, 3) := by decide +kernel
theorem dX10_testAt_17 : decode cX10_testAt 17 = .ok (.invokespecial 110, 3) := by decide +kernel
theorem dX10_testAt_20 : decode cX10_testAt 20 = .ok (.athrow, 1) := by decide +kernel
theorem dX10_testAt_21 : decode cX10_testAt 21 = .ok (.aload_n 2, 1) := by decide +kernel
theorem dX10_testAt_22 : decode cX10_testAt 22 = .ok (.areturn, 1) := by decide +kernel
theorem dX10_readDraft_0 : decode cX10_readDraft 0 = .ok (.aload_n 0, 1) := by decide +kernel
theorem dX10_readDraft_1 : decode cX10_readDraft 1 = .ok (.getfield 94, 3) := by decide +kernel
theorem dX10_readDraft_4 : decode cX10_readDraft 4 = .ok (.ifCond .eq 4, 3) := by decide +kernel
theorem dX10_readDraft_7 : decode cX10_readDraft 7 = .ok (.return_, 1) := by decide +kernel
theorem dX10_readDraft_8 : decode cX10_readDraft 8 = .ok (.aload_n 0, 1) := by decide +kernel
theorem dX10_readDraft_9 : decode cX10_readDraft 9 = .ok (.getfield 248, 3) := by decide +kernel
theorem dX10_readDraft_12 : decode cX10_readDraft 12 = .ok (.ifCond .eq 19, 3) := by decide +kernel
theorem dX10_readDraft_15 : decode cX10_readDraft 15 = .ok (.aload_n 0, 1) := by decide +kernel
theorem dX10_readDraft_16 : decode cX10_readDraft 16 = .ok (.new 18, 3) := by decide +kernel
theorem dX10_readDraft_19 : decode cX10_readDraft 19 = .ok (.dup, 1) := by decide +kernel
theorem dX10_readDraft_20 : decode cX10_readDraft 20 = .ok (.invokespecial 20, 3) := by decide +kernel
theorem dX10_readDraft_23 : decode cX10_readDraft 23 = .ok (.putfield 21, 3) := by decide +kernel
theorem dX10_readDraft_26 : decode cX10_readDraft 26 = .ok (.aload_n 0, 1) := by decide +kernel
theorem dX10_readDraft_27 : decode cX10_readDraft 27 = .ok (.iconst 0, 1) := by decide +kernel
theorem dX10_readDraft_28 : decode cX10_readDraft 28 = .ok (.putfield 248, 3) := by decide +kernel
theorem dX10_readDraft_31 : decode cX10_readDraft 31 = .ok (.aload_n 0, 1) := by decide +kernel
theorem dX10_readDraft_32 : decode cX10_readDraft 32 = .ok (.getfield 21, 3) := by decide +kernel
theorem dX10_readDraft_35 : decode cX10_readDraft 35 = .ok (.getfield 122, 3) := by decide +kernel
theorem dX10_readDraft_38 : decode cX10_readDraft 38 = .ok (.aload_n 0, 1) := by decide +kernel
theorem dX10_readDraft_39 : decode cX10_readDraft 39 = .ok (.getfield 14, 3) := by decide +kernel
theorem dX10_readDraft_42 : decode cX10_readDraft 42 = .ok (.invokevirtual 334, 3) := by decide +kernel
theorem dX10_readDraft_45 : decode cX10_readDraft 45 = .ok (.aload_n 0, 1) := by decide +kernel
theorem dX10_readDraft_46 : decode cX10_readDraft 46 = .ok (.getfield 30, 3) := by decide +kernel
theorem dX10_readDraft_49 : decode cX10_readDraft 49 = .ok (.aload_n 0, 1) := by decide +kernel
theorem dX10_readDraft_50 : decode cX10_readDraft 50 = .ok (.getfield 21, 3) := by decide +kernel
theorem dX10_readDraft_53 : decode cX10_readDraft 53 = .ok (.invokevirtual 338, 3) := by decide +kernel
theorem dX10_readDraft_56 : decode cX10_readDraft 56 = .ok (.aload_n 0, 1) := by decide +kernel
theorem dX10_readDraft_57 : decode cX10_readDraft 57 = .ok (.iconst 1, 1) := by decide +kernel
theorem dX10_readDraft_58 : decode cX10_readDraft 58 = .ok (.putfield 94, 3) := by decide +kernel
theorem dX10_readDraft_61 : decode cX10_readDraft 61 = .ok (.return_, 1) := by decide +kernel
theorem dX10_requireNoFault_0 : decode cX10_requireNoFault 0 = .ok (.aload_n 0, 1) := by decide +kernel
theorem dX10_requireNoFault_1 : decode cX10_requireNoFault 1 = .ok (.getfield 21, 3) := by decide +kernel
theorem dX10_requireNoFault_4 : decode cX10_requireNoFault 4 = .ok (.getfield 118, 3) := by decide +kernel
theorem dX10_requireNoFault_7 : decode cX10_requireNoFault 7 = .ok (.ifCond .eq 14, 3) := by decide +kernel
theorem dX10_requireNoFault_10 : decode cX10_requireNoFault 10 = .ok (.new 173, 3) := by decide +kernel
theorem dX10_requireNoFault_13 : decode cX10_requireNoFault 13 = .ok (.dup, 1) := by decide +kernel
theorem dX10_requireNoFault_14 : decode cX10_requireNoFault 14 = .ok (.ldc_w 341, 3) := by decide +kernel
theorem dX10_requireNoFault_17 : decode cX10_requireNoFault 17 = .ok (.invokespecial 177, 3) := by decide +kernel
theorem dX10_requireNoFault_20 : decode cX10_requireNoFault 20 = .ok (.athrow, 1) := by decide +kernel
theorem dX10_requireNoFault_21 : decode cX10_requireNoFault 21 = .ok (.return_, 1) := by decide +kernel
theorem dX10_test_0 : decode cX10_test 0 = .ok (.aload_n 0, 1) := by decide +kernel
theorem dX10_test_1 : decode cX10_test 1 = .ok (.getfield 49, 3) := by decide +kernel
theorem dX10_test_4 : decode cX10_test 4 = .ok (.aload_n 1, 1) := by decide +kernel
theorem dX10_test_5 : decode cX10_test 5 = .ok (.getfield 254, 3) := by decide +kernel
theorem dX10_test_8 : decode cX10_test 8 = .ok (.aload_n 0, 1) := by decide +kernel
theorem dX10_test_9 : decode cX10_test 9 = .ok (.getfield 41, 3) := by decide +kernel
theorem dX10_test_12 : decode cX10_test 12 = .ok (.aload_n 1, 1) := by decide +kernel
theorem dX10_test_13 : decode cX10_test 13 = .ok (.getfield 210, 3) := by decide +kernel
theorem dX10_test_16 : decode cX10_test 16 = .ok (.getfield 275, 3) := by decide +kernel
theorem dX10_test_19 : decode cX10_test 19 = .ok (.aload_n 2, 1) := by decide +kernel
theorem dX10_test_20 : decode cX10_test 20 = .ok (.getfield 277, 3) := by decide +kernel
theorem dX10_test_23 : decode cX10_test 23 = .ok (.aload_n 2, 1) := by decide +kernel
theorem dX10_test_24 : decode cX10_test 24 = .ok (.getfield 280, 3) := by decide +kernel
theorem dX10_test_27 : decode cX10_test 27 = .ok (.invokevirtual 143, 3) := by decide +kernel
theorem dX10_test_30 : decode cX10_test 30 = .ok (.aload_n 1, 1) := by decide +kernel
theorem dX10_test_31 : decode cX10_test 31 = .ok (.getfield 268, 3) := by decide +kernel
theorem dX10_test_34 : decode cX10_test 34 = .ok (.aload_n 0, 1) := by decide +kernel
theorem dX10_test_35 : decode cX10_test 35 = .ok (.getfield 41, 3) := by decide +kernel
theorem dX10_test_38 : decode cX10_test 38 = .ok (.invokevirtual 147, 3) := by decide +kernel
theorem dX10_test_41 : decode cX10_test 41 = .ok (.invokevirtual 91, 3) := by decide +kernel
theorem dX10_test_44 : decode cX10_test 44 = .ok (.aload_n 1, 1) := by decide +kernel
theorem dX10_test_45 : decode cX10_test 45 = .ok (.getfield 265, 3) := by decide +kernel
theorem dX10_test_48 : decode cX10_test 48 = .ok (.aload_n 2, 1) := by decide +kernel
theorem dX10_test_49 : decode cX10_test 49 = .ok (.aload_n 0, 1) := by decide +kernel
theorem dX10_test_50 : decode cX10_test 50 = .ok (.getfield 41, 3) := by decide +kernel
theorem dX10_test_53 : decode cX10_test 53 = .ok (.invokevirtual 283, 3) := by decide +kernel
theorem dX10_test_56 : decode cX10_test 56 = .ok (.ifCond .eq 7, 3) := by decide +kernel
theorem dX10_test_59 : decode cX10_test 59 = .ok (.iconst 1, 1) := by decide +kernel
theorem dX10_test_60 : decode cX10_test 60 = .ok (.goto 4, 3) := by decide +kernel
theorem dX10_test_63 : decode cX10_test 63 = .ok (.iconst 0, 1) := by decide +kernel
theorem dX10_test_64 : decode cX10_test 64 = .ok (.invokevirtual 91, 3) := by decide +kernel
theorem dX10_test_67 : decode cX10_test 67 = .ok (.return_, 1) := by decide +kernel
theorem dX10_noteMarks_0 : decode cX10_noteMarks 0 = .ok (.aload_n 0, 1) := by decide +kernel
theorem dX10_noteMarks_1 : decode cX10_noteMarks 1 = .ok (.getfield 70, 3) := by decide +kernel
theorem dX10_noteMarks_4 : decode cX10_noteMarks 4 = .ok (.invokevirtual 98, 3) := by decide +kernel
theorem dX10_noteMarks_7 : decode cX10_noteMarks 7 = .ok (.iconst 0, 1) := by decide +kernel
theorem dX10_noteMarks_8 : decode cX10_noteMarks 8 = .ok (.istore_n 1, 1) := by decide +kernel
theorem dX10_noteMarks_9 : decode cX10_noteMarks 9 = .ok (.iload_n 1, 1) := by decide +kernel
theorem dX10_noteMarks_10 : decode cX10_noteMarks 10 = .ok (.aload_n 0, 1) := by decide +kernel
theorem dX10_noteMarks_11 : decode cX10_noteMarks 11 = .ok (.getfield 67, 3) := by decide +kernel
theorem dX10_noteMarks_14 : decode cX10_noteMarks 14 = .ok (.invokevirtual 172, 3) := by decide +kernel
theorem dX10_noteMarks_17 : decode cX10_noteMarks 17 = .ok (.if_icmp .ge 30, 3) := by decide +kernel
theorem dX10_noteMarks_20 : decode cX10_noteMarks 20 = .ok (.aload_n 0, 1) := by decide +kernel
theorem dX10_noteMarks_21 : decode cX10_noteMarks 21 = .ok (.getfield 70, 3) := by decide +kernel
theorem dX10_noteMarks_24 : decode cX10_noteMarks 24 = .ok (.aload_n 0, 1) := by decide +kernel
theorem dX10_noteMarks_25 : decode cX10_noteMarks 25 = .ok (.getfield 67, 3) := by decide +kernel
theorem dX10_noteMarks_28 : decode cX10_noteMarks 28 = .ok (.iload_n 1, 1) := by decide +kernel
theorem dX10_noteMarks_29 : decode cX10_noteMarks 29 = .ok (.invokevirtual 205, 3) := by decide +kernel
theorem dX10_noteMarks_32 : decode cX10_noteMarks 32 = .ok (.checkcast 208, 3) := by decide +kernel
theorem dX10_noteMarks_35 : decode cX10_noteMarks 35 = .ok (.invokevirtual 233, 3) := by decide +kernel
theorem dX10_noteMarks_38 : decode cX10_noteMarks 38 = .ok (.invokevirtual 91, 3) := by decide +kernel
theorem dX10_noteMarks_41 : decode cX10_noteMarks 41 = .ok (.iinc 1 1, 3) := by decide +kernel
theorem dX10_noteMarks_44 : decode cX10_noteMarks 44 = .ok (.goto (-35), 3) := by decide +kernel
theorem dX10_noteMarks_47 : decode cX10_noteMarks 47 = .ok (.return_, 1) := by decide +kernel
theorem dX10_commonOf_0 : decode cX10_commonOf 0 = .ok (.aload_n 0, 1) := by decide +kernel
theorem dX10_commonOf_1 : decode cX10_commonOf 1 = .ok (.iload_n 1, 1) := by decide +kernel
theorem dX10_commonOf_2 : decode cX10_commonOf 2 = .ok (.iload_n 2, 1) := by decide +kernel
theorem dX10_commonOf_3 : decode cX10_commonOf 3 = .ok (.invokestatic 293, 3) := by decide +kernel
theorem dX10_commonOf_6 : decode cX10_commonOf 6 = .ok (.invokevirtual 261, 3) := by decide +kernel
theorem dX10_commonOf_9 : decode cX10_commonOf 9 = .ok (.getfield 251, 3) := by decide +kernel
theorem dX10_commonOf_12 : decode cX10_commonOf 12 = .ok (.iload_n 1, 1) := by decide +kernel
theorem dX10_commonOf_13 : decode cX10_commonOf 13 = .ok (.iload_n 2, 1) := by decide +kernel
theorem dX10_commonOf_14 : decode cX10_commonOf 14 = .ok (.invokestatic 343, 3) := by decide +kernel
theorem dX10_commonOf_17 : decode cX10_commonOf 17 = .ok (.invokevirtual 111, 3) := by decide +kernel
theorem dX10_commonOf_20 : decode cX10_commonOf 20 = .ok (.ireturn, 1) := by decide +kernel
theorem dX10_likenessOf_0 : decode cX10_likenessOf 0 = .ok (.aload_n 0, 1) := by decide +kernel
theorem dX10_likenessOf_1 : decode cX10_likenessOf 1 = .ok (.iload_n 1, 1) := by decide +kernel
theorem dX10_likenessOf_2 : decode cX10_likenessOf 2 = .ok (.invokevirtual 261, 3) := by decide +kernel
theorem dX10_likenessOf_5 : decode cX10_likenessOf 5 = .ok (.getfield 254, 3) := by decide +kernel
theorem dX10_likenessOf_8 : decode cX10_likenessOf 8 = .ok (.invokevirtual 137, 3) := by decide +kernel
theorem dX10_likenessOf_11 : decode cX10_likenessOf 11 = .ok (.aload_n 0, 1) := by decide +kernel
theorem dX10_likenessOf_12 : decode cX10_likenessOf 12 = .ok (.iload_n 2, 1) := by decide +kernel
theorem dX10_likenessOf_13 : decode cX10_likenessOf 13 = .ok (.invokevirtual 261, 3) := by decide +kernel
theorem dX10_likenessOf_16 : decode cX10_likenessOf 16 = .ok (.getfield 254, 3) := by decide +kernel
theorem dX10_likenessOf_19 : decode cX10_likenessOf 19 = .ok (.invokevirtual 137, 3) := by decide +kernel
theorem dX10_likenessOf_22 : decode cX10_likenessOf 22 = .ok (.iadd, 1) := by decide +kernel
theorem dX10_likenessOf_23 : decode cX10_likenessOf 23 = .ok (.istore_n 3, 1) := by decide +kernel
theorem dX10_likenessOf_24 : decode cX10_likenessOf 24 = .ok (.iload_n 3, 1) := by decide +kernel
theorem dX10_likenessOf_25 : decode cX10_likenessOf 25 = .ok (.ifCond .ne 7, 3) := by decide +kernel
theorem dX10_likenessOf_28 : decode cX10_likenessOf 28 = .ok (.iconst 0, 1) := by decide +kernel
theorem dX10_likenessOf_29 : decode cX10_likenessOf 29 = .ok (.goto 15, 3) := by decide +kernel
theorem dX10_likenessOf_32 : decode cX10_likenessOf 32 = .ok (.sipush 200, 3) := by decide +kernel
theorem dX10_likenessOf_35 : decode cX10_likenessOf 35 = .ok (.aload_n 0, 1) := by decide +kernel
theorem dX10_likenessOf_36 : decode cX10_likenessOf 36 = .ok (.iload_n 1, 1) := by decide +kernel
theorem dX10_likenessOf_37 : decode cX10_likenessOf 37 = .ok (.iload_n 2, 1) := by decide +kernel
theorem dX10_likenessOf_38 : decode cX10_likenessOf 38 = .ok (.invokevirtual 302, 3) := by decide +kernel
theorem dX10_likenessOf_41 : decode cX10_likenessOf 41 = .ok (.imul, 1) := by decide +kernel
theorem dX10_likenessOf_42 : decode cX10_likenessOf 42 = .ok (.iload_n 3, 1) := by decide +kernel
theorem dX10_likenessOf_43 : decode cX10_likenessOf 43 = .ok (.idiv, 1) := by decide +kernel
theorem dX10_likenessOf_44 : decode cX10_likenessOf 44 = .ok (.ireturn, 1) := by decide +kernel
theorem dX10_canAccuse_0 : decode cX10_canAccuse 0 = .ok (.aload_n 0, 1) := by decide +kernel
theorem dX10_canAccuse_1 : decode cX10_canAccuse 1 = .ok (.iload_n 1, 1) := by decide +kernel
theorem dX10_canAccuse_2 : decode cX10_canAccuse 2 = .ok (.invokevirtual 261, 3) := by decide +kernel
theorem dX10_canAccuse_5 : decode cX10_canAccuse 5 = .ok (.astore_n 3, 1) := by decide +kernel
theorem dX10_canAccuse_6 : decode cX10_canAccuse 6 = .ok (.aload_n 0, 1) := by decide +kernel
theorem dX10_canAccuse_7 : decode cX10_canAccuse 7 = .ok (.iload_n 2, 1) := by decide +kernel
theorem dX10_canAccuse_8 : decode cX10_canAccuse 8 = .ok (.invokevirtual 261, 3) := by decide +kernel
theorem dX10_canAccuse_11 : decode cX10_canAccuse 11 = .ok (.astore 4, 2) := by decide +kernel
theorem dX10_canAccuse_13 : decode cX10_canAccuse 13 = .ok (.iload_n 2, 1) := by decide +kernel
theorem dX10_canAccuse_14 : decode cX10_canAccuse 14 = .ok (.iload_n 1, 1) := by decide +kernel
theorem dX10_canAccuse_15 : decode cX10_canAccuse 15 = .ok (.if_icmp .ge 58, 3) := by decide +kernel
theorem dX10_canAccuse_18 : decode cX10_canAccuse 18 = .ok (.aload_n 3, 1) := by decide +kernel
theorem dX10_canAccuse_19 : decode cX10_canAccuse 19 = .ok (.getfield 290, 3) := by decide +kernel
theorem dX10_canAccuse_22 : decode cX10_canAccuse 22 = .ok (.aload 4, 2) := by decide +kernel
theorem dX10_canAccuse_24 : decode cX10_canAccuse 24 = .ok (.getfield 290, 3) := by decide +kernel
theorem dX10_canAccuse_27 : decode cX10_canAccuse 27 = .ok (.if_icmp .eq 46, 3) := by decide +kernel
theorem dX10_canAccuse_30 : decode cX10_canAccuse 30 = .ok (.aload_n 3, 1) := by decide +kernel
theorem dX10_canAccuse_31 : decode cX10_canAccuse 31 = .ok (.getfield 210, 3) := by decide +kernel
theorem dX10_canAccuse_34 : decode cX10_canAccuse 34 = .ok (.getfield 214, 3) := by decide +kernel
theorem dX10_canAccuse_37 : decode cX10_canAccuse 37 = .ok (.aload 4, 2) := by decide +kernel
theorem dX10_canAccuse_39 : decode cX10_canAccuse 39 = .ok (.getfield 210, 3) := by decide +kernel
theorem dX10_canAccuse_42 : decode cX10_canAccuse 42 = .ok (.getfield 214, 3) := by decide +kernel
theorem dX10_canAccuse_45 : decode cX10_canAccuse 45 = .ok (.if_icmp .ne 28, 3) := by decide +kernel
theorem dX10_canAccuse_48 : decode cX10_canAccuse 48 = .ok (.aload_n 0, 1) := by decide +kernel
theorem dX10_canAccuse_49 : decode cX10_canAccuse 49 = .ok (.iload_n 1, 1) := by decide +kernel
theorem dX10_canAccuse_50 : decode cX10_canAccuse 50 = .ok (.iload_n 2, 1) := by decide +kernel
theorem dX10_canAccuse_51 : decode cX10_canAccuse 51 = .ok (.invokevirtual 305, 3) := by decide +kernel
theorem dX10_canAccuse_54 : decode cX10_canAccuse 54 = .ok (.bipush 80, 2) := by decide +kernel
theorem dX10_canAccuse_56 : decode cX10_canAccuse 56 = .ok (.if_icmp .lt 17, 3) := by decide +kernel
theorem dX10_canAccuse_59 : decode cX10_canAccuse 59 = .ok (.aload_n 0, 1) := by decide +kernel
theorem dX10_canAccuse_60 : decode cX10_canAccuse 60 = .ok (.iload_n 1, 1) := by decide +kernel
theorem dX10_canAccuse_61 : decode cX10_canAccuse 61 = .ok (.iload_n 2, 1) := by decide +kernel
theorem dX10_canAccuse_62 : decode cX10_canAccuse 62 = .ok (.invokevirtual 302, 3) := by decide +kernel
theorem dX10_canAccuse_65 : decode cX10_canAccuse 65 = .ok (.iconst 3, 1) := by decide +kernel
theorem dX10_canAccuse_66 : decode cX10_canAccuse 66 = .ok (.if_icmp .lt 7, 3) := by decide +kernel
theorem dX10_canAccuse_69 : decode cX10_canAccuse 69 = .ok (.iconst 1, 1) := by decide +kernel
theorem dX10_canAccuse_70 : decode cX10_canAccuse 70 = .ok (.goto 4, 3) := by decide +kernel
theorem dX10_canAccuse_73 : decode cX10_canAccuse 73 = .ok (.iconst 0, 1) := by decide +kernel
theorem dX10_canAccuse_74 : decode cX10_canAccuse 74 = .ok (.ireturn, 1) := by decide +kernel
theorem dJ9_max_7cf53_0 : decode cJ9_max_7cf53 0 = .ok (.iload_n 0, 1) := by decide +kernel
theorem dJ9_max_7cf53_1 : decode cJ9_max_7cf53 1 = .ok (.iload_n 1, 1) := by decide +kernel
theorem dJ9_max_7cf53_2 : decode cJ9_max_7cf53 2 = .ok (.if_icmp .lt 7, 3) := by decide +kernel
theorem dJ9_max_7cf53_5 : decode cJ9_max_7cf53 5 = .ok (.iload_n 0, 1) := by decide +kernel
theorem dJ9_max_7cf53_6 : decode cJ9_max_7cf53 6 = .ok (.goto 4, 3) := by decide +kernel
theorem dJ9_max_7cf53_9 : decode cJ9_max_7cf53 9 = .ok (.iload_n 1, 1) := by decide +kernel
theorem dJ9_max_7cf53_10 : decode cJ9_max_7cf53 10 = .ok (.ireturn, 1) := by decide +kernel
theorem dJ9_min_7cf53_0 : decode cJ9_min_7cf53 0 = .ok (.iload_n 0, 1) := by decide +kernel
theorem dJ9_min_7cf53_1 : decode cJ9_min_7cf53 1 = .ok (.iload_n 1, 1) := by decide +kernel
theorem dJ9_min_7cf53_2 : decode cJ9_min_7cf53 2 = .ok (.if_icmp .gt 7, 3) := by decide +kernel
theorem dJ9_min_7cf53_5 : decode cJ9_min_7cf53 5 = .ok (.iload_n 0, 1) := by decide +kernel
theorem dJ9_min_7cf53_6 : decode cJ9_min_7cf53 6 = .ok (.goto 4, 3) := by decide +kernel
theorem dJ9_min_7cf53_9 : decode cJ9_min_7cf53 9 = .ok (.iload_n 1, 1) := by decide +kernel
theorem dJ9_min_7cf53_10 : decode cJ9_min_7cf53 10 = .ok (.ireturn, 1) := by decide +kernel
theorem dJ9_min_f86c9_0 : decode cJ9_min_f86c9 0 = .ok (.lload_n 0, 1) := by decide +kernel
theorem dJ9_min_f86c9_1 : decode cJ9_min_f86c9 1 = .ok (.lload_n 2, 1) := by decide +kernel
theorem dJ9_min_f86c9_2 : decode cJ9_min_f86c9 2 = .ok (.lcmp, 1) := by decide +kernel
theorem dJ9_min_f86c9_3 : decode cJ9_min_f86c9 3 = .ok (.ifCond .gt 7, 3) := by decide +kernel
theorem dJ9_min_f86c9_6 : decode cJ9_min_f86c9 6 = .ok (.lload_n 0, 1) := by decide +kernel
theorem dJ9_min_f86c9_7 : decode cJ9_min_f86c9 7 = .ok (.goto 4, 3) := by decide +kernel
theorem dJ9_min_f86c9_10 : decode cJ9_min_f86c9 10 = .ok (.lload_n 2, 1) := by decide +kernel
theorem dJ9_min_f86c9_11 : decode cJ9_min_f86c9 11 = .ok (.lreturn, 1) := by decide +kernel
theorem dJ0_length_8abf5_0 : decode cJ0_length_8abf5 0 = .ok (.aload_n 0, 1) := by decide +kernel
theorem dJ0_length_8abf5_1 : decode cJ0_length_8abf5 1 = .ok (.getfield 9, 3) := by decide +kernel
theorem dJ0_length_8abf5_4 : decode cJ0_length_8abf5 4 = .ok (.arraylength, 1) := by decide +kernel
theorem dJ0_length_8abf5_5 : decode cJ0_length_8abf5 5 = .ok (.aload_n 0, 1) := by decide +kernel
theorem dJ0_length_8abf5_6 : decode cJ0_length_8abf5 6 = .ok (.invokevirtual 335, 3) := by decide +kernel
theorem dJ0_length_8abf5_9 : decode cJ0_length_8abf5 9 = .ok (.ishr, 1) := by decide +kernel
theorem dJ0_length_8abf5_10 : decode cJ0_length_8abf5 10 = .ok (.ireturn, 1) := by decide +kernel
theorem dJ0_charAt_5068e_0 : decode cJ0_charAt_5068e 0 = .ok (.aload_n 0, 1) := by decide +kernel
theorem dJ0_charAt_5068e_1 : decode cJ0_charAt_5068e 1 = .ok (.invokevirtual 492, 3) := by decide +kernel
theorem dJ0_charAt_5068e_4 : decode cJ0_charAt_5068e 4 = .ok (.ifCond .eq 12, 3) := by decide +kernel
theorem dJ0_charAt_5068e_7 : decode cJ0_charAt_5068e 7 = .ok (.aload_n 0, 1) := by decide +kernel
theorem dJ0_charAt_5068e_8 : decode cJ0_charAt_5068e 8 = .ok (.getfield 9, 3) := by decide +kernel
theorem dJ0_charAt_5068e_11 : decode cJ0_charAt_5068e 11 = .ok (.iload_n 1, 1) := by decide +kernel
theorem dJ0_charAt_5068e_12 : decode cJ0_charAt_5068e 12 = .ok (.invokestatic 495, 3) := by decide +kernel
theorem dJ0_charAt_5068e_15 : decode cJ0_charAt_5068e 15 = .ok (.ireturn, 1) := by decide +kernel
theorem dJ0_charAt_5068e_16 : decode cJ0_charAt_5068e 16 = .ok (.aload_n 0, 1) := by decide +kernel
theorem dJ0_charAt_5068e_17 : decode cJ0_charAt_5068e 17 = .ok (.getfield 9, 3) := by decide +kernel
theorem dJ0_charAt_5068e_20 : decode cJ0_charAt_5068e 20 = .ok (.iload_n 1, 1) := by decide +kernel
theorem dJ0_charAt_5068e_21 : decode cJ0_charAt_5068e 21 = .ok (.invokestatic 498, 3) := by decide +kernel
theorem dJ0_charAt_5068e_24 : decode cJ0_charAt_5068e 24 = .ok (.ireturn, 1) := by decide +kernel
theorem dJ0_coder_7d493_0 : decode cJ0_coder_7d493 0 = .ok (.getstatic 38, 3) := by decide +kernel
theorem dJ0_coder_7d493_3 : decode cJ0_coder_7d493 3 = .ok (.ifCond .eq 10, 3) := by decide +kernel
theorem dJ0_coder_7d493_6 : decode cJ0_coder_7d493 6 = .ok (.aload_n 0, 1) := by decide +kernel
theorem dJ0_coder_7d493_7 : decode cJ0_coder_7d493 7 = .ok (.getfield 15, 3) := by decide +kernel
theorem dJ0_coder_7d493_10 : decode cJ0_coder_7d493 10 = .ok (.goto 4, 3) := by decide +kernel
theorem dJ0_coder_7d493_13 : decode cJ0_coder_7d493 13 = .ok (.iconst 1, 1) := by decide +kernel
theorem dJ0_coder_7d493_14 : decode cJ0_coder_7d493 14 = .ok (.ireturn, 1) := by decide +kernel
theorem dJ0_isLatin1_aae02_0 : decode cJ0_isLatin1_aae02 0 = .ok (.getstatic 38, 3) := by decide +kernel
theorem dJ0_isLatin1_aae02_3 : decode cJ0_isLatin1_aae02 3 = .ok (.ifCond .eq 14, 3) := by decide +kernel
theorem dJ0_isLatin1_aae02_6 : decode cJ0_isLatin1_aae02 6 = .ok (.aload_n 0, 1) := by decide +kernel
theorem dJ0_isLatin1_aae02_7 : decode cJ0_isLatin1_aae02 7 = .ok (.getfield 15, 3) := by decide +kernel
theorem dJ0_isLatin1_aae02_10 : decode cJ0_isLatin1_aae02 10 = .ok (.ifCond .ne 7, 3) := by decide +kernel
theorem dJ0_isLatin1_aae02_13 : decode cJ0_isLatin1_aae02 13 = .ok (.iconst 1, 1) := by decide +kernel
theorem dJ0_isLatin1_aae02_14 : decode cJ0_isLatin1_aae02 14 = .ok (.goto 4, 3) := by decide +kernel
theorem dJ0_isLatin1_aae02_17 : decode cJ0_isLatin1_aae02 17 = .ok (.iconst 0, 1) := by decide +kernel
theorem dJ0_isLatin1_aae02_18 : decode cJ0_isLatin1_aae02 18 = .ok (.ireturn, 1) := by decide +kernel
theorem dJ0_checkIndex_df160_0 : decode cJ0_checkIndex_df160 0 = .ok (.iload_n 0, 1) := by decide +kernel
theorem dJ0_checkIndex_df160_1 : decode cJ0_checkIndex_df160 1 = .ok (.iload_n 1, 1) := by decide +kernel
theorem dJ0_checkIndex_df160_2 : decode cJ0_checkIndex_df160 2 = .ok (.getstatic 1053, 3) := by decide +kernel
theorem dJ0_checkIndex_df160_5 : decode cJ0_checkIndex_df160 5 = .ok (.invokestatic 1059, 3) := by decide +kernel
theorem dJ0_checkIndex_df160_8 : decode cJ0_checkIndex_df160 8 = .ok (.pop, 1) := by decide +kernel
theorem dJ0_checkIndex_df160_9 : decode cJ0_checkIndex_df160 9 = .ok (.return_, 1) := by decide +kernel
theorem dJ1_charAt_3b067_0 : decode cJ1_charAt_3b067 0 = .ok (.iload_n 1, 1) := by decide +kernel
theorem dJ1_charAt_3b067_1 : decode cJ1_charAt_3b067 1 = .ok (.aload_n 0, 1) := by decide +kernel
theorem dJ1_charAt_3b067_2 : decode cJ1_charAt_3b067 2 = .ok (.arraylength, 1) := by decide +kernel
theorem dJ1_charAt_3b067_3 : decode cJ1_charAt_3b067 3 = .ok (.invokestatic 9, 3) := by decide +kernel
theorem dJ1_charAt_3b067_6 : decode cJ1_charAt_3b067 6 = .ok (.aload_n 0, 1) := by decide +kernel
theorem dJ1_charAt_3b067_7 : decode cJ1_charAt_3b067 7 = .ok (.iload_n 1, 1) := by decide +kernel
theorem dJ1_charAt_3b067_8 : decode cJ1_charAt_3b067 8 = .ok (.baload, 1) := by decide +kernel
theorem dJ1_charAt_3b067_9 : decode cJ1_charAt_3b067 9 = .ok (.sipush 255, 3) := by decide +kernel
theorem dJ1_charAt_3b067_12 : decode cJ1_charAt_3b067 12 = .ok (.iand, 1) := by decide +kernel
theorem dJ1_charAt_3b067_13 : decode cJ1_charAt_3b067 13 = .ok (.i2c, 1) := by decide +kernel
theorem dJ1_charAt_3b067_14 : decode cJ1_charAt_3b067 14 = .ok (.ireturn, 1) := by decide +kernel
theorem dJ2_getChar_3b067_0 : decode cJ2_getChar_3b067 0 = .ok (.getstatic 44, 3) := by decide +kernel
theorem dJ2_getChar_3b067_3 : decode cJ2_getChar_3b067 3 = .ok (.ifCond .ne 25, 3) := by decide +kernel
theorem dJ2_getChar_3b067_6 : decode cJ2_getChar_3b067 6 = .ok (.iload_n 1, 1) := by decide +kernel
theorem dJ2_getChar_3b067_7 : decode cJ2_getChar_3b067 7 = .ok (.ifCond .lt 11, 3) := by decide +kernel
theorem dJ2_getChar_3b067_10 : decode cJ2_getChar_3b067 10 = .ok (.iload_n 1, 1) := by decide +kernel
theorem dJ2_getChar_3b067_11 : decode cJ2_getChar_3b067 11 = .ok (.aload_n 0, 1) := by decide +kernel
theorem dJ2_getChar_3b067_12 : decode cJ2_getChar_3b067 12 = .ok (.invokestatic 48, 3) := by decide +kernel
theorem dJ2_getChar_3b067_15 : decode cJ2_getChar_3b067 15 = .ok (.if_icmp .lt 13, 3) := by decide +kernel
theorem dJ2_getChar_3b067_18 : decode cJ2_getChar_3b067 18 = .ok (.new 52, 3) := by decide +kernel
theorem dJ2_getChar_3b067_21 : decode cJ2_getChar_3b067 21 = .ok (.dup, 1) := by decide +kernel
theorem dJ2_getChar_3b067_22 : decode cJ2_getChar_3b067 22 = .ok (.ldc 54, 2) := by decide +kernel
theorem dJ2_getChar_3b067_24 : decode cJ2_getChar_3b067 24 = .ok (.invokespecial 56, 3) := by decide +kernel
theorem dJ2_getChar_3b067_27 : decode cJ2_getChar_3b067 27 = .ok (.athrow, 1) := by decide +kernel
theorem dJ2_getChar_3b067_28 : decode cJ2_getChar_3b067 28 = .ok (.iload_n 1, 1) := by decide +kernel
theorem dJ2_getChar_3b067_29 : decode cJ2_getChar_3b067 29 = .ok (.iconst 1, 1) := by decide +kernel
theorem dJ2_getChar_3b067_30 : decode cJ2_getChar_3b067 30 = .ok (.ishl, 1) := by decide +kernel
theorem dJ2_getChar_3b067_31 : decode cJ2_getChar_3b067 31 = .ok (.istore_n 1, 1) := by decide +kernel
theorem dJ2_getChar_3b067_32 : decode cJ2_getChar_3b067 32 = .ok (.aload_n 0, 1) := by decide +kernel
theorem dJ2_getChar_3b067_33 : decode cJ2_getChar_3b067 33 = .ok (.iload_n 1, 1) := by decide +kernel
theorem dJ2_getChar_3b067_34 : decode cJ2_getChar_3b067 34 = .ok (.iinc 1 1, 3) := by decide +kernel
theorem dJ2_getChar_3b067_37 : decode cJ2_getChar_3b067 37 = .ok (.baload, 1) := by decide +kernel
theorem dJ2_getChar_3b067_38 : decode cJ2_getChar_3b067 38 = .ok (.sipush 255, 3) := by decide +kernel
theorem dJ2_getChar_3b067_41 : decode cJ2_getChar_3b067 41 = .ok (.iand, 1) := by decide +kernel
theorem dJ2_getChar_3b067_42 : decode cJ2_getChar_3b067 42 = .ok (.getstatic 59, 3) := by decide +kernel
theorem dJ2_getChar_3b067_45 : decode cJ2_getChar_3b067 45 = .ok (.ishl, 1) := by decide +kernel
theorem dJ2_getChar_3b067_46 : decode cJ2_getChar_3b067 46 = .ok (.aload_n 0, 1) := by decide +kernel
theorem dJ2_getChar_3b067_47 : decode cJ2_getChar_3b067 47 = .ok (.iload_n 1, 1) := by decide +kernel
theorem dJ2_getChar_3b067_48 : decode cJ2_getChar_3b067 48 = .ok (.baload, 1) := by decide +kernel
theorem dJ2_getChar_3b067_49 : decode cJ2_getChar_3b067 49 = .ok (.sipush 255, 3) := by decide +kernel
theorem dJ2_getChar_3b067_52 : decode cJ2_getChar_3b067 52 = .ok (.iand, 1) := by decide +kernel
theorem dJ2_getChar_3b067_53 : decode cJ2_getChar_3b067 53 = .ok (.getstatic 63, 3) := by decide +kernel
theorem dJ2_getChar_3b067_56 : decode cJ2_getChar_3b067 56 = .ok (.ishl, 1) := by decide +kernel
theorem dJ2_getChar_3b067_57 : decode cJ2_getChar_3b067 57 = .ok (.ior, 1) := by decide +kernel
theorem dJ2_getChar_3b067_58 : decode cJ2_getChar_3b067 58 = .ok (.i2c, 1) := by decide +kernel
theorem dJ2_getChar_3b067_59 : decode cJ2_getChar_3b067 59 = .ok (.ireturn, 1) := by decide +kernel
theorem dJ2_length_9d52b_0 : decode cJ2_length_9d52b 0 = .ok (.aload_n 0, 1) := by decide +kernel
theorem dJ2_length_9d52b_1 : decode cJ2_length_9d52b 1 = .ok (.arraylength, 1) := by decide +kernel
theorem dJ2_length_9d52b_2 : decode cJ2_length_9d52b 2 = .ok (.iconst 1, 1) := by decide +kernel
theorem dJ2_length_9d52b_3 : decode cJ2_length_9d52b 3 = .ok (.ishr, 1) := by decide +kernel
theorem dJ2_length_9d52b_4 : decode cJ2_length_9d52b 4 = .ok (.ireturn, 1) := by decide +kernel
theorem dJ2_charAt_3b067_0 : decode cJ2_charAt_3b067 0 = .ok (.iload_n 1, 1) := by decide +kernel
theorem dJ2_charAt_3b067_1 : decode cJ2_charAt_3b067 1 = .ok (.aload_n 0, 1) := by decide +kernel
theorem dJ2_charAt_3b067_2 : decode cJ2_charAt_3b067 2 = .ok (.invokestatic 67, 3) := by decide +kernel
theorem dJ2_charAt_3b067_5 : decode cJ2_charAt_3b067 5 = .ok (.aload_n 0, 1) := by decide +kernel
theorem dJ2_charAt_3b067_6 : decode cJ2_charAt_3b067 6 = .ok (.iload_n 1, 1) := by decide +kernel
theorem dJ2_charAt_3b067_7 : decode cJ2_charAt_3b067 7 = .ok (.invokestatic 71, 3) := by decide +kernel
theorem dJ2_charAt_3b067_10 : decode cJ2_charAt_3b067 10 = .ok (.ireturn, 1) := by decide +kernel
theorem dJ2_checkIndex_2214a_0 : decode cJ2_checkIndex_2214a 0 = .ok (.iload_n 0, 1) := by decide +kernel
theorem dJ2_checkIndex_2214a_1 : decode cJ2_checkIndex_2214a 1 = .ok (.aload_n 1, 1) := by decide +kernel
theorem dJ2_checkIndex_2214a_2 : decode cJ2_checkIndex_2214a 2 = .ok (.invokestatic 48, 3) := by decide +kernel
theorem dJ2_checkIndex_2214a_5 : decode cJ2_checkIndex_2214a 5 = .ok (.invokestatic 414, 3) := by decide +kernel
theorem dJ2_checkIndex_2214a_8 : decode cJ2_checkIndex_2214a 8 = .ok (.return_, 1) := by decide +kernel
theorem dJxa1e45_init_da8c8_0 : decode cJxa1e45_init_da8c8 0 = .ok (.aload_n 0, 1) := by decide +kernel
theorem dJxa1e45_init_da8c8_1 : decode cJxa1e45_init_da8c8 1 = .ok (.invokespecial 1, 3) := by decide +kernel
theorem dJxa1e45_init_da8c8_4 : decode cJxa1e45_init_da8c8 4 = .ok (.return_, 1) := by decide +kernel
theorem dJxc12de_init_da8c8_0 : decode cJxc12de_init_da8c8 0 = .ok (.aload_n 0, 1) := by decide +kernel
theorem dJxc12de_init_da8c8_1 : decode cJxc12de_init_da8c8 1 = .ok (.invokespecial 1, 3) := by decide +kernel
theorem dJxc12de_init_da8c8_4 : decode cJxc12de_init_da8c8 4 = .ok (.aload_n 0, 1) := by decide +kernel
theorem dJxc12de_init_da8c8_5 : decode cJxc12de_init_da8c8 5 = .ok (.iconst 0, 1) := by decide +kernel
theorem dJxc12de_init_da8c8_6 : decode cJxc12de_init_da8c8 6 = .ok (.putfield 7, 3) := by decide +kernel
theorem dJxc12de_init_da8c8_9 : decode cJxc12de_init_da8c8 9 = .ok (.return_, 1) := by decide +kernel
theorem dJx4a65c_init_da8c8_0 : decode cJx4a65c_init_da8c8 0 = .ok (.aload_n 0, 1) := by decide +kernel
theorem dJx4a65c_init_da8c8_1 : decode cJx4a65c_init_da8c8 1 = .ok (.invokespecial 1, 3) := by decide +kernel
theorem dJx4a65c_init_da8c8_4 : decode cJx4a65c_init_da8c8 4 = .ok (.aload_n 0, 1) := by decide +kernel
theorem dJx4a65c_init_da8c8_5 : decode cJx4a65c_init_da8c8 5 = .ok (.getstatic 39, 3) := by decide +kernel
theorem dJx4a65c_init_da8c8_8 : decode cJx4a65c_init_da8c8 8 = .ok (.putfield 9, 3) := by decide +kernel
theorem dJx4a65c_init_da8c8_11 : decode cJx4a65c_init_da8c8 11 = .ok (.return_, 1) := by decide +kernel
theorem dJx4a65c_grow_92f84_0 : decode cJx4a65c_grow_92f84 0 = .ok (.aload_n 0, 1) := by decide +kernel
theorem dJx4a65c_grow_92f84_1 : decode cJx4a65c_grow_92f84 1 = .ok (.getfield 9, 3) := by decide +kernel
theorem dJx4a65c_grow_92f84_4 : decode cJx4a65c_grow_92f84 4 = .ok (.arraylength, 1) := by decide +kernel
theorem dJx4a65c_grow_92f84_5 : decode cJx4a65c_grow_92f84 5 = .ok (.istore_n 2, 1) := by decide +kernel
theorem dJx4a65c_grow_92f84_6 : decode cJx4a65c_grow_92f84 6 = .ok (.iload_n 2, 1) := by decide +kernel
theorem dJx4a65c_grow_92f84_7 : decode cJx4a65c_grow_92f84 7 = .ok (.ifCond .gt 13, 3) := by decide +kernel
theorem dJx4a65c_grow_92f84_10 : decode cJx4a65c_grow_92f84 10 = .ok (.aload_n 0, 1) := by decide +kernel
theorem dJx4a65c_grow_92f84_11 : decode cJx4a65c_grow_92f84 11 = .ok (.getfield 9, 3) := by decide +kernel
theorem dJx4a65c_grow_92f84_14 : decode cJx4a65c_grow_92f84 14 = .ok (.getstatic 39, 3) := by decide +kernel
theorem dJx4a65c_grow_92f84_17 : decode cJx4a65c_grow_92f84 17 = .ok (.if_acmp .eq 28, 3) := by decide +kernel
theorem dJx4a65c_grow_92f84_20 : decode cJx4a65c_grow_92f84 20 = .ok (.iload_n 2, 1) := by decide +kernel
theorem dJx4a65c_grow_92f84_21 : decode cJx4a65c_grow_92f84 21 = .ok (.iload_n 1, 1) := by decide +kernel
theorem dJx4a65c_grow_92f84_22 : decode cJx4a65c_grow_92f84 22 = .ok (.iload_n 2, 1) := by decide +kernel
theorem dJx4a65c_grow_92f84_23 : decode cJx4a65c_grow_92f84 23 = .ok (.isub, 1) := by decide +kernel
theorem dJx4a65c_grow_92f84_24 : decode cJx4a65c_grow_92f84 24 = .ok (.iload_n 2, 1) := by decide +kernel
theorem dJx4a65c_grow_92f84_25 : decode cJx4a65c_grow_92f84 25 = .ok (.iconst 1, 1) := by decide +kernel
theorem dJx4a65c_grow_92f84_26 : decode cJx4a65c_grow_92f84 26 = .ok (.ishr, 1) := by decide +kernel
theorem dJx4a65c_grow_92f84_27 : decode cJx4a65c_grow_92f84 27 = .ok (.invokestatic 73, 3) := by decide +kernel
theorem dJx4a65c_grow_92f84_30 : decode cJx4a65c_grow_92f84 30 = .ok (.istore_n 3, 1) := by decide +kernel
theorem dJx4a65c_grow_92f84_31 : decode cJx4a65c_grow_92f84 31 = .ok (.aload_n 0, 1) := by decide +kernel
theorem dJx4a65c_grow_92f84_32 : decode cJx4a65c_grow_92f84 32 = .ok (.aload_n 0, 1) := by decide +kernel
theorem dJx4a65c_grow_92f84_33 : decode cJx4a65c_grow_92f84 33 = .ok (.getfield 9, 3) := by decide +kernel
theorem dJx4a65c_grow_92f84_36 : decode cJx4a65c_grow_92f84 36 = .ok (.iload_n 3, 1) := by decide +kernel
theorem dJx4a65c_grow_92f84_37 : decode cJx4a65c_grow_92f84 37 = .ok (.invokestatic 66, 3) := by decide +kernel
theorem dJx4a65c_grow_92f84_40 : decode cJx4a65c_grow_92f84 40 = .ok (.dup_x1, 1) := by decide +kernel
theorem dJx4a65c_grow_92f84_41 : decode cJx4a65c_grow_92f84 41 = .ok (.putfield 9, 3) := by decide +kernel
theorem dJx4a65c_grow_92f84_44 : decode cJx4a65c_grow_92f84 44 = .ok (.areturn, 1) := by decide +kernel
theorem dJx4a65c_grow_92f84_45 : decode cJx4a65c_grow_92f84 45 = .ok (.aload_n 0, 1) := by decide +kernel
theorem dJx4a65c_grow_92f84_46 : decode cJx4a65c_grow_92f84 46 = .ok (.bipush 10, 2) := by decide +kernel
theorem dJx4a65c_grow_92f84_48 : decode cJx4a65c_grow_92f84 48 = .ok (.iload_n 1, 1) := by decide +kernel
theorem dJx4a65c_grow_92f84_49 : decode cJx4a65c_grow_92f84 49 = .ok (.invokestatic 79, 3) := by decide +kernel
theorem dJx4a65c_grow_92f84_52 : decode cJx4a65c_grow_92f84 52 = .ok (.anewarray 7, 3) := by decide +kernel
theorem dJx4a65c_grow_92f84_55 : decode cJx4a65c_grow_92f84 55 = .ok (.dup_x1, 1) := by decide +kernel
theorem dJx4a65c_grow_92f84_56 : decode cJx4a65c_grow_92f84 56 = .ok (.putfield 9, 3) := by decide +kernel
theorem dJx4a65c_grow_92f84_59 : decode cJx4a65c_grow_92f84 59 = .ok (.areturn, 1) := by decide +kernel
theorem dJx4a65c_grow_d5877_0 : decode cJx4a65c_grow_d5877 0 = .ok (.aload_n 0, 1) := by decide +kernel
theorem dJx4a65c_grow_d5877_1 : decode cJx4a65c_grow_d5877 1 = .ok (.aload_n 0, 1) := by decide +kernel
theorem dJx4a65c_grow_d5877_2 : decode cJx4a65c_grow_d5877 2 = .ok (.getfield 48, 3) := by decide +kernel
theorem dJx4a65c_grow_d5877_5 : decode cJx4a65c_grow_d5877 5 = .ok (.iconst 1, 1) := by decide +kernel
theorem dJx4a65c_grow_d5877_6 : decode cJx4a65c_grow_d5877 6 = .ok (.iadd, 1) := by decide +kernel
theorem dJx4a65c_grow_d5877_7 : decode cJx4a65c_grow_d5877 7 = .ok (.invokevirtual 69, 3) := by decide +kernel
theorem dJx4a65c_grow_d5877_10 : decode cJx4a65c_grow_d5877 10 = .ok (.areturn, 1) := by decide +kernel
theorem dJx4a65c_size_8abf5_0 : decode cJx4a65c_size_8abf5 0 = .ok (.aload_n 0, 1) := by decide +kernel
theorem dJx4a65c_size_8abf5_1 : decode cJx4a65c_size_8abf5 1 = .ok (.getfield 48, 3) := by decide +kernel
theorem dJx4a65c_size_8abf5_4 : decode cJx4a65c_size_8abf5 4 = .ok (.ireturn, 1) := by decide +kernel
theorem dJx4a65c_elementData_915e3_0 : decode cJx4a65c_elementData_915e3 0 = .ok (.aload_n 0, 1) := by decide +kernel
theorem dJx4a65c_elementData_915e3_1 : decode cJx4a65c_elementData_915e3 1 = .ok (.getfield 9, 3) := by decide +kernel
theorem dJx4a65c_elementData_915e3_4 : decode cJx4a65c_elementData_915e3 4 = .ok (.iload_n 1, 1) := by decide +kernel
theorem dJx4a65c_elementData_915e3_5 : decode cJx4a65c_elementData_915e3 5 = .ok (.aaload, 1) := by decide +kernel
theorem dJx4a65c_elementData_915e3_6 : decode cJx4a65c_elementData_915e3 6 = .ok (.areturn, 1) := by decide +kernel
theorem dJx4a65c_get_915e3_0 : decode cJx4a65c_get_915e3 0 = .ok (.iload_n 1, 1) := by decide +kernel
theorem dJx4a65c_get_915e3_1 : decode cJx4a65c_get_915e3 1 = .ok (.aload_n 0, 1) := by decide +kernel
theorem dJx4a65c_get_915e3_2 : decode cJx4a65c_get_915e3 2 = .ok (.getfield 48, 3) := by decide +kernel
theorem dJx4a65c_get_915e3_5 : decode cJx4a65c_get_915e3 5 = .ok (.invokestatic 118, 3) := by decide +kernel
theorem dJx4a65c_get_915e3_8 : decode cJx4a65c_get_915e3 8 = .ok (.pop, 1) := by decide +kernel
theorem dJx4a65c_get_915e3_9 : decode cJx4a65c_get_915e3 9 = .ok (.aload_n 0, 1) := by decide +kernel
theorem dJx4a65c_get_915e3_10 : decode cJx4a65c_get_915e3 10 = .ok (.iload_n 1, 1) := by decide +kernel
theorem dJx4a65c_get_915e3_11 : decode cJx4a65c_get_915e3 11 = .ok (.invokevirtual 123, 3) := by decide +kernel
theorem dJx4a65c_get_915e3_14 : decode cJx4a65c_get_915e3 14 = .ok (.areturn, 1) := by decide +kernel
theorem dJx4a65c_add_72be8_0 : decode cJx4a65c_add_72be8 0 = .ok (.iload_n 3, 1) := by decide +kernel
theorem dJx4a65c_add_72be8_1 : decode cJx4a65c_add_72be8 1 = .ok (.aload_n 2, 1) := by decide +kernel
theorem dJx4a65c_add_72be8_2 : decode cJx4a65c_add_72be8 2 = .ok (.arraylength, 1) := by decide +kernel
theorem dJx4a65c_add_72be8_3 : decode cJx4a65c_add_72be8 3 = .ok (.if_icmp .ne 8, 3) := by decide +kernel
theorem dJx4a65c_add_72be8_6 : decode cJx4a65c_add_72be8 6 = .ok (.aload_n 0, 1) := by decide +kernel
theorem dJx4a65c_add_72be8_7 : decode cJx4a65c_add_72be8 7 = .ok (.invokevirtual 129, 3) := by decide +kernel
theorem dJx4a65c_add_72be8_10 : decode cJx4a65c_add_72be8 10 = .ok (.astore_n 2, 1) := by decide +kernel
theorem dJx4a65c_add_72be8_11 : decode cJx4a65c_add_72be8 11 = .ok (.aload_n 2, 1) := by decide +kernel
theorem dJx4a65c_add_72be8_12 : decode cJx4a65c_add_72be8 12 = .ok (.iload_n 3, 1) := by decide +kernel
theorem dJx4a65c_add_72be8_13 : decode cJx4a65c_add_72be8 13 = .ok (.aload_n 1, 1) := by decide +kernel
theorem dJx4a65c_add_72be8_14 : decode cJx4a65c_add_72be8 14 = .ok (.aastore, 1) := by decide +kernel
theorem dJx4a65c_add_72be8_15 : decode cJx4a65c_add_72be8 15 = .ok (.aload_n 0, 1) := by decide +kernel
theorem dJx4a65c_add_72be8_16 : decode cJx4a65c_add_72be8 16 = .ok (.iload_n 3, 1) := by decide +kernel
theorem dJx4a65c_add_72be8_17 : decode cJx4a65c_add_72be8 17 = .ok (.iconst 1, 1) := by decide +kernel
theorem dJx4a65c_add_72be8_18 : decode cJx4a65c_add_72be8 18 = .ok (.iadd, 1) := by decide +kernel
theorem dJx4a65c_add_72be8_19 : decode cJx4a65c_add_72be8 19 = .ok (.putfield 48, 3) := by decide +kernel
theorem dJx4a65c_add_72be8_22 : decode cJx4a65c_add_72be8 22 = .ok (.return_, 1) := by decide +kernel
theorem dJx4a65c_add_9ea2d_0 : decode cJx4a65c_add_9ea2d 0 = .ok (.aload_n 0, 1) := by decide +kernel
theorem dJx4a65c_add_9ea2d_1 : decode cJx4a65c_add_9ea2d 1 = .ok (.dup, 1) := by decide +kernel
theorem dJx4a65c_add_9ea2d_2 : decode cJx4a65c_add_9ea2d 2 = .ok (.getfield 63, 3) := by decide +kernel
theorem dJx4a65c_add_9ea2d_5 : decode cJx4a65c_add_9ea2d 5 = .ok (.iconst 1, 1) := by decide +kernel
theorem dJx4a65c_add_9ea2d_6 : decode cJx4a65c_add_9ea2d 6 = .ok (.iadd, 1) := by decide +kernel
theorem dJx4a65c_add_9ea2d_7 : decode cJx4a65c_add_9ea2d 7 = .ok (.putfield 63, 3) := by decide +kernel
theorem dJx4a65c_add_9ea2d_10 : decode cJx4a65c_add_9ea2d 10 = .ok (.aload_n 0, 1) := by decide +kernel
theorem dJx4a65c_add_9ea2d_11 : decode cJx4a65c_add_9ea2d 11 = .ok (.aload_n 1, 1) := by decide +kernel
theorem dJx4a65c_add_9ea2d_12 : decode cJx4a65c_add_9ea2d 12 = .ok (.aload_n 0, 1) := by decide +kernel
theorem dJx4a65c_add_9ea2d_13 : decode cJx4a65c_add_9ea2d 13 = .ok (.getfield 9, 3) := by decide +kernel
theorem dJx4a65c_add_9ea2d_16 : decode cJx4a65c_add_9ea2d 16 = .ok (.aload_n 0, 1) := by decide +kernel
theorem dJx4a65c_add_9ea2d_17 : decode cJx4a65c_add_9ea2d 17 = .ok (.getfield 48, 3) := by decide +kernel
theorem dJx4a65c_add_9ea2d_20 : decode cJx4a65c_add_9ea2d 20 = .ok (.invokevirtual 131, 3) := by decide +kernel
theorem dJx4a65c_add_9ea2d_23 : decode cJx4a65c_add_9ea2d 23 = .ok (.iconst 1, 1) := by decide +kernel
theorem dJx4a65c_add_9ea2d_24 : decode cJx4a65c_add_9ea2d 24 = .ok (.ireturn, 1) := by decide +kernel
theorem dJ7_copyOf_1904c_0 : decode cJ7_copyOf_1904c 0 = .ok (.aload_n 0, 1) := by decide +kernel
theorem dJ7_copyOf_1904c_1 : decode cJ7_copyOf_1904c 1 = .ok (.iload_n 1, 1) := by decide +kernel
theorem dJ7_copyOf_1904c_2 : decode cJ7_copyOf_1904c 2 = .ok (.aload_n 0, 1) := by decide +kernel
theorem dJ7_copyOf_1904c_3 : decode cJ7_copyOf_1904c 3 = .ok (.invokevirtual 86, 3) := by decide +kernel
theorem dJ7_copyOf_1904c_6 : decode cJ7_copyOf_1904c 6 = .ok (.invokestatic 300, 3) := by decide +kernel
theorem dJ7_copyOf_1904c_9 : decode cJ7_copyOf_1904c 9 = .ok (.areturn, 1) := by decide +kernel
theorem dJ7_copyOf_6403c_0 : decode cJ7_copyOf_6403c 0 = .ok (.aload_n 2, 1) := by decide +kernel
theorem dJ7_copyOf_6403c_1 : decode cJ7_copyOf_6403c 1 = .ok (.ldc 110, 2) := by decide +kernel
theorem dJ7_copyOf_6403c_3 : decode cJ7_copyOf_6403c 3 = .ok (.if_acmp .ne 10, 3) := by decide +kernel
theorem dJ7_copyOf_6403c_6 : decode cJ7_copyOf_6403c 6 = .ok (.iload_n 1, 1) := by decide +kernel
theorem dJ7_copyOf_6403c_7 : decode cJ7_copyOf_6403c 7 = .ok (.anewarray 2, 3) := by decide +kernel
theorem dJ7_copyOf_6403c_10 : decode cJ7_copyOf_6403c 10 = .ok (.goto 14, 3) := by decide +kernel
theorem dJ7_copyOf_6403c_13 : decode cJ7_copyOf_6403c 13 = .ok (.aload_n 2, 1) := by decide +kernel
theorem dJ7_copyOf_6403c_14 : decode cJ7_copyOf_6403c 14 = .ok (.invokevirtual 90, 3) := by decide +kernel
theorem dJ7_copyOf_6403c_17 : decode cJ7_copyOf_6403c 17 = .ok (.iload_n 1, 1) := by decide +kernel
theorem dJ7_copyOf_6403c_18 : decode cJ7_copyOf_6403c 18 = .ok (.invokestatic 95, 3) := by decide +kernel
theorem dJ7_copyOf_6403c_21 : decode cJ7_copyOf_6403c 21 = .ok (.checkcast 110, 3) := by decide +kernel
theorem dJ7_copyOf_6403c_24 : decode cJ7_copyOf_6403c 24 = .ok (.astore_n 3, 1) := by decide +kernel
theorem dJ7_copyOf_6403c_25 : decode cJ7_copyOf_6403c 25 = .ok (.aload_n 0, 1) := by decide +kernel
theorem dJ7_copyOf_6403c_26 : decode cJ7_copyOf_6403c 26 = .ok (.iconst 0, 1) := by decide +kernel
theorem dJ7_copyOf_6403c_27 : decode cJ7_copyOf_6403c 27 = .ok (.aload_n 3, 1) := by decide +kernel
theorem dJ7_copyOf_6403c_28 : decode cJ7_copyOf_6403c 28 = .ok (.iconst 0, 1) := by decide +kernel
theorem dJ7_copyOf_6403c_29 : decode cJ7_copyOf_6403c 29 = .ok (.aload_n 0, 1) := by decide +kernel
theorem dJ7_copyOf_6403c_30 : decode cJ7_copyOf_6403c 30 = .ok (.arraylength, 1) := by decide +kernel
theorem dJ7_copyOf_6403c_31 : decode cJ7_copyOf_6403c 31 = .ok (.iload_n 1, 1) := by decide +kernel
theorem dJ7_copyOf_6403c_32 : decode cJ7_copyOf_6403c 32 = .ok (.invokestatic 304, 3) := by decide +kernel
theorem dJ7_copyOf_6403c_35 : decode cJ7_copyOf_6403c 35 = .ok (.invokestatic 150, 3) := by decide +kernel
theorem dJ7_copyOf_6403c_38 : decode cJ7_copyOf_6403c 38 = .ok (.aload_n 3, 1) := by decide +kernel
theorem dJ7_copyOf_6403c_39 : decode cJ7_copyOf_6403c 39 = .ok (.areturn, 1) := by decide +kernel
theorem dJ15_checkIndex_7cf53_0 : decode cJ15_checkIndex_7cf53 0 = .ok (.iload_n 0, 1) := by decide +kernel
theorem dJ15_checkIndex_7cf53_1 : decode cJ15_checkIndex_7cf53 1 = .ok (.iload_n 1, 1) := by decide +kernel
theorem dJ15_checkIndex_7cf53_2 : decode cJ15_checkIndex_7cf53 2 = .ok (.aconst_null, 1) := by decide +kernel
theorem dJ15_checkIndex_7cf53_3 : decode cJ15_checkIndex_7cf53 3 = .ok (.invokestatic 105, 3) := by decide +kernel
theorem dJ15_checkIndex_7cf53_6 : decode cJ15_checkIndex_7cf53 6 = .ok (.ireturn, 1) := by decide +kernel
theorem dJ8_newLength_cabcc_0 : decode cJ8_newLength_cabcc 0 = .ok (.iload_n 0, 1) := by decide +kernel
theorem dJ8_newLength_cabcc_1 : decode cJ8_newLength_cabcc 1 = .ok (.iload_n 1, 1) := by decide +kernel
theorem dJ8_newLength_cabcc_2 : decode cJ8_newLength_cabcc 2 = .ok (.iload_n 2, 1) := by decide +kernel
theorem dJ8_newLength_cabcc_3 : decode cJ8_newLength_cabcc 3 = .ok (.invokestatic 194, 3) := by decide +kernel
theorem dJ8_newLength_cabcc_6 : decode cJ8_newLength_cabcc 6 = .ok (.iadd, 1) := by decide +kernel
theorem dJ8_newLength_cabcc_7 : decode cJ8_newLength_cabcc 7 = .ok (.istore_n 3, 1) := by decide +kernel
theorem dJ8_newLength_cabcc_8 : decode cJ8_newLength_cabcc 8 = .ok (.iconst 0, 1) := by decide +kernel
theorem dJ8_newLength_cabcc_9 : decode cJ8_newLength_cabcc 9 = .ok (.iload_n 3, 1) := by decide +kernel
theorem dJ8_newLength_cabcc_10 : decode cJ8_newLength_cabcc 10 = .ok (.if_icmp .ge 11, 3) := by decide +kernel
theorem dJ8_newLength_cabcc_13 : decode cJ8_newLength_cabcc 13 = .ok (.iload_n 3, 1) := by decide +kernel
theorem dJ8_newLength_cabcc_14 : decode cJ8_newLength_cabcc 14 = .ok (.ldc 200, 2) := by decide +kernel
theorem dJ8_newLength_cabcc_16 : decode cJ8_newLength_cabcc 16 = .ok (.if_icmp .gt 5, 3) := by decide +kernel
theorem dJ8_newLength_cabcc_19 : decode cJ8_newLength_cabcc 19 = .ok (.iload_n 3, 1) := by decide +kernel
theorem dJ8_newLength_cabcc_20 : decode cJ8_newLength_cabcc 20 = .ok (.ireturn, 1) := by decide +kernel
theorem dJ8_newLength_cabcc_21 : decode cJ8_newLength_cabcc 21 = .ok (.iload_n 0, 1) := by decide +kernel
theorem dJ8_newLength_cabcc_22 : decode cJ8_newLength_cabcc 22 = .ok (.iload_n 1, 1) := by decide +kernel
theorem dJ8_newLength_cabcc_23 : decode cJ8_newLength_cabcc 23 = .ok (.invokestatic 201, 3) := by decide +kernel
theorem dJ8_newLength_cabcc_26 : decode cJ8_newLength_cabcc 26 = .ok (.ireturn, 1) := by decide +kernel
theorem dJ8_hugeLength_7cf53_0 : decode cJ8_hugeLength_7cf53 0 = .ok (.iload_n 0, 1) := by decide +kernel
theorem dJ8_hugeLength_7cf53_1 : decode cJ8_hugeLength_7cf53 1 = .ok (.iload_n 1, 1) := by decide +kernel
theorem dJ8_hugeLength_7cf53_2 : decode cJ8_hugeLength_7cf53 2 = .ok (.iadd, 1) := by decide +kernel
theorem dJ8_hugeLength_7cf53_3 : decode cJ8_hugeLength_7cf53 3 = .ok (.istore_n 2, 1) := by decide +kernel
theorem dJ8_hugeLength_7cf53_4 : decode cJ8_hugeLength_7cf53 4 = .ok (.iload_n 2, 1) := by decide +kernel
theorem dJ8_hugeLength_7cf53_5 : decode cJ8_hugeLength_7cf53 5 = .ok (.ifCond .ge 44, 3) := by decide +kernel
theorem dJ8_hugeLength_7cf53_8 : decode cJ8_hugeLength_7cf53 8 = .ok (.new 204, 3) := by decide +kernel
theorem dJ8_hugeLength_7cf53_11 : decode cJ8_hugeLength_7cf53 11 = .ok (.dup, 1) := by decide +kernel
theorem dJ8_hugeLength_7cf53_12 : decode cJ8_hugeLength_7cf53 12 = .ok (.new 89, 3) := by decide +kernel
theorem dJ8_hugeLength_7cf53_15 : decode cJ8_hugeLength_7cf53 15 = .ok (.dup, 1) := by decide +kernel
theorem dJ8_hugeLength_7cf53_16 : decode cJ8_hugeLength_7cf53 16 = .ok (.invokespecial 91, 3) := by decide +kernel
theorem dJ8_hugeLength_7cf53_19 : decode cJ8_hugeLength_7cf53 19 = .ok (.ldc 206, 2) := by decide +kernel
theorem dJ8_hugeLength_7cf53_21 : decode cJ8_hugeLength_7cf53 21 = .ok (.invokevirtual 94, 3) := by decide +kernel
theorem dJ8_hugeLength_7cf53_24 : decode cJ8_hugeLength_7cf53 24 = .ok (.iload_n 0, 1) := by decide +kernel
theorem dJ8_hugeLength_7cf53_25 : decode cJ8_hugeLength_7cf53 25 = .ok (.invokevirtual 98, 3) := by decide +kernel
theorem dJ8_hugeLength_7cf53_28 : decode cJ8_hugeLength_7cf53 28 = .ok (.ldc 208, 2) := by decide +kernel
theorem dJ8_hugeLength_7cf53_30 : decode cJ8_hugeLength_7cf53 30 = .ok (.invokevirtual 94, 3) := by decide +kernel
theorem dJ8_hugeLength_7cf53_33 : decode cJ8_hugeLength_7cf53 33 = .ok (.iload_n 1, 1) := by decide +kernel
theorem dJ8_hugeLength_7cf53_34 : decode cJ8_hugeLength_7cf53 34 = .ok (.invokevirtual 98, 3) := by decide +kernel
theorem dJ8_hugeLength_7cf53_37 : decode cJ8_hugeLength_7cf53 37 = .ok (.ldc 210, 2) := by decide +kernel
theorem dJ8_hugeLength_7cf53_39 : decode cJ8_hugeLength_7cf53 39 = .ok (.invokevirtual 94, 3) := by decide +kernel
theorem dJ8_hugeLength_7cf53_42 : decode cJ8_hugeLength_7cf53 42 = .ok (.invokevirtual 101, 3) := by decide +kernel
theorem dJ8_hugeLength_7cf53_45 : decode cJ8_hugeLength_7cf53 45 = .ok (.invokespecial 212, 3) := by decide +kernel
theorem dJ8_hugeLength_7cf53_48 : decode cJ8_hugeLength_7cf53 48 = .ok (.athrow, 1) := by decide +kernel
theorem dJ8_hugeLength_7cf53_49 : decode cJ8_hugeLength_7cf53 49 = .ok (.iload_n 2, 1) := by decide +kernel
theorem dJ8_hugeLength_7cf53_50 : decode cJ8_hugeLength_7cf53 50 = .ok (.ldc 200, 2) := by decide +kernel
theorem dJ8_hugeLength_7cf53_52 : decode cJ8_hugeLength_7cf53 52 = .ok (.if_icmp .gt 6, 3) := by decide +kernel
theorem dJ8_hugeLength_7cf53_55 : decode cJ8_hugeLength_7cf53 55 = .ok (.ldc 200, 2) := by decide +kernel
theorem dJ8_hugeLength_7cf53_57 : decode cJ8_hugeLength_7cf53 57 = .ok (.ireturn, 1) := by decide +kernel
theorem dJ8_hugeLength_7cf53_58 : decode cJ8_hugeLength_7cf53 58 = .ok (.iload_n 2, 1) := by decide +kernel
theorem dJ8_hugeLength_7cf53_59 : decode cJ8_hugeLength_7cf53 59 = .ok (.ireturn, 1) := by decide +kernel
theorem dJ3_checkIndex_8e157_0 : decode cJ3_checkIndex_8e157 0 = .ok (.iload_n 0, 1) := by decide +kernel
theorem dJ3_checkIndex_8e157_1 : decode cJ3_checkIndex_8e157 1 = .ok (.ifCond .lt 8, 3) := by decide +kernel
theorem dJ3_checkIndex_8e157_4 : decode cJ3_checkIndex_8e157 4 = .ok (.iload_n 0, 1) := by decide +kernel
theorem dJ3_checkIndex_8e157_5 : decode cJ3_checkIndex_8e157 5 = .ok (.iload_n 1, 1) := by decide +kernel
theorem dJ3_checkIndex_8e157_6 : decode cJ3_checkIndex_8e157 6 = .ok (.if_icmp .lt 10, 3) := by decide +kernel
theorem dJ3_checkIndex_8e157_9 : decode cJ3_checkIndex_8e157 9 = .ok (.aload_n 2, 1) := by decide +kernel
theorem dJ3_checkIndex_8e157_10 : decode cJ3_checkIndex_8e157 10 = .ok (.iload_n 0, 1) := by decide +kernel
theorem dJ3_checkIndex_8e157_11 : decode cJ3_checkIndex_8e157 11 = .ok (.iload_n 1, 1) := by decide +kernel
theorem dJ3_checkIndex_8e157_12 : decode cJ3_checkIndex_8e157 12 = .ok (.invokestatic 95, 3) := by decide +kernel
theorem dJ3_checkIndex_8e157_15 : decode cJ3_checkIndex_8e157 15 = .ok (.athrow, 1) := by decide +kernel
theorem dJ3_checkIndex_8e157_16 : decode cJ3_checkIndex_8e157 16 = .ok (.iload_n 0, 1) := by decide +kernel
theorem dJ3_checkIndex_8e157_17 : decode cJ3_checkIndex_8e157 17 = .ok (.ireturn, 1) := by decide +kernel
