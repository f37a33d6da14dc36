theorem dL_at_0 : decode cL_at 0 = .ok (.iload_n 1, 1) := by decide +kernel
theorem dL_at_1 : decode cL_at 1 = .ok (.aload_n 0, 1) := by decide +kernel
theorem dL_at_2 : decode cL_at 2 = .ok (.arraylength, 1) := by decide +kernel
theorem dL_at_3 : decode cL_at 3 = .ok (.if_icmp .ge 9, 3) := by decide +kernel
theorem dL_at_6 : decode cL_at 6 = .ok (.aload_n 0, 1) := by decide +kernel
theorem dL_at_7 : decode cL_at 7 = .ok (.iload_n 1, 1) := by decide +kernel
theorem dL_at_8 : decode cL_at 8 = .ok (.iaload, 1) := by decide +kernel
theorem dL_at_9 : decode cL_at 9 = .ok (.goto 12, 3) := by decide +kernel
theorem dL_at_12 : decode cL_at 12 = .ok (.ldc 7, 2) := by decide +kernel
theorem dL_at_14 : decode cL_at 14 = .ok (.iload_n 1, 1) := by decide +kernel
theorem dL_at_15 : decode cL_at 15 = .ok (.iconst 1, 1) := by decide +kernel
theorem dL_at_16 : decode cL_at 16 = .ok (.iadd, 1) := by decide +kernel
theorem dL_at_17 : decode cL_at 17 = .ok (.imul, 1) := by decide +kernel
theorem dL_at_18 : decode cL_at 18 = .ok (.ldc 8, 2) := by decide +kernel
theorem dL_at_20 : decode cL_at 20 = .ok (.iadd, 1) := by decide +kernel
theorem dL_at_21 : decode cL_at 21 = .ok (.ireturn, 1) := by decide +kernel
theorem dL_low_0 : decode cL_low 0 = .ok (.iload_n 0, 1) := by decide +kernel
theorem dL_low_1 : decode cL_low 1 = .ok (.ldc 9, 2) := by decide +kernel
theorem dL_low_3 : decode cL_low 3 = .ok (.iand, 1) := by decide +kernel
theorem dL_low_4 : decode cL_low 4 = .ok (.iload_n 1, 1) := by decide +kernel
theorem dL_low_5 : decode cL_low 5 = .ok (.irem, 1) := by decide +kernel
theorem dL_low_6 : decode cL_low 6 = .ok (.ireturn, 1) := by decide +kernel
theorem dL_write_0 : decode cL_write 0 = .ok (.aload_n 0, 1) := by decide +kernel
theorem dL_write_1 : decode cL_write 1 = .ok (.lload_n 1, 1) := by decide +kernel
theorem dL_write_2 : decode cL_write 2 = .ok (.invokevirtual 10, 3) := by decide +kernel
theorem dL_write_5 : decode cL_write 5 = .ok (.ireturn, 1) := by decide +kernel
theorem dL_write_6 : decode cL_write 6 = .ok (.astore_n 3, 1) := by decide +kernel
theorem dL_write_7 : decode cL_write 7 = .ok (.ldc 18, 2) := by decide +kernel
theorem dL_write_9 : decode cL_write 9 = .ok (.ireturn, 1) := by decide +kernel
theorem dL_erase_0 : decode cL_erase 0 = .ok (.aload_n 0, 1) := by decide +kernel
theorem dL_erase_1 : decode cL_erase 1 = .ok (.iload_n 1, 1) := by decide +kernel
theorem dL_erase_2 : decode cL_erase 2 = .ok (.invokevirtual 19, 3) := by decide +kernel
theorem dL_erase_5 : decode cL_erase 5 = .ok (.ireturn, 1) := by decide +kernel
theorem dL_erase_6 : decode cL_erase 6 = .ok (.astore_n 2, 1) := by decide +kernel
theorem dL_erase_7 : decode cL_erase 7 = .ok (.ldc 18, 2) := by decide +kernel
theorem dL_erase_9 : decode cL_erase 9 = .ok (.ireturn, 1) := by decide +kernel
theorem dL_signAt_0 : decode cL_signAt 0 = .ok (.aload_n 0, 1) := by decide +kernel
theorem dL_signAt_1 : decode cL_signAt 1 = .ok (.iload_n 1, 1) := by decide +kernel
theorem dL_signAt_2 : decode cL_signAt 2 = .ok (.invokevirtual 23, 3) := by decide +kernel
theorem dL_signAt_5 : decode cL_signAt 5 = .ok (.ireturn, 1) := by decide +kernel
theorem dL_signAt_6 : decode cL_signAt 6 = .ok (.astore_n 2, 1) := by decide +kernel
theorem dL_signAt_7 : decode cL_signAt 7 = .ok (.ldc 29, 2) := by decide +kernel
theorem dL_signAt_9 : decode cL_signAt 9 = .ok (.ireturn, 1) := by decide +kernel
theorem dL_draftParts_0 : decode cL_draftParts 0 = .ok (.aload_n 0, 1) := by decide +kernel
theorem dL_draftParts_1 : decode cL_draftParts 1 = .ok (.invokevirtual 30, 3) := by decide +kernel
theorem dL_draftParts_4 : decode cL_draftParts 4 = .ok (.ireturn, 1) := by decide +kernel
theorem dL_draftParts_5 : decode cL_draftParts 5 = .ok (.astore_n 1, 1) := by decide +kernel
theorem dL_draftParts_6 : decode cL_draftParts 6 = .ok (.ldc 36, 2) := by decide +kernel
theorem dL_draftParts_8 : decode cL_draftParts 8 = .ok (.ireturn, 1) := by decide +kernel
theorem dL_trial_0 : decode cL_trial 0 = .ok (.aload_n 0, 1) := by decide +kernel
theorem dL_trial_1 : decode cL_trial 1 = .ok (.iload_n 1, 1) := by decide +kernel
theorem dL_trial_2 : decode cL_trial 2 = .ok (.iload_n 2, 1) := by decide +kernel
theorem dL_trial_3 : decode cL_trial 3 = .ok (.iload_n 3, 1) := by decide +kernel
theorem dL_trial_4 : decode cL_trial 4 = .ok (.invokevirtual 37, 3) := by decide +kernel
theorem dL_trial_7 : decode cL_trial 7 = .ok (.ireturn, 1) := by decide +kernel
theorem dL_trial_8 : decode cL_trial 8 = .ok (.astore 4, 2) := by decide +kernel
theorem dL_trial_10 : decode cL_trial 10 = .ok (.ldc 18, 2) := by decide +kernel
theorem dL_trial_12 : decode cL_trial 12 = .ok (.ireturn, 1) := by decide +kernel
theorem dL_trial_13 : decode cL_trial 13 = .ok (.astore 4, 2) := by decide +kernel
theorem dL_trial_15 : decode cL_trial 15 = .ok (.ldc 36, 2) := by decide +kernel
theorem dL_trial_17 : decode cL_trial 17 = .ok (.ireturn, 1) := by decide +kernel
theorem dL_trialByTree_0 : decode cL_trialByTree 0 = .ok (.aload_n 0, 1) := by decide +kernel
theorem dL_trialByTree_1 : decode cL_trialByTree 1 = .ok (.iload_n 1, 1) := by decide +kernel
theorem dL_trialByTree_2 : decode cL_trialByTree 2 = .ok (.iload_n 2, 1) := by decide +kernel
theorem dL_trialByTree_3 : decode cL_trialByTree 3 = .ok (.iload_n 3, 1) := by decide +kernel
theorem dL_trialByTree_4 : decode cL_trialByTree 4 = .ok (.invokevirtual 41, 3) := by decide +kernel
theorem dL_trialByTree_7 : decode cL_trialByTree 7 = .ok (.ireturn, 1) := by decide +kernel
theorem dL_trialByTree_8 : decode cL_trialByTree 8 = .ok (.astore 4, 2) := by decide +kernel
theorem dL_trialByTree_10 : decode cL_trialByTree 10 = .ok (.ldc 18, 2) := by decide +kernel
theorem dL_trialByTree_12 : decode cL_trialByTree 12 = .ok (.ireturn, 1) := by decide +kernel
theorem dL_trialByTree_13 : decode cL_trialByTree 13 = .ok (.astore 4, 2) := by decide +kernel
theorem dL_trialByTree_15 : decode cL_trialByTree 15 = .ok (.ldc 36, 2) := by decide +kernel
theorem dL_trialByTree_17 : decode cL_trialByTree 17 = .ok (.ireturn, 1) := by decide +kernel
theorem dL_outputAt_0 : decode cL_outputAt 0 = .ok (.aload_n 0, 1) := by decide +kernel
theorem dL_outputAt_1 : decode cL_outputAt 1 = .ok (.iload_n 1, 1) := by decide +kernel
theorem dL_outputAt_2 : decode cL_outputAt 2 = .ok (.invokevirtual 44, 3) := by decide +kernel
theorem dL_outputAt_5 : decode cL_outputAt 5 = .ok (.ireturn, 1) := by decide +kernel
theorem dL_outputAt_6 : decode cL_outputAt 6 = .ok (.astore_n 2, 1) := by decide +kernel
theorem dL_outputAt_7 : decode cL_outputAt 7 = .ok (.ldc 29, 2) := by decide +kernel
theorem dL_outputAt_9 : decode cL_outputAt 9 = .ok (.ireturn, 1) := by decide +kernel
theorem dL_cellAt_0 : decode cL_cellAt 0 = .ok (.aload_n 0, 1) := by decide +kernel
theorem dL_cellAt_1 : decode cL_cellAt 1 = .ok (.iload_n 1, 1) := by decide +kernel
theorem dL_cellAt_2 : decode cL_cellAt 2 = .ok (.invokevirtual 47, 3) := by decide +kernel
theorem dL_cellAt_5 : decode cL_cellAt 5 = .ok (.ireturn, 1) := by decide +kernel
theorem dL_cellAt_6 : decode cL_cellAt 6 = .ok (.astore_n 2, 1) := by decide +kernel
theorem dL_cellAt_7 : decode cL_cellAt 7 = .ok (.ldc 29, 2) := by decide +kernel
theorem dL_cellAt_9 : decode cL_cellAt 9 = .ok (.ireturn, 1) := by decide +kernel
theorem dL_addExercise_0 : decode cL_addExercise 0 = .ok (.aload_n 0, 1) := by decide +kernel
theorem dL_addExercise_1 : decode cL_addExercise 1 = .ok (.iload_n 1, 1) := by decide +kernel
theorem dL_addExercise_2 : decode cL_addExercise 2 = .ok (.iload_n 2, 1) := by decide +kernel
theorem dL_addExercise_3 : decode cL_addExercise 3 = .ok (.invokevirtual 50, 3) := by decide +kernel
theorem dL_addExercise_6 : decode cL_addExercise 6 = .ok (.ireturn, 1) := by decide +kernel
theorem dL_addExercise_7 : decode cL_addExercise 7 = .ok (.astore_n 3, 1) := by decide +kernel
theorem dL_addExercise_8 : decode cL_addExercise 8 = .ok (.ldc 18, 2) := by decide +kernel
theorem dL_addExercise_10 : decode cL_addExercise 10 = .ok (.ireturn, 1) := by decide +kernel
theorem dL_addExercise_11 : decode cL_addExercise 11 = .ok (.astore_n 3, 1) := by decide +kernel
theorem dL_addExercise_12 : decode cL_addExercise 12 = .ok (.ldc 36, 2) := by decide +kernel
theorem dL_addExercise_14 : decode cL_addExercise 14 = .ok (.ireturn, 1) := by decide +kernel
theorem dL_addTest_0 : decode cL_addTest 0 = .ok (.aload_n 0, 1) := by decide +kernel
theorem dL_addTest_1 : decode cL_addTest 1 = .ok (.iload_n 1, 1) := by decide +kernel
theorem dL_addTest_2 : decode cL_addTest 2 = .ok (.iload_n 2, 1) := by decide +kernel
theorem dL_addTest_3 : decode cL_addTest 3 = .ok (.iload_n 3, 1) := by decide +kernel
theorem dL_addTest_4 : decode cL_addTest 4 = .ok (.iload 4, 2) := by decide +kernel
theorem dL_addTest_6 : decode cL_addTest 6 = .ok (.iload 5, 2) := by decide +kernel
theorem dL_addTest_8 : decode cL_addTest 8 = .ok (.iload 6, 2) := by decide +kernel
theorem dL_addTest_10 : decode cL_addTest 10 = .ok (.iload 7, 2) := by decide +kernel
theorem dL_addTest_12 : decode cL_addTest 12 = .ok (.invokevirtual 54, 3) := by decide +kernel
theorem dL_addTest_15 : decode cL_addTest 15 = .ok (.ireturn, 1) := by decide +kernel
theorem dL_addTest_16 : decode cL_addTest 16 = .ok (.astore 8, 2) := by decide +kernel
theorem dL_addTest_18 : decode cL_addTest 18 = .ok (.ldc 29, 2) := by decide +kernel
theorem dL_addTest_20 : decode cL_addTest 20 = .ok (.ireturn, 1) := by decide +kernel
theorem dL_addTest_21 : decode cL_addTest 21 = .ok (.astore 8, 2) := by decide +kernel
theorem dL_addTest_23 : decode cL_addTest 23 = .ok (.ldc 18, 2) := by decide +kernel
theorem dL_addTest_25 : decode cL_addTest 25 = .ok (.ireturn, 1) := by decide +kernel
theorem dL_addTest_26 : decode cL_addTest 26 = .ok (.astore 8, 2) := by decide +kernel
theorem dL_addTest_28 : decode cL_addTest 28 = .ok (.ldc 36, 2) := by decide +kernel
theorem dL_addTest_30 : decode cL_addTest 30 = .ok (.ireturn, 1) := by decide +kernel
theorem dL_withdraw_0 : decode cL_withdraw 0 = .ok (.aload_n 0, 1) := by decide +kernel
theorem dL_withdraw_1 : decode cL_withdraw 1 = .ok (.iload_n 1, 1) := by decide +kernel
theorem dL_withdraw_2 : decode cL_withdraw 2 = .ok (.iload_n 2, 1) := by decide +kernel
theorem dL_withdraw_3 : decode cL_withdraw 3 = .ok (.invokevirtual 58, 3) := by decide +kernel
theorem dL_withdraw_6 : decode cL_withdraw 6 = .ok (.ireturn, 1) := by decide +kernel
theorem dL_withdraw_7 : decode cL_withdraw 7 = .ok (.astore_n 3, 1) := by decide +kernel
theorem dL_withdraw_8 : decode cL_withdraw 8 = .ok (.ldc 29, 2) := by decide +kernel
theorem dL_withdraw_10 : decode cL_withdraw 10 = .ok (.ireturn, 1) := by decide +kernel
theorem dL_withdraw_11 : decode cL_withdraw 11 = .ok (.astore_n 3, 1) := by decide +kernel
theorem dL_withdraw_12 : decode cL_withdraw 12 = .ok (.ldc 36, 2) := by decide +kernel
theorem dL_withdraw_14 : decode cL_withdraw 14 = .ok (.ireturn, 1) := by decide +kernel
theorem dL_pass_0 : decode cL_pass 0 = .ok (.aload_n 0, 1) := by decide +kernel
theorem dL_pass_1 : decode cL_pass 1 = .ok (.iload_n 1, 1) := by decide +kernel
theorem dL_pass_2 : decode cL_pass 2 = .ok (.invokevirtual 61, 3) := by decide +kernel
theorem dL_pass_5 : decode cL_pass 5 = .ok (.ireturn, 1) := by decide +kernel
theorem dL_pass_6 : decode cL_pass 6 = .ok (.astore_n 2, 1) := by decide +kernel
theorem dL_pass_7 : decode cL_pass 7 = .ok (.ldc 18, 2) := by decide +kernel
theorem dL_pass_9 : decode cL_pass 9 = .ok (.ireturn, 1) := by decide +kernel
theorem dL_pass_10 : decode cL_pass 10 = .ok (.astore_n 2, 1) := by decide +kernel
theorem dL_pass_11 : decode cL_pass 11 = .ok (.ldc 36, 2) := by decide +kernel
theorem dL_pass_13 : decode cL_pass 13 = .ok (.ireturn, 1) := by decide +kernel
theorem dL_hand_0 : decode cL_hand 0 = .ok (.aload_n 0, 1) := by decide +kernel
theorem dL_hand_1 : decode cL_hand 1 = .ok (.iload_n 1, 1) := by decide +kernel
theorem dL_hand_2 : decode cL_hand 2 = .ok (.iload_n 2, 1) := by decide +kernel
theorem dL_hand_3 : decode cL_hand 3 = .ok (.invokevirtual 64, 3) := by decide +kernel
theorem dL_hand_6 : decode cL_hand 6 = .ok (.ireturn, 1) := by decide +kernel
theorem dL_hand_7 : decode cL_hand 7 = .ok (.astore_n 3, 1) := by decide +kernel
theorem dL_hand_8 : decode cL_hand 8 = .ok (.ldc 29, 2) := by decide +kernel
theorem dL_hand_10 : decode cL_hand 10 = .ok (.ireturn, 1) := by decide +kernel
theorem dL_hand_11 : decode cL_hand 11 = .ok (.astore_n 3, 1) := by decide +kernel
theorem dL_hand_12 : decode cL_hand 12 = .ok (.ldc 36, 2) := by decide +kernel
theorem dL_hand_14 : decode cL_hand 14 = .ok (.ireturn, 1) := by decide +kernel
theorem dL_passes_0 : decode cL_passes 0 = .ok (.aload_n 0, 1) := by decide +kernel
theorem dL_passes_1 : decode cL_passes 1 = .ok (.iload_n 1, 1) := by decide +kernel
theorem dL_passes_2 : decode cL_passes 2 = .ok (.iload_n 2, 1) := by decide +kernel
theorem dL_passes_3 : decode cL_passes 3 = .ok (.invokevirtual 67, 3) := by decide +kernel
theorem dL_passes_6 : decode cL_passes 6 = .ok (.ifCond .eq 7, 3) := by decide +kernel
theorem dL_passes_9 : decode cL_passes 9 = .ok (.iconst 1, 1) := by decide +kernel
theorem dL_passes_10 : decode cL_passes 10 = .ok (.goto 4, 3) := by decide +kernel
theorem dL_passes_13 : decode cL_passes 13 = .ok (.iconst 0, 1) := by decide +kernel
theorem dL_passes_14 : decode cL_passes 14 = .ok (.ireturn, 1) := by decide +kernel
theorem dL_passes_15 : decode cL_passes 15 = .ok (.astore_n 3, 1) := by decide +kernel
theorem dL_passes_16 : decode cL_passes 16 = .ok (.ldc 29, 2) := by decide +kernel
theorem dL_passes_18 : decode cL_passes 18 = .ok (.ireturn, 1) := by decide +kernel
theorem dL_endOf_0 : decode cL_endOf 0 = .ok (.aload_n 0, 1) := by decide +kernel
theorem dL_endOf_1 : decode cL_endOf 1 = .ok (.iload_n 1, 1) := by decide +kernel
theorem dL_endOf_2 : decode cL_endOf 2 = .ok (.iload_n 2, 1) := by decide +kernel
theorem dL_endOf_3 : decode cL_endOf 3 = .ok (.invokevirtual 71, 3) := by decide +kernel
theorem dL_endOf_6 : decode cL_endOf 6 = .ok (.ireturn, 1) := by decide +kernel
theorem dL_endOf_7 : decode cL_endOf 7 = .ok (.astore_n 3, 1) := by decide +kernel
theorem dL_endOf_8 : decode cL_endOf 8 = .ok (.ldc 29, 2) := by decide +kernel
theorem dL_endOf_10 : decode cL_endOf 10 = .ok (.ireturn, 1) := by decide +kernel
theorem dL_points_0 : decode cL_points 0 = .ok (.aload_n 0, 1) := by decide +kernel
theorem dL_points_1 : decode cL_points 1 = .ok (.iload_n 1, 1) := by decide +kernel
theorem dL_points_2 : decode cL_points 2 = .ok (.invokevirtual 74, 3) := by decide +kernel
theorem dL_points_5 : decode cL_points 5 = .ok (.ireturn, 1) := by decide +kernel
theorem dL_points_6 : decode cL_points 6 = .ok (.astore_n 2, 1) := by decide +kernel
theorem dL_points_7 : decode cL_points 7 = .ok (.ldc 29, 2) := by decide +kernel
theorem dL_points_9 : decode cL_points 9 = .ok (.ireturn, 1) := by decide +kernel
theorem dL_mark_0 : decode cL_mark 0 = .ok (.aload_n 0, 1) := by decide +kernel
theorem dL_mark_1 : decode cL_mark 1 = .ok (.iload_n 1, 1) := by decide +kernel
theorem dL_mark_2 : decode cL_mark 2 = .ok (.invokevirtual 77, 3) := by decide +kernel
theorem dL_mark_5 : decode cL_mark 5 = .ok (.ireturn, 1) := by decide +kernel
theorem dL_mark_6 : decode cL_mark 6 = .ok (.astore_n 2, 1) := by decide +kernel
theorem dL_mark_7 : decode cL_mark 7 = .ok (.ldc 29, 2) := by decide +kernel
theorem dL_mark_9 : decode cL_mark 9 = .ok (.ireturn, 1) := by decide +kernel
theorem dL_markAnew_0 : decode cL_markAnew 0 = .ok (.aload_n 0, 1) := by decide +kernel
theorem dL_markAnew_1 : decode cL_markAnew 1 = .ok (.iload_n 1, 1) := by decide +kernel
theorem dL_markAnew_2 : decode cL_markAnew 2 = .ok (.invokevirtual 80, 3) := by decide +kernel
theorem dL_markAnew_5 : decode cL_markAnew 5 = .ok (.ireturn, 1) := by decide +kernel
theorem dL_markAnew_6 : decode cL_markAnew 6 = .ok (.astore_n 2, 1) := by decide +kernel
theorem dL_markAnew_7 : decode cL_markAnew 7 = .ok (.ldc 29, 2) := by decide +kernel
theorem dL_markAnew_9 : decode cL_markAnew 9 = .ok (.ireturn, 1) := by decide +kernel
theorem dL_best_0 : decode cL_best 0 = .ok (.aload_n 0, 1) := by decide +kernel
theorem dL_best_1 : decode cL_best 1 = .ok (.iload_n 1, 1) := by decide +kernel
theorem dL_best_2 : decode cL_best 2 = .ok (.iload_n 2, 1) := by decide +kernel
theorem dL_best_3 : decode cL_best 3 = .ok (.invokevirtual 83, 3) := by decide +kernel
theorem dL_best_6 : decode cL_best 6 = .ok (.ireturn, 1) := by decide +kernel
theorem dL_best_7 : decode cL_best 7 = .ok (.astore_n 3, 1) := by decide +kernel
theorem dL_best_8 : decode cL_best 8 = .ok (.ldc 29, 2) := by decide +kernel
theorem dL_best_10 : decode cL_best 10 = .ok (.ireturn, 1) := by decide +kernel
theorem dL_passed_0 : decode cL_passed 0 = .ok (.aload_n 0, 1) := by decide +kernel
theorem dL_passed_1 : decode cL_passed 1 = .ok (.iload_n 1, 1) := by decide +kernel
theorem dL_passed_2 : decode cL_passed 2 = .ok (.iload_n 2, 1) := by decide +kernel
theorem dL_passed_3 : decode cL_passed 3 = .ok (.invokevirtual 86, 3) := by decide +kernel
theorem dL_passed_6 : decode cL_passed 6 = .ok (.ireturn, 1) := by decide +kernel
theorem dL_passed_7 : decode cL_passed 7 = .ok (.astore_n 3, 1) := by decide +kernel
theorem dL_passed_8 : decode cL_passed 8 = .ok (.ldc 29, 2) := by decide +kernel
theorem dL_passed_10 : decode cL_passed 10 = .ok (.ireturn, 1) := by decide +kernel
theorem dL_parts_0 : decode cL_parts 0 = .ok (.aload_n 0, 1) := by decide +kernel
theorem dL_parts_1 : decode cL_parts 1 = .ok (.iload_n 1, 1) := by decide +kernel
theorem dL_parts_2 : decode cL_parts 2 = .ok (.invokevirtual 89, 3) := by decide +kernel
theorem dL_parts_5 : decode cL_parts 5 = .ok (.ireturn, 1) := by decide +kernel
theorem dL_parts_6 : decode cL_parts 6 = .ok (.astore_n 2, 1) := by decide +kernel
theorem dL_parts_7 : decode cL_parts 7 = .ok (.ldc 29, 2) := by decide +kernel
theorem dL_parts_9 : decode cL_parts 9 = .ok (.ireturn, 1) := by decide +kernel
theorem dL_common_0 : decode cL_common 0 = .ok (.aload_n 0, 1) := by decide +kernel
theorem dL_common_1 : decode cL_common 1 = .ok (.iload_n 1, 1) := by decide +kernel
theorem dL_common_2 : decode cL_common 2 = .ok (.iload_n 2, 1) := by decide +kernel
theorem dL_common_3 : decode cL_common 3 = .ok (.invokevirtual 92, 3) := by decide +kernel
theorem dL_common_6 : decode cL_common 6 = .ok (.ireturn, 1) := by decide +kernel
theorem dL_common_7 : decode cL_common 7 = .ok (.astore_n 3, 1) := by decide +kernel
theorem dL_common_8 : decode cL_common 8 = .ok (.ldc 29, 2) := by decide +kernel
theorem dL_common_10 : decode cL_common 10 = .ok (.ireturn, 1) := by decide +kernel
theorem dL_likeness_0 : decode cL_likeness 0 = .ok (.aload_n 0, 1) := by decide +kernel
theorem dL_likeness_1 : decode cL_likeness 1 = .ok (.iload_n 1, 1) := by decide +kernel
theorem dL_likeness_2 : decode cL_likeness 2 = .ok (.iload_n 2, 1) := by decide +kernel
theorem dL_likeness_3 : decode cL_likeness 3 = .ok (.invokevirtual 95, 3) := by decide +kernel
theorem dL_likeness_6 : decode cL_likeness 6 = .ok (.ireturn, 1) := by decide +kernel
theorem dL_likeness_7 : decode cL_likeness 7 = .ok (.astore_n 3, 1) := by decide +kernel
theorem dL_likeness_8 : decode cL_likeness 8 = .ok (.ldc 29, 2) := by decide +kernel
theorem dL_likeness_10 : decode cL_likeness 10 = .ok (.ireturn, 1) := by decide +kernel
theorem dL_accuse_0 : decode cL_accuse 0 = .ok (.aload_n 0, 1) := by decide +kernel
theorem dL_accuse_1 : decode cL_accuse 1 = .ok (.iload_n 1, 1) := by decide +kernel
theorem dL_accuse_2 : decode cL_accuse 2 = .ok (.iload_n 2, 1) := by decide +kernel
theorem dL_accuse_3 : decode cL_accuse 3 = .ok (.invokevirtual 98, 3) := by decide +kernel
theorem dL_accuse_6 : decode cL_accuse 6 = .ok (.ireturn, 1) := by decide +kernel
theorem dL_accuse_7 : decode cL_accuse 7 = .ok (.astore_n 3, 1) := by decide +kernel
theorem dL_accuse_8 : decode cL_accuse 8 = .ok (.ldc 29, 2) := by decide +kernel
theorem dL_accuse_10 : decode cL_accuse 10 = .ok (.ireturn, 1) := by decide +kernel
theorem dL_accuse_11 : decode cL_accuse 11 = .ok (.astore_n 3, 1) := by decide +kernel
theorem dL_accuse_12 : decode cL_accuse 12 = .ok (.ldc 36, 2) := by decide +kernel
theorem dL_accuse_14 : decode cL_accuse 14 = .ok (.ireturn, 1) := by decide +kernel
theorem dL_clear_0 : decode cL_clear 0 = .ok (.aload_n 0, 1) := by decide +kernel
theorem dL_clear_1 : decode cL_clear 1 = .ok (.iload_n 1, 1) := by decide +kernel
theorem dL_clear_2 : decode cL_clear 2 = .ok (.invokevirtual 101, 3) := by decide +kernel
theorem dL_clear_5 : decode cL_clear 5 = .ok (.ireturn, 1) := by decide +kernel
theorem dL_clear_6 : decode cL_clear 6 = .ok (.astore_n 2, 1) := by decide +kernel
theorem dL_clear_7 : decode cL_clear 7 = .ok (.ldc 29, 2) := by decide +kernel
theorem dL_clear_9 : decode cL_clear 9 = .ok (.ireturn, 1) := by decide +kernel
theorem dL_clear_10 : decode cL_clear 10 = .ok (.astore_n 2, 1) := by decide +kernel
theorem dL_clear_11 : decode cL_clear 11 = .ok (.ldc 36, 2) := by decide +kernel
theorem dL_clear_13 : decode cL_clear 13 = .ok (.ireturn, 1) := by decide +kernel
theorem dL_doubt_0 : decode cL_doubt 0 = .ok (.aload_n 0, 1) := by decide +kernel
theorem dL_doubt_1 : decode cL_doubt 1 = .ok (.iload_n 1, 1) := by decide +kernel
theorem dL_doubt_2 : decode cL_doubt 2 = .ok (.invokevirtual 104, 3) := by decide +kernel
theorem dL_doubt_5 : decode cL_doubt 5 = .ok (.ireturn, 1) := by decide +kernel
theorem dL_doubt_6 : decode cL_doubt 6 = .ok (.astore_n 2, 1) := by decide +kernel
theorem dL_doubt_7 : decode cL_doubt 7 = .ok (.ldc 29, 2) := by decide +kernel
theorem dL_doubt_9 : decode cL_doubt 9 = .ok (.ireturn, 1) := by decide +kernel
theorem dL_sign_0 : decode cL_sign 0 = .ok (.aload_n 0, 1) := by decide +kernel
theorem dL_sign_1 : decode cL_sign 1 = .ok (.invokevirtual 107, 3) := by decide +kernel
theorem dL_sign_4 : decode cL_sign 4 = .ok (.istore_n 2, 1) := by decide +kernel
theorem dL_sign_5 : decode cL_sign 5 = .ok (.iload_n 2, 1) := by decide +kernel
theorem dL_sign_6 : decode cL_sign 6 = .ok (.sipush 300, 3) := by decide +kernel
theorem dL_sign_9 : decode cL_sign 9 = .ok (.if_icmp .ne 21, 3) := by decide +kernel
theorem dL_sign_12 : decode cL_sign 12 = .ok (.aload_n 0, 1) := by decide +kernel
theorem dL_sign_13 : decode cL_sign 13 = .ok (.iload_n 1, 1) := by decide +kernel
theorem dL_sign_14 : decode cL_sign 14 = .ok (.i2l, 1) := by decide +kernel
theorem dL_sign_15 : decode cL_sign 15 = .ok (.invokestatic 110, 3) := by decide +kernel
theorem dL_sign_18 : decode cL_sign 18 = .ok (.iconst (-1), 1) := by decide +kernel
theorem dL_sign_19 : decode cL_sign 19 = .ok (.if_icmp .ne 7, 3) := by decide +kernel
theorem dL_sign_22 : decode cL_sign 22 = .ok (.iconst 1, 1) := by decide +kernel
theorem dL_sign_23 : decode cL_sign 23 = .ok (.goto 33, 3) := by decide +kernel
theorem dL_sign_26 : decode cL_sign 26 = .ok (.iconst 0, 1) := by decide +kernel
theorem dL_sign_27 : decode cL_sign 27 = .ok (.goto 29, 3) := by decide +kernel
theorem dL_sign_30 : decode cL_sign 30 = .ok (.aload_n 0, 1) := by decide +kernel
theorem dL_sign_31 : decode cL_sign 31 = .ok (.iload_n 1, 1) := by decide +kernel
theorem dL_sign_32 : decode cL_sign 32 = .ok (.i2l, 1) := by decide +kernel
theorem dL_sign_33 : decode cL_sign 33 = .ok (.invokestatic 110, 3) := by decide +kernel
theorem dL_sign_36 : decode cL_sign 36 = .ok (.iload_n 2, 1) := by decide +kernel
theorem dL_sign_37 : decode cL_sign 37 = .ok (.iconst 1, 1) := by decide +kernel
theorem dL_sign_38 : decode cL_sign 38 = .ok (.iadd, 1) := by decide +kernel
theorem dL_sign_39 : decode cL_sign 39 = .ok (.if_icmp .ne 16, 3) := by decide +kernel
theorem dL_sign_42 : decode cL_sign 42 = .ok (.aload_n 0, 1) := by decide +kernel
theorem dL_sign_43 : decode cL_sign 43 = .ok (.iload_n 2, 1) := by decide +kernel
theorem dL_sign_44 : decode cL_sign 44 = .ok (.invokestatic 115, 3) := by decide +kernel
theorem dL_sign_47 : decode cL_sign 47 = .ok (.iload_n 1, 1) := by decide +kernel
theorem dL_sign_48 : decode cL_sign 48 = .ok (.if_icmp .ne 7, 3) := by decide +kernel
theorem dL_sign_51 : decode cL_sign 51 = .ok (.iconst 1, 1) := by decide +kernel
theorem dL_sign_52 : decode cL_sign 52 = .ok (.goto 4, 3) := by decide +kernel
theorem dL_sign_55 : decode cL_sign 55 = .ok (.iconst 0, 1) := by decide +kernel
theorem dL_sign_56 : decode cL_sign 56 = .ok (.ireturn, 1) := by decide +kernel
theorem dL_operand_0 : decode cL_operand 0 = .ok (.iload_n 1, 1) := by decide +kernel
theorem dL_operand_1 : decode cL_operand 1 = .ok (.bipush 8, 2) := by decide +kernel
theorem dL_operand_3 : decode cL_operand 3 = .ok (.invokestatic 118, 3) := by decide +kernel
theorem dL_operand_6 : decode cL_operand 6 = .ok (.istore_n 2, 1) := by decide +kernel
theorem dL_operand_7 : decode cL_operand 7 = .ok (.iconst 1, 1) := by decide +kernel
theorem dL_operand_8 : decode cL_operand 8 = .ok (.istore_n 3, 1) := by decide +kernel
theorem dL_operand_9 : decode cL_operand 9 = .ok (.iload_n 2, 1) := by decide +kernel
theorem dL_operand_10 : decode cL_operand 10 = .ok (.iconst 5, 1) := by decide +kernel
theorem dL_operand_11 : decode cL_operand 11 = .ok (.if_icmp .ne 13, 3) := by decide +kernel
theorem dL_operand_14 : decode cL_operand 14 = .ok (.aload_n 0, 1) := by decide +kernel
theorem dL_operand_15 : decode cL_operand 15 = .ok (.bipush 45, 2) := by decide +kernel
theorem dL_operand_17 : decode cL_operand 17 = .ok (.invokestatic 121, 3) := by decide +kernel
theorem dL_operand_20 : decode cL_operand 20 = .ok (.istore_n 3, 1) := by decide +kernel
theorem dL_operand_21 : decode cL_operand 21 = .ok (.goto 32, 3) := by decide +kernel
theorem dL_operand_24 : decode cL_operand 24 = .ok (.iload_n 2, 1) := by decide +kernel
theorem dL_operand_25 : decode cL_operand 25 = .ok (.bipush 6, 2) := by decide +kernel
theorem dL_operand_27 : decode cL_operand 27 = .ok (.if_icmp .ne 13, 3) := by decide +kernel
theorem dL_operand_30 : decode cL_operand 30 = .ok (.aload_n 0, 1) := by decide +kernel
theorem dL_operand_31 : decode cL_operand 31 = .ok (.bipush 35, 2) := by decide +kernel
theorem dL_operand_33 : decode cL_operand 33 = .ok (.invokestatic 121, 3) := by decide +kernel
theorem dL_operand_36 : decode cL_operand 36 = .ok (.istore_n 3, 1) := by decide +kernel
theorem dL_operand_37 : decode cL_operand 37 = .ok (.goto 16, 3) := by decide +kernel
theorem dL_operand_40 : decode cL_operand 40 = .ok (.iload_n 2, 1) := by decide +kernel
theorem dL_operand_41 : decode cL_operand 41 = .ok (.bipush 7, 2) := by decide +kernel
theorem dL_operand_43 : decode cL_operand 43 = .ok (.if_icmp .ne 10, 3) := by decide +kernel
theorem dL_operand_46 : decode cL_operand 46 = .ok (.aload_n 0, 1) := by decide +kernel
theorem dL_operand_47 : decode cL_operand 47 = .ok (.bipush 33, 2) := by decide +kernel
theorem dL_operand_49 : decode cL_operand 49 = .ok (.invokestatic 121, 3) := by decide +kernel
theorem dL_operand_52 : decode cL_operand 52 = .ok (.istore_n 3, 1) := by decide +kernel
theorem dL_operand_53 : decode cL_operand 53 = .ok (.iload_n 2, 1) := by decide +kernel
theorem dL_operand_54 : decode cL_operand 54 = .ok (.iconst 1, 1) := by decide +kernel
theorem dL_operand_55 : decode cL_operand 55 = .ok (.if_icmp .ne 31, 3) := by decide +kernel
theorem dL_operand_58 : decode cL_operand 58 = .ok (.iload_n 3, 1) := by decide +kernel
theorem dL_operand_59 : decode cL_operand 59 = .ok (.ifCond .eq 25, 3) := by decide +kernel
theorem dL_operand_62 : decode cL_operand 62 = .ok (.aload_n 0, 1) := by decide +kernel
theorem dL_operand_63 : decode cL_operand 63 = .ok (.bipush 105, 2) := by decide +kernel
theorem dL_operand_65 : decode cL_operand 65 = .ok (.invokestatic 121, 3) := by decide +kernel
theorem dL_operand_68 : decode cL_operand 68 = .ok (.ifCond .eq 16, 3) := by decide +kernel
theorem dL_operand_71 : decode cL_operand 71 = .ok (.aload_n 0, 1) := by decide +kernel
theorem dL_operand_72 : decode cL_operand 72 = .ok (.bipush 110, 2) := by decide +kernel
theorem dL_operand_74 : decode cL_operand 74 = .ok (.invokestatic 121, 3) := by decide +kernel
theorem dL_operand_77 : decode cL_operand 77 = .ok (.ifCond .eq 7, 3) := by decide +kernel
theorem dL_operand_80 : decode cL_operand 80 = .ok (.iconst 1, 1) := by decide +kernel
theorem dL_operand_81 : decode cL_operand 81 = .ok (.goto 4, 3) := by decide +kernel
theorem dL_operand_84 : decode cL_operand 84 = .ok (.iconst 0, 1) := by decide +kernel
theorem dL_operand_85 : decode cL_operand 85 = .ok (.ireturn, 1) := by decide +kernel
theorem dL_operand_86 : decode cL_operand 86 = .ok (.iload_n 2, 1) := by decide +kernel
theorem dL_operand_87 : decode cL_operand 87 = .ok (.iconst 2, 1) := by decide +kernel
theorem dL_operand_88 : decode cL_operand 88 = .ok (.if_icmp .eq 8, 3) := by decide +kernel
theorem dL_operand_91 : decode cL_operand 91 = .ok (.iload_n 2, 1) := by decide +kernel
theorem dL_operand_92 : decode cL_operand 92 = .ok (.iconst 3, 1) := by decide +kernel
theorem dL_operand_93 : decode cL_operand 93 = .ok (.if_icmp .ne 30, 3) := by decide +kernel
theorem dL_operand_96 : decode cL_operand 96 = .ok (.iload_n 3, 1) := by decide +kernel
theorem dL_operand_97 : decode cL_operand 97 = .ok (.ifCond .eq 24, 3) := by decide +kernel
theorem dL_operand_100 : decode cL_operand 100 = .ok (.aload_n 0, 1) := by decide +kernel
theorem dL_operand_101 : decode cL_operand 101 = .ok (.bipush 97, 2) := by decide +kernel
theorem dL_operand_103 : decode cL_operand 103 = .ok (.iload_n 1, 1) := by decide +kernel
theorem dL_operand_104 : decode cL_operand 104 = .ok (.iconst 3, 1) := by decide +kernel
theorem dL_operand_105 : decode cL_operand 105 = .ok (.ishr, 1) := by decide +kernel
theorem dL_operand_106 : decode cL_operand 106 = .ok (.iconst 4, 1) := by decide +kernel
theorem dL_operand_107 : decode cL_operand 107 = .ok (.invokestatic 118, 3) := by decide +kernel
theorem dL_operand_110 : decode cL_operand 110 = .ok (.iadd, 1) := by decide +kernel
theorem dL_operand_111 : decode cL_operand 111 = .ok (.invokestatic 121, 3) := by decide +kernel
theorem dL_operand_114 : decode cL_operand 114 = .ok (.ifCond .eq 7, 3) := by decide +kernel
theorem dL_operand_117 : decode cL_operand 117 = .ok (.iconst 1, 1) := by decide +kernel
theorem dL_operand_118 : decode cL_operand 118 = .ok (.goto 4, 3) := by decide +kernel
theorem dL_operand_121 : decode cL_operand 121 = .ok (.iconst 0, 1) := by decide +kernel
theorem dL_operand_122 : decode cL_operand 122 = .ok (.ireturn, 1) := by decide +kernel
theorem dL_operand_123 : decode cL_operand 123 = .ok (.iload_n 3, 1) := by decide +kernel
theorem dL_operand_124 : decode cL_operand 124 = .ok (.ifCond .eq 55, 3) := by decide +kernel
theorem dL_operand_127 : decode cL_operand 127 = .ok (.aload_n 0, 1) := by decide +kernel
theorem dL_operand_128 : decode cL_operand 128 = .ok (.bipush 48, 2) := by decide +kernel
theorem dL_operand_130 : decode cL_operand 130 = .ok (.iload_n 1, 1) := by decide +kernel
theorem dL_operand_131 : decode cL_operand 131 = .ok (.iconst 3, 1) := by decide +kernel
theorem dL_operand_132 : decode cL_operand 132 = .ok (.ishr, 1) := by decide +kernel
theorem dL_operand_133 : decode cL_operand 133 = .ok (.bipush 10, 2) := by decide +kernel
theorem dL_operand_135 : decode cL_operand 135 = .ok (.invokestatic 118, 3) := by decide +kernel
theorem dL_operand_138 : decode cL_operand 138 = .ok (.iadd, 1) := by decide +kernel
theorem dL_operand_139 : decode cL_operand 139 = .ok (.invokestatic 121, 3) := by decide +kernel
theorem dL_operand_142 : decode cL_operand 142 = .ok (.ifCond .eq 37, 3) := by decide +kernel
theorem dL_operand_145 : decode cL_operand 145 = .ok (.iload_n 1, 1) := by decide +kernel
theorem dL_operand_146 : decode cL_operand 146 = .ok (.bipush 7, 2) := by decide +kernel
theorem dL_operand_148 : decode cL_operand 148 = .ok (.ishr, 1) := by decide +kernel
theorem dL_operand_149 : decode cL_operand 149 = .ok (.iconst 4, 1) := by decide +kernel
theorem dL_operand_150 : decode cL_operand 150 = .ok (.invokestatic 118, 3) := by decide +kernel
theorem dL_operand_153 : decode cL_operand 153 = .ok (.ifCond .gt 22, 3) := by decide +kernel
theorem dL_operand_156 : decode cL_operand 156 = .ok (.aload_n 0, 1) := by decide +kernel
theorem dL_operand_157 : decode cL_operand 157 = .ok (.bipush 48, 2) := by decide +kernel
theorem dL_operand_159 : decode cL_operand 159 = .ok (.iload_n 1, 1) := by decide +kernel
theorem dL_operand_160 : decode cL_operand 160 = .ok (.bipush 9, 2) := by decide +kernel
theorem dL_operand_162 : decode cL_operand 162 = .ok (.ishr, 1) := by decide +kernel
theorem dL_operand_163 : decode cL_operand 163 = .ok (.bipush 10, 2) := by decide +kernel
theorem dL_operand_165 : decode cL_operand 165 = .ok (.invokestatic 118, 3) := by decide +kernel
theorem dL_operand_168 : decode cL_operand 168 = .ok (.iadd, 1) := by decide +kernel
theorem dL_operand_169 : decode cL_operand 169 = .ok (.invokestatic 121, 3) := by decide +kernel
theorem dL_operand_172 : decode cL_operand 172 = .ok (.ifCond .eq 7, 3) := by decide +kernel
theorem dL_operand_175 : decode cL_operand 175 = .ok (.iconst 1, 1) := by decide +kernel
theorem dL_operand_176 : decode cL_operand 176 = .ok (.goto 4, 3) := by decide +kernel
theorem dL_operand_179 : decode cL_operand 179 = .ok (.iconst 0, 1) := by decide +kernel
theorem dL_operand_180 : decode cL_operand 180 = .ok (.ireturn, 1) := by decide +kernel
theorem dL_marks_0 : decode cL_marks 0 = .ok (.iload_n 1, 1) := by decide +kernel
theorem dL_marks_1 : decode cL_marks 1 = .ok (.bipush 13, 2) := by decide +kernel
theorem dL_marks_3 : decode cL_marks 3 = .ok (.invokestatic 118, 3) := by decide +kernel
theorem dL_marks_6 : decode cL_marks 6 = .ok (.istore_n 2, 1) := by decide +kernel
theorem dL_marks_7 : decode cL_marks 7 = .ok (.iload_n 2, 1) := by decide +kernel
theorem dL_marks_8 : decode cL_marks 8 = .ok (.ifCond .ne 8, 3) := by decide +kernel
theorem dL_marks_11 : decode cL_marks 11 = .ok (.bipush 43, 2) := by decide +kernel
theorem dL_marks_13 : decode cL_marks 13 = .ok (.goto 100, 3) := by decide +kernel
theorem dL_marks_16 : decode cL_marks 16 = .ok (.iload_n 2, 1) := by decide +kernel
theorem dL_marks_17 : decode cL_marks 17 = .ok (.iconst 1, 1) := by decide +kernel
theorem dL_marks_18 : decode cL_marks 18 = .ok (.if_icmp .ne 8, 3) := by decide +kernel
theorem dL_marks_21 : decode cL_marks 21 = .ok (.bipush 45, 2) := by decide +kernel
theorem dL_marks_23 : decode cL_marks 23 = .ok (.goto 90, 3) := by decide +kernel
theorem dL_marks_26 : decode cL_marks 26 = .ok (.iload_n 2, 1) := by decide +kernel
theorem dL_marks_27 : decode cL_marks 27 = .ok (.iconst 2, 1) := by decide +kernel
theorem dL_marks_28 : decode cL_marks 28 = .ok (.if_icmp .ne 8, 3) := by decide +kernel
theorem dL_marks_31 : decode cL_marks 31 = .ok (.bipush 42, 2) := by decide +kernel
theorem dL_marks_33 : decode cL_marks 33 = .ok (.goto 80, 3) := by decide +kernel
theorem dL_marks_36 : decode cL_marks 36 = .ok (.iload_n 2, 1) := by decide +kernel
theorem dL_marks_37 : decode cL_marks 37 = .ok (.iconst 3, 1) := by decide +kernel
theorem dL_marks_38 : decode cL_marks 38 = .ok (.if_icmp .ne 8, 3) := by decide +kernel
theorem dL_marks_41 : decode cL_marks 41 = .ok (.bipush 47, 2) := by decide +kernel
theorem dL_marks_43 : decode cL_marks 43 = .ok (.goto 70, 3) := by decide +kernel
theorem dL_marks_46 : decode cL_marks 46 = .ok (.iload_n 2, 1) := by decide +kernel
theorem dL_marks_47 : decode cL_marks 47 = .ok (.iconst 4, 1) := by decide +kernel
theorem dL_marks_48 : decode cL_marks 48 = .ok (.if_icmp .ne 8, 3) := by decide +kernel
theorem dL_marks_51 : decode cL_marks 51 = .ok (.bipush 37, 2) := by decide +kernel
theorem dL_marks_53 : decode cL_marks 53 = .ok (.goto 60, 3) := by decide +kernel
theorem dL_marks_56 : decode cL_marks 56 = .ok (.iload_n 2, 1) := by decide +kernel
theorem dL_marks_57 : decode cL_marks 57 = .ok (.bipush 7, 2) := by decide +kernel
theorem dL_marks_59 : decode cL_marks 59 = .ok (.if_icmp .ge 8, 3) := by decide +kernel
theorem dL_marks_62 : decode cL_marks 62 = .ok (.bipush 60, 2) := by decide +kernel
theorem dL_marks_64 : decode cL_marks 64 = .ok (.goto 49, 3) := by decide +kernel
theorem dL_marks_67 : decode cL_marks 67 = .ok (.iload_n 2, 1) := by decide +kernel
theorem dL_marks_68 : decode cL_marks 68 = .ok (.bipush 9, 2) := by decide +kernel
theorem dL_marks_70 : decode cL_marks 70 = .ok (.if_icmp .ge 8, 3) := by decide +kernel
theorem dL_marks_73 : decode cL_marks 73 = .ok (.bipush 62, 2) := by decide +kernel
theorem dL_marks_75 : decode cL_marks 75 = .ok (.goto 38, 3) := by decide +kernel
theorem dL_marks_78 : decode cL_marks 78 = .ok (.iload_n 2, 1) := by decide +kernel
theorem dL_marks_79 : decode cL_marks 79 = .ok (.bipush 9, 2) := by decide +kernel
theorem dL_marks_81 : decode cL_marks 81 = .ok (.if_icmp .ne 8, 3) := by decide +kernel
theorem dL_marks_84 : decode cL_marks 84 = .ok (.bipush 61, 2) := by decide +kernel
theorem dL_marks_86 : decode cL_marks 86 = .ok (.goto 27, 3) := by decide +kernel
theorem dL_marks_89 : decode cL_marks 89 = .ok (.iload_n 2, 1) := by decide +kernel
theorem dL_marks_90 : decode cL_marks 90 = .ok (.bipush 10, 2) := by decide +kernel
theorem dL_marks_92 : decode cL_marks 92 = .ok (.if_icmp .ne 8, 3) := by decide +kernel
theorem dL_marks_95 : decode cL_marks 95 = .ok (.bipush 33, 2) := by decide +kernel
theorem dL_marks_97 : decode cL_marks 97 = .ok (.goto 16, 3) := by decide +kernel
theorem dL_marks_100 : decode cL_marks 100 = .ok (.iload_n 2, 1) := by decide +kernel
theorem dL_marks_101 : decode cL_marks 101 = .ok (.bipush 11, 2) := by decide +kernel
theorem dL_marks_103 : decode cL_marks 103 = .ok (.if_icmp .ne 8, 3) := by decide +kernel
theorem dL_marks_106 : decode cL_marks 106 = .ok (.bipush 38, 2) := by decide +kernel
theorem dL_marks_108 : decode cL_marks 108 = .ok (.goto 5, 3) := by decide +kernel
theorem dL_marks_111 : decode cL_marks 111 = .ok (.bipush 124, 2) := by decide +kernel
theorem dL_marks_113 : decode cL_marks 113 = .ok (.istore_n 3, 1) := by decide +kernel
theorem dL_marks_114 : decode cL_marks 114 = .ok (.aload_n 0, 1) := by decide +kernel
theorem dL_marks_115 : decode cL_marks 115 = .ok (.iload_n 3, 1) := by decide +kernel
theorem dL_marks_116 : decode cL_marks 116 = .ok (.invokestatic 121, 3) := by decide +kernel
theorem dL_marks_119 : decode cL_marks 119 = .ok (.istore 4, 2) := by decide +kernel
theorem dL_marks_121 : decode cL_marks 121 = .ok (.iload_n 2, 1) := by decide +kernel
theorem dL_marks_122 : decode cL_marks 122 = .ok (.bipush 6, 2) := by decide +kernel
theorem dL_marks_124 : decode cL_marks 124 = .ok (.if_icmp .eq 15, 3) := by decide +kernel
theorem dL_marks_127 : decode cL_marks 127 = .ok (.iload_n 2, 1) := by decide +kernel
theorem dL_marks_128 : decode cL_marks 128 = .ok (.bipush 7, 2) := by decide +kernel
theorem dL_marks_130 : decode cL_marks 130 = .ok (.if_icmp .le 31, 3) := by decide +kernel
theorem dL_marks_133 : decode cL_marks 133 = .ok (.iload_n 2, 1) := by decide +kernel
theorem dL_marks_134 : decode cL_marks 134 = .ok (.bipush 11, 2) := by decide +kernel
theorem dL_marks_136 : decode cL_marks 136 = .ok (.if_icmp .ge 25, 3) := by decide +kernel
theorem dL_marks_139 : decode cL_marks 139 = .ok (.iload 4, 2) := by decide +kernel
theorem dL_marks_141 : decode cL_marks 141 = .ok (.ifCond .eq 16, 3) := by decide +kernel
theorem dL_marks_144 : decode cL_marks 144 = .ok (.aload_n 0, 1) := by decide +kernel
theorem dL_marks_145 : decode cL_marks 145 = .ok (.bipush 61, 2) := by decide +kernel
theorem dL_marks_147 : decode cL_marks 147 = .ok (.invokestatic 121, 3) := by decide +kernel
theorem dL_marks_150 : decode cL_marks 150 = .ok (.ifCond .eq 7, 3) := by decide +kernel
theorem dL_marks_153 : decode cL_marks 153 = .ok (.iconst 1, 1) := by decide +kernel
theorem dL_marks_154 : decode cL_marks 154 = .ok (.goto 36, 3) := by decide +kernel
theorem dL_marks_157 : decode cL_marks 157 = .ok (.iconst 0, 1) := by decide +kernel
theorem dL_marks_158 : decode cL_marks 158 = .ok (.goto 32, 3) := by decide +kernel
theorem dL_marks_161 : decode cL_marks 161 = .ok (.iload_n 2, 1) := by decide +kernel
theorem dL_marks_162 : decode cL_marks 162 = .ok (.bipush 10, 2) := by decide +kernel
theorem dL_marks_164 : decode cL_marks 164 = .ok (.if_icmp .le 24, 3) := by decide +kernel
theorem dL_marks_167 : decode cL_marks 167 = .ok (.iload 4, 2) := by decide +kernel
theorem dL_marks_169 : decode cL_marks 169 = .ok (.ifCond .eq 15, 3) := by decide +kernel
theorem dL_marks_172 : decode cL_marks 172 = .ok (.aload_n 0, 1) := by decide +kernel
theorem dL_marks_173 : decode cL_marks 173 = .ok (.iload_n 3, 1) := by decide +kernel
theorem dL_marks_174 : decode cL_marks 174 = .ok (.invokestatic 121, 3) := by decide +kernel
theorem dL_marks_177 : decode cL_marks 177 = .ok (.ifCond .eq 7, 3) := by decide +kernel
theorem dL_marks_180 : decode cL_marks 180 = .ok (.iconst 1, 1) := by decide +kernel
theorem dL_marks_181 : decode cL_marks 181 = .ok (.goto 9, 3) := by decide +kernel
theorem dL_marks_184 : decode cL_marks 184 = .ok (.iconst 0, 1) := by decide +kernel
theorem dL_marks_185 : decode cL_marks 185 = .ok (.goto 5, 3) := by decide +kernel
theorem dL_marks_188 : decode cL_marks 188 = .ok (.iload 4, 2) := by decide +kernel
theorem dL_marks_190 : decode cL_marks 190 = .ok (.ireturn, 1) := by decide +kernel
theorem dL_value_0 : decode cL_value 0 = .ok (.aload_n 0, 1) := by decide +kernel
theorem dL_value_1 : decode cL_value 1 = .ok (.iload_n 1, 1) := by decide +kernel
theorem dL_value_2 : decode cL_value 2 = .ok (.iconst 3, 1) := by decide +kernel
theorem dL_value_3 : decode cL_value 3 = .ok (.ishr, 1) := by decide +kernel
theorem dL_value_4 : decode cL_value 4 = .ok (.invokestatic 125, 3) := by decide +kernel
theorem dL_value_7 : decode cL_value 7 = .ok (.istore_n 2, 1) := by decide +kernel
theorem dL_value_8 : decode cL_value 8 = .ok (.iload_n 1, 1) := by decide +kernel
theorem dL_value_9 : decode cL_value 9 = .ok (.iconst 3, 1) := by decide +kernel
theorem dL_value_10 : decode cL_value 10 = .ok (.invokestatic 118, 3) := by decide +kernel
theorem dL_value_13 : decode cL_value 13 = .ok (.istore_n 3, 1) := by decide +kernel
theorem dL_value_14 : decode cL_value 14 = .ok (.iconst 0, 1) := by decide +kernel
theorem dL_value_15 : decode cL_value 15 = .ok (.istore 4, 2) := by decide +kernel
theorem dL_value_17 : decode cL_value 17 = .ok (.iload 4, 2) := by decide +kernel
theorem dL_value_19 : decode cL_value 19 = .ok (.iload_n 3, 1) := by decide +kernel
theorem dL_value_20 : decode cL_value 20 = .ok (.if_icmp .ge 50, 3) := by decide +kernel
theorem dL_value_23 : decode cL_value 23 = .ok (.iload_n 2, 1) := by decide +kernel
theorem dL_value_24 : decode cL_value 24 = .ok (.ifCond .eq 38, 3) := by decide +kernel
theorem dL_value_27 : decode cL_value 27 = .ok (.aload_n 0, 1) := by decide +kernel
theorem dL_value_28 : decode cL_value 28 = .ok (.iload_n 1, 1) := by decide +kernel
theorem dL_value_29 : decode cL_value 29 = .ok (.iconst 5, 1) := by decide +kernel
theorem dL_value_30 : decode cL_value 30 = .ok (.iconst 3, 1) := by decide +kernel
theorem dL_value_31 : decode cL_value 31 = .ok (.iload 4, 2) := by decide +kernel
theorem dL_value_33 : decode cL_value 33 = .ok (.imul, 1) := by decide +kernel
theorem dL_value_34 : decode cL_value 34 = .ok (.iadd, 1) := by decide +kernel
theorem dL_value_35 : decode cL_value 35 = .ok (.ishr, 1) := by decide +kernel
theorem dL_value_36 : decode cL_value 36 = .ok (.invokestatic 128, 3) := by decide +kernel
theorem dL_value_39 : decode cL_value 39 = .ok (.ifCond .eq 23, 3) := by decide +kernel
theorem dL_value_42 : decode cL_value 42 = .ok (.aload_n 0, 1) := by decide +kernel
theorem dL_value_43 : decode cL_value 43 = .ok (.iload_n 1, 1) := by decide +kernel
theorem dL_value_44 : decode cL_value 44 = .ok (.bipush 7, 2) := by decide +kernel
theorem dL_value_46 : decode cL_value 46 = .ok (.iconst 4, 1) := by decide +kernel
theorem dL_value_47 : decode cL_value 47 = .ok (.iload 4, 2) := by decide +kernel
theorem dL_value_49 : decode cL_value 49 = .ok (.imul, 1) := by decide +kernel
theorem dL_value_50 : decode cL_value 50 = .ok (.iadd, 1) := by decide +kernel
theorem dL_value_51 : decode cL_value 51 = .ok (.ishr, 1) := by decide +kernel
theorem dL_value_52 : decode cL_value 52 = .ok (.invokestatic 125, 3) := by decide +kernel
theorem dL_value_55 : decode cL_value 55 = .ok (.ifCond .eq 7, 3) := by decide +kernel
theorem dL_value_58 : decode cL_value 58 = .ok (.iconst 1, 1) := by decide +kernel
theorem dL_value_59 : decode cL_value 59 = .ok (.goto 4, 3) := by decide +kernel
theorem dL_value_62 : decode cL_value 62 = .ok (.iconst 0, 1) := by decide +kernel
theorem dL_value_63 : decode cL_value 63 = .ok (.istore_n 2, 1) := by decide +kernel
theorem dL_value_64 : decode cL_value 64 = .ok (.iinc 4 1, 3) := by decide +kernel
theorem dL_value_67 : decode cL_value 67 = .ok (.goto (-50), 3) := by decide +kernel
theorem dL_value_70 : decode cL_value 70 = .ok (.iload_n 2, 1) := by decide +kernel
theorem dL_value_71 : decode cL_value 71 = .ok (.ireturn, 1) := by decide +kernel
theorem dL_statement_0 : decode cL_statement 0 = .ok (.iload_n 1, 1) := by decide +kernel
theorem dL_statement_1 : decode cL_statement 1 = .ok (.bipush 9, 2) := by decide +kernel
theorem dL_statement_3 : decode cL_statement 3 = .ok (.invokestatic 118, 3) := by decide +kernel
theorem dL_statement_6 : decode cL_statement 6 = .ok (.istore_n 3, 1) := by decide +kernel
theorem dL_statement_7 : decode cL_statement 7 = .ok (.iconst 1, 1) := by decide +kernel
theorem dL_statement_8 : decode cL_statement 8 = .ok (.istore 4, 2) := by decide +kernel
theorem dL_statement_10 : decode cL_statement 10 = .ok (.iload_n 3, 1) := by decide +kernel
theorem dL_statement_11 : decode cL_statement 11 = .ok (.iconst 3, 1) := by decide +kernel
theorem dL_statement_12 : decode cL_statement 12 = .ok (.if_icmp .ge 56, 3) := by decide +kernel
theorem dL_statement_15 : decode cL_statement 15 = .ok (.aload_n 0, 1) := by decide +kernel
theorem dL_statement_16 : decode cL_statement 16 = .ok (.bipush 97, 2) := by decide +kernel
theorem dL_statement_18 : decode cL_statement 18 = .ok (.iload_n 1, 1) := by decide +kernel
theorem dL_statement_19 : decode cL_statement 19 = .ok (.iconst 4, 1) := by decide +kernel
theorem dL_statement_20 : decode cL_statement 20 = .ok (.ishr, 1) := by decide +kernel
theorem dL_statement_21 : decode cL_statement 21 = .ok (.iconst 4, 1) := by decide +kernel
theorem dL_statement_22 : decode cL_statement 22 = .ok (.invokestatic 118, 3) := by decide +kernel
theorem dL_statement_25 : decode cL_statement 25 = .ok (.iadd, 1) := by decide +kernel
theorem dL_statement_26 : decode cL_statement 26 = .ok (.invokestatic 121, 3) := by decide +kernel
theorem dL_statement_29 : decode cL_statement 29 = .ok (.ifCond .eq 33, 3) := by decide +kernel
theorem dL_statement_32 : decode cL_statement 32 = .ok (.aload_n 0, 1) := by decide +kernel
theorem dL_statement_33 : decode cL_statement 33 = .ok (.bipush 61, 2) := by decide +kernel
theorem dL_statement_35 : decode cL_statement 35 = .ok (.invokestatic 121, 3) := by decide +kernel
theorem dL_statement_38 : decode cL_statement 38 = .ok (.ifCond .eq 24, 3) := by decide +kernel
theorem dL_statement_41 : decode cL_statement 41 = .ok (.aload_n 0, 1) := by decide +kernel
theorem dL_statement_42 : decode cL_statement 42 = .ok (.iload_n 2, 1) := by decide +kernel
theorem dL_statement_43 : decode cL_statement 43 = .ok (.invokestatic 131, 3) := by decide +kernel
theorem dL_statement_46 : decode cL_statement 46 = .ok (.ifCond .eq 16, 3) := by decide +kernel
theorem dL_statement_49 : decode cL_statement 49 = .ok (.aload_n 0, 1) := by decide +kernel
theorem dL_statement_50 : decode cL_statement 50 = .ok (.bipush 59, 2) := by decide +kernel
theorem dL_statement_52 : decode cL_statement 52 = .ok (.invokestatic 121, 3) := by decide +kernel
theorem dL_statement_55 : decode cL_statement 55 = .ok (.ifCond .eq 7, 3) := by decide +kernel
theorem dL_statement_58 : decode cL_statement 58 = .ok (.iconst 1, 1) := by decide +kernel
theorem dL_statement_59 : decode cL_statement 59 = .ok (.goto 4, 3) := by decide +kernel
theorem dL_statement_62 : decode cL_statement 62 = .ok (.iconst 0, 1) := by decide +kernel
theorem dL_statement_63 : decode cL_statement 63 = .ok (.istore 4, 2) := by decide +kernel
theorem dL_statement_65 : decode cL_statement 65 = .ok (.goto 367, 3) := by decide +kernel
theorem dL_statement_68 : decode cL_statement 68 = .ok (.iload_n 3, 1) := by decide +kernel
theorem dL_statement_69 : decode cL_statement 69 = .ok (.iconst 5, 1) := by decide +kernel
theorem dL_statement_70 : decode cL_statement 70 = .ok (.if_icmp .ge 66, 3) := by decide +kernel
theorem dL_statement_73 : decode cL_statement 73 = .ok (.aload_n 0, 1) := by decide +kernel
theorem dL_statement_74 : decode cL_statement 74 = .ok (.bipush 111, 2) := by decide +kernel
theorem dL_statement_76 : decode cL_statement 76 = .ok (.invokestatic 121, 3) := by decide +kernel
theorem dL_statement_79 : decode cL_statement 79 = .ok (.ifCond .eq 51, 3) := by decide +kernel
theorem dL_statement_82 : decode cL_statement 82 = .ok (.aload_n 0, 1) := by decide +kernel
theorem dL_statement_83 : decode cL_statement 83 = .ok (.bipush 117, 2) := by decide +kernel
theorem dL_statement_85 : decode cL_statement 85 = .ok (.invokestatic 121, 3) := by decide +kernel
theorem dL_statement_88 : decode cL_statement 88 = .ok (.ifCond .eq 42, 3) := by decide +kernel
theorem dL_statement_91 : decode cL_statement 91 = .ok (.aload_n 0, 1) := by decide +kernel
theorem dL_statement_92 : decode cL_statement 92 = .ok (.bipush 116, 2) := by decide +kernel
theorem dL_statement_94 : decode cL_statement 94 = .ok (.invokestatic 121, 3) := by decide +kernel
theorem dL_statement_97 : decode cL_statement 97 = .ok (.ifCond .eq 33, 3) := by decide +kernel
theorem dL_statement_100 : decode cL_statement 100 = .ok (.aload_n 0, 1) := by decide +kernel
theorem dL_statement_101 : decode cL_statement 101 = .ok (.bipush 32, 2) := by decide +kernel
theorem dL_statement_103 : decode cL_statement 103 = .ok (.invokestatic 121, 3) := by decide +kernel
theorem dL_statement_106 : decode cL_statement 106 = .ok (.ifCond .eq 24, 3) := by decide +kernel
theorem dL_statement_109 : decode cL_statement 109 = .ok (.aload_n 0, 1) := by decide +kernel
theorem dL_statement_110 : decode cL_statement 110 = .ok (.iload_n 2, 1) := by decide +kernel
theorem dL_statement_111 : decode cL_statement 111 = .ok (.invokestatic 131, 3) := by decide +kernel
theorem dL_statement_114 : decode cL_statement 114 = .ok (.ifCond .eq 16, 3) := by decide +kernel
theorem dL_statement_117 : decode cL_statement 117 = .ok (.aload_n 0, 1) := by decide +kernel
theorem dL_statement_118 : decode cL_statement 118 = .ok (.bipush 59, 2) := by decide +kernel
theorem dL_statement_120 : decode cL_statement 120 = .ok (.invokestatic 121, 3) := by decide +kernel
theorem dL_statement_123 : decode cL_statement 123 = .ok (.ifCond .eq 7, 3) := by decide +kernel
theorem dL_statement_126 : decode cL_statement 126 = .ok (.iconst 1, 1) := by decide +kernel
theorem dL_statement_127 : decode cL_statement 127 = .ok (.goto 4, 3) := by decide +kernel
theorem dL_statement_130 : decode cL_statement 130 = .ok (.iconst 0, 1) := by decide +kernel
theorem dL_statement_131 : decode cL_statement 131 = .ok (.istore 4, 2) := by decide +kernel
theorem dL_statement_133 : decode cL_statement 133 = .ok (.goto 299, 3) := by decide +kernel
theorem dL_statement_136 : decode cL_statement 136 = .ok (.iload_n 3, 1) := by decide +kernel
theorem dL_statement_137 : decode cL_statement 137 = .ok (.iconst 5, 1) := by decide +kernel
theorem dL_statement_138 : decode cL_statement 138 = .ok (.if_icmp .ne 66, 3) := by decide +kernel
theorem dL_statement_141 : decode cL_statement 141 = .ok (.aload_n 0, 1) := by decide +kernel
theorem dL_statement_142 : decode cL_statement 142 = .ok (.bipush 35, 2) := by decide +kernel
theorem dL_statement_144 : decode cL_statement 144 = .ok (.invokestatic 121, 3) := by decide +kernel
theorem dL_statement_147 : decode cL_statement 147 = .ok (.ifCond .eq 51, 3) := by decide +kernel
theorem dL_statement_150 : decode cL_statement 150 = .ok (.aload_n 0, 1) := by decide +kernel
theorem dL_statement_151 : decode cL_statement 151 = .ok (.bipush 48, 2) := by decide +kernel
theorem dL_statement_153 : decode cL_statement 153 = .ok (.iload_n 1, 1) := by decide +kernel
theorem dL_statement_154 : decode cL_statement 154 = .ok (.iconst 4, 1) := by decide +kernel
theorem dL_statement_155 : decode cL_statement 155 = .ok (.ishr, 1) := by decide +kernel
theorem dL_statement_156 : decode cL_statement 156 = .ok (.bipush 10, 2) := by decide +kernel
theorem dL_statement_158 : decode cL_statement 158 = .ok (.invokestatic 118, 3) := by decide +kernel
theorem dL_statement_161 : decode cL_statement 161 = .ok (.iadd, 1) := by decide +kernel
theorem dL_statement_162 : decode cL_statement 162 = .ok (.invokestatic 121, 3) := by decide +kernel
theorem dL_statement_165 : decode cL_statement 165 = .ok (.ifCond .eq 33, 3) := by decide +kernel
theorem dL_statement_168 : decode cL_statement 168 = .ok (.aload_n 0, 1) := by decide +kernel
theorem dL_statement_169 : decode cL_statement 169 = .ok (.bipush 61, 2) := by decide +kernel
theorem dL_statement_171 : decode cL_statement 171 = .ok (.invokestatic 121, 3) := by decide +kernel
theorem dL_statement_174 : decode cL_statement 174 = .ok (.ifCond .eq 24, 3) := by decide +kernel
theorem dL_statement_177 : decode cL_statement 177 = .ok (.aload_n 0, 1) := by decide +kernel
theorem dL_statement_178 : decode cL_statement 178 = .ok (.iload_n 2, 1) := by decide +kernel
theorem dL_statement_179 : decode cL_statement 179 = .ok (.invokestatic 131, 3) := by decide +kernel
theorem dL_statement_182 : decode cL_statement 182 = .ok (.ifCond .eq 16, 3) := by decide +kernel
theorem dL_statement_185 : decode cL_statement 185 = .ok (.aload_n 0, 1) := by decide +kernel
theorem dL_statement_186 : decode cL_statement 186 = .ok (.bipush 59, 2) := by decide +kernel
theorem dL_statement_188 : decode cL_statement 188 = .ok (.invokestatic 121, 3) := by decide +kernel
theorem dL_statement_191 : decode cL_statement 191 = .ok (.ifCond .eq 7, 3) := by decide +kernel
theorem dL_statement_194 : decode cL_statement 194 = .ok (.iconst 1, 1) := by decide +kernel
theorem dL_statement_195 : decode cL_statement 195 = .ok (.goto 4, 3) := by decide +kernel
theorem dL_statement_198 : decode cL_statement 198 = .ok (.iconst 0, 1) := by decide +kernel
theorem dL_statement_199 : decode cL_statement 199 = .ok (.istore 4, 2) := by decide +kernel
theorem dL_statement_201 : decode cL_statement 201 = .ok (.goto 231, 3) := by decide +kernel
theorem dL_statement_204 : decode cL_statement 204 = .ok (.iload_n 3, 1) := by decide +kernel
theorem dL_statement_205 : decode cL_statement 205 = .ok (.bipush 6, 2) := by decide +kernel
theorem dL_statement_207 : decode cL_statement 207 = .ok (.if_icmp .ne 57, 3) := by decide +kernel
theorem dL_statement_210 : decode cL_statement 210 = .ok (.aload_n 0, 1) := by decide +kernel
theorem dL_statement_211 : decode cL_statement 211 = .ok (.bipush 102, 2) := by decide +kernel
theorem dL_statement_213 : decode cL_statement 213 = .ok (.invokestatic 121, 3) := by decide +kernel
theorem dL_statement_216 : decode cL_statement 216 = .ok (.ifCond .eq 42, 3) := by decide +kernel
theorem dL_statement_219 : decode cL_statement 219 = .ok (.aload_n 0, 1) := by decide +kernel
theorem dL_statement_220 : decode cL_statement 220 = .ok (.bipush 40, 2) := by decide +kernel
theorem dL_statement_222 : decode cL_statement 222 = .ok (.invokestatic 121, 3) := by decide +kernel
theorem dL_statement_225 : decode cL_statement 225 = .ok (.ifCond .eq 33, 3) := by decide +kernel
theorem dL_statement_228 : decode cL_statement 228 = .ok (.aload_n 0, 1) := by decide +kernel
theorem dL_statement_229 : decode cL_statement 229 = .ok (.iload_n 2, 1) := by decide +kernel
theorem dL_statement_230 : decode cL_statement 230 = .ok (.invokestatic 131, 3) := by decide +kernel
theorem dL_statement_233 : decode cL_statement 233 = .ok (.ifCond .eq 25, 3) := by decide +kernel
theorem dL_statement_236 : decode cL_statement 236 = .ok (.aload_n 0, 1) := by decide +kernel
theorem dL_statement_237 : decode cL_statement 237 = .ok (.bipush 41, 2) := by decide +kernel
theorem dL_statement_239 : decode cL_statement 239 = .ok (.invokestatic 121, 3) := by decide +kernel
theorem dL_statement_242 : decode cL_statement 242 = .ok (.ifCond .eq 16, 3) := by decide +kernel
theorem dL_statement_245 : decode cL_statement 245 = .ok (.aload_n 0, 1) := by decide +kernel
theorem dL_statement_246 : decode cL_statement 246 = .ok (.bipush 59, 2) := by decide +kernel
theorem dL_statement_248 : decode cL_statement 248 = .ok (.invokestatic 121, 3) := by decide +kernel
theorem dL_statement_251 : decode cL_statement 251 = .ok (.ifCond .eq 7, 3) := by decide +kernel
theorem dL_statement_254 : decode cL_statement 254 = .ok (.iconst 1, 1) := by decide +kernel
theorem dL_statement_255 : decode cL_statement 255 = .ok (.goto 4, 3) := by decide +kernel
theorem dL_statement_258 : decode cL_statement 258 = .ok (.iconst 0, 1) := by decide +kernel
theorem dL_statement_259 : decode cL_statement 259 = .ok (.istore 4, 2) := by decide +kernel
theorem dL_statement_261 : decode cL_statement 261 = .ok (.goto 171, 3) := by decide +kernel
theorem dL_statement_264 : decode cL_statement 264 = .ok (.iload_n 3, 1) := by decide +kernel
theorem dL_statement_265 : decode cL_statement 265 = .ok (.bipush 7, 2) := by decide +kernel
theorem dL_statement_267 : decode cL_statement 267 = .ok (.if_icmp .ne 29, 3) := by decide +kernel
theorem dL_statement_270 : decode cL_statement 270 = .ok (.aload_n 0, 1) := by decide +kernel
theorem dL_statement_271 : decode cL_statement 271 = .ok (.bipush 105, 2) := by decide +kernel
theorem dL_statement_273 : decode cL_statement 273 = .ok (.invokestatic 121, 3) := by decide +kernel
theorem dL_statement_276 : decode cL_statement 276 = .ok (.ifCond .eq 16, 3) := by decide +kernel
theorem dL_statement_279 : decode cL_statement 279 = .ok (.aload_n 0, 1) := by decide +kernel
theorem dL_statement_280 : decode cL_statement 280 = .ok (.bipush 102, 2) := by decide +kernel
theorem dL_statement_282 : decode cL_statement 282 = .ok (.invokestatic 121, 3) := by decide +kernel
theorem dL_statement_285 : decode cL_statement 285 = .ok (.ifCond .eq 7, 3) := by decide +kernel
theorem dL_statement_288 : decode cL_statement 288 = .ok (.iconst 1, 1) := by decide +kernel
theorem dL_statement_289 : decode cL_statement 289 = .ok (.goto 57, 3) := by decide +kernel
theorem dL_statement_292 : decode cL_statement 292 = .ok (.iconst 0, 1) := by decide +kernel
theorem dL_statement_293 : decode cL_statement 293 = .ok (.goto 53, 3) := by decide +kernel
theorem dL_statement_296 : decode cL_statement 296 = .ok (.aload_n 0, 1) := by decide +kernel
theorem dL_statement_297 : decode cL_statement 297 = .ok (.bipush 119, 2) := by decide +kernel
theorem dL_statement_299 : decode cL_statement 299 = .ok (.invokestatic 121, 3) := by decide +kernel
theorem dL_statement_302 : decode cL_statement 302 = .ok (.ifCond .eq 43, 3) := by decide +kernel
theorem dL_statement_305 : decode cL_statement 305 = .ok (.aload_n 0, 1) := by decide +kernel
theorem dL_statement_306 : decode cL_statement 306 = .ok (.bipush 104, 2) := by decide +kernel
theorem dL_statement_308 : decode cL_statement 308 = .ok (.invokestatic 121, 3) := by decide +kernel
theorem dL_statement_311 : decode cL_statement 311 = .ok (.ifCond .eq 34, 3) := by decide +kernel
theorem dL_statement_314 : decode cL_statement 314 = .ok (.aload_n 0, 1) := by decide +kernel
theorem dL_statement_315 : decode cL_statement 315 = .ok (.bipush 105, 2) := by decide +kernel
theorem dL_statement_317 : decode cL_statement 317 = .ok (.invokestatic 121, 3) := by decide +kernel
theorem dL_statement_320 : decode cL_statement 320 = .ok (.ifCond .eq 25, 3) := by decide +kernel
theorem dL_statement_323 : decode cL_statement 323 = .ok (.aload_n 0, 1) := by decide +kernel
theorem dL_statement_324 : decode cL_statement 324 = .ok (.bipush 108, 2) := by decide +kernel
theorem dL_statement_326 : decode cL_statement 326 = .ok (.invokestatic 121, 3) := by decide +kernel
theorem dL_statement_329 : decode cL_statement 329 = .ok (.ifCond .eq 16, 3) := by decide +kernel
theorem dL_statement_332 : decode cL_statement 332 = .ok (.aload_n 0, 1) := by decide +kernel
theorem dL_statement_333 : decode cL_statement 333 = .ok (.bipush 101, 2) := by decide +kernel
theorem dL_statement_335 : decode cL_statement 335 = .ok (.invokestatic 121, 3) := by decide +kernel
theorem dL_statement_338 : decode cL_statement 338 = .ok (.ifCond .eq 7, 3) := by decide +kernel
theorem dL_statement_341 : decode cL_statement 341 = .ok (.iconst 1, 1) := by decide +kernel
theorem dL_statement_342 : decode cL_statement 342 = .ok (.goto 4, 3) := by decide +kernel
theorem dL_statement_345 : decode cL_statement 345 = .ok (.iconst 0, 1) := by decide +kernel
theorem dL_statement_346 : decode cL_statement 346 = .ok (.istore 4, 2) := by decide +kernel
theorem dL_statement_348 : decode cL_statement 348 = .ok (.iload 4, 2) := by decide +kernel
theorem dL_statement_350 : decode cL_statement 350 = .ok (.ifCond .eq 79, 3) := by decide +kernel
theorem dL_statement_353 : decode cL_statement 353 = .ok (.aload_n 0, 1) := by decide +kernel
theorem dL_statement_354 : decode cL_statement 354 = .ok (.bipush 32, 2) := by decide +kernel
theorem dL_statement_356 : decode cL_statement 356 = .ok (.invokestatic 121, 3) := by decide +kernel
theorem dL_statement_359 : decode cL_statement 359 = .ok (.ifCond .eq 70, 3) := by decide +kernel
theorem dL_statement_362 : decode cL_statement 362 = .ok (.aload_n 0, 1) := by decide +kernel
theorem dL_statement_363 : decode cL_statement 363 = .ok (.iload_n 2, 1) := by decide +kernel
theorem dL_statement_364 : decode cL_statement 364 = .ok (.invokestatic 131, 3) := by decide +kernel
theorem dL_statement_367 : decode cL_statement 367 = .ok (.ifCond .eq 62, 3) := by decide +kernel
theorem dL_statement_370 : decode cL_statement 370 = .ok (.aload_n 0, 1) := by decide +kernel
theorem dL_statement_371 : decode cL_statement 371 = .ok (.bipush 123, 2) := by decide +kernel
theorem dL_statement_373 : decode cL_statement 373 = .ok (.invokestatic 121, 3) := by decide +kernel
theorem dL_statement_376 : decode cL_statement 376 = .ok (.ifCond .eq 53, 3) := by decide +kernel
theorem dL_statement_379 : decode cL_statement 379 = .ok (.aload_n 0, 1) := by decide +kernel
theorem dL_statement_380 : decode cL_statement 380 = .ok (.bipush 98, 2) := by decide +kernel
theorem dL_statement_382 : decode cL_statement 382 = .ok (.invokestatic 121, 3) := by decide +kernel
theorem dL_statement_385 : decode cL_statement 385 = .ok (.ifCond .eq 44, 3) := by decide +kernel
theorem dL_statement_388 : decode cL_statement 388 = .ok (.aload_n 0, 1) := by decide +kernel
theorem dL_statement_389 : decode cL_statement 389 = .ok (.bipush 61, 2) := by decide +kernel
theorem dL_statement_391 : decode cL_statement 391 = .ok (.invokestatic 121, 3) := by decide +kernel
theorem dL_statement_394 : decode cL_statement 394 = .ok (.ifCond .eq 35, 3) := by decide +kernel
theorem dL_statement_397 : decode cL_statement 397 = .ok (.aload_n 0, 1) := by decide +kernel
theorem dL_statement_398 : decode cL_statement 398 = .ok (.iload_n 2, 1) := by decide +kernel
theorem dL_statement_399 : decode cL_statement 399 = .ok (.iconst 3, 1) := by decide +kernel
theorem dL_statement_400 : decode cL_statement 400 = .ok (.ishr, 1) := by decide +kernel
theorem dL_statement_401 : decode cL_statement 401 = .ok (.invokestatic 131, 3) := by decide +kernel
theorem dL_statement_404 : decode cL_statement 404 = .ok (.ifCond .eq 25, 3) := by decide +kernel
theorem dL_statement_407 : decode cL_statement 407 = .ok (.aload_n 0, 1) := by decide +kernel
theorem dL_statement_408 : decode cL_statement 408 = .ok (.bipush 59, 2) := by decide +kernel
theorem dL_statement_410 : decode cL_statement 410 = .ok (.invokestatic 121, 3) := by decide +kernel
theorem dL_statement_413 : decode cL_statement 413 = .ok (.ifCond .eq 16, 3) := by decide +kernel
theorem dL_statement_416 : decode cL_statement 416 = .ok (.aload_n 0, 1) := by decide +kernel
theorem dL_statement_417 : decode cL_statement 417 = .ok (.bipush 125, 2) := by decide +kernel
theorem dL_statement_419 : decode cL_statement 419 = .ok (.invokestatic 121, 3) := by decide +kernel
theorem dL_statement_422 : decode cL_statement 422 = .ok (.ifCond .eq 7, 3) := by decide +kernel
theorem dL_statement_425 : decode cL_statement 425 = .ok (.iconst 1, 1) := by decide +kernel
theorem dL_statement_426 : decode cL_statement 426 = .ok (.goto 4, 3) := by decide +kernel
theorem dL_statement_429 : decode cL_statement 429 = .ok (.iconst 0, 1) := by decide +kernel
theorem dL_statement_430 : decode cL_statement 430 = .ok (.istore 4, 2) := by decide +kernel
theorem dL_statement_432 : decode cL_statement 432 = .ok (.iload 4, 2) := by decide +kernel
theorem dL_statement_434 : decode cL_statement 434 = .ok (.ifCond .eq 17, 3) := by decide +kernel
theorem dL_statement_437 : decode cL_statement 437 = .ok (.iload_n 3, 1) := by decide +kernel
theorem dL_statement_438 : decode cL_statement 438 = .ok (.bipush 7, 2) := by decide +kernel
theorem dL_statement_440 : decode cL_statement 440 = .ok (.if_icmp .ge 7, 3) := by decide +kernel
theorem dL_statement_443 : decode cL_statement 443 = .ok (.iconst 1, 1) := by decide +kernel
theorem dL_statement_444 : decode cL_statement 444 = .ok (.goto 8, 3) := by decide +kernel
theorem dL_statement_447 : decode cL_statement 447 = .ok (.iconst 2, 1) := by decide +kernel
theorem dL_statement_448 : decode cL_statement 448 = .ok (.goto 4, 3) := by decide +kernel
theorem dL_statement_451 : decode cL_statement 451 = .ok (.iconst (-1), 1) := by decide +kernel
theorem dL_statement_452 : decode cL_statement 452 = .ok (.ireturn, 1) := by decide +kernel
theorem dL_begins_0 : decode cL_begins 0 = .ok (.aload_n 0, 1) := by decide +kernel
theorem dL_begins_1 : decode cL_begins 1 = .ok (.invokevirtual 134, 3) := by decide +kernel
theorem dL_begins_4 : decode cL_begins 4 = .ok (.ifCond .lt 28, 3) := by decide +kernel
theorem dL_begins_7 : decode cL_begins 7 = .ok (.aload_n 0, 1) := by decide +kernel
theorem dL_begins_8 : decode cL_begins 8 = .ok (.invokevirtual 107, 3) := by decide +kernel
theorem dL_begins_11 : decode cL_begins 11 = .ok (.ifCond .ne 21, 3) := by decide +kernel
theorem dL_begins_14 : decode cL_begins 14 = .ok (.aload_n 0, 1) := by decide +kernel
theorem dL_begins_15 : decode cL_begins 15 = .ok (.invokevirtual 137, 3) := by decide +kernel
theorem dL_begins_18 : decode cL_begins 18 = .ok (.ifCond .ne 14, 3) := by decide +kernel
theorem dL_begins_21 : decode cL_begins 21 = .ok (.aload_n 0, 1) := by decide +kernel
theorem dL_begins_22 : decode cL_begins 22 = .ok (.invokestatic 140, 3) := by decide +kernel
theorem dL_begins_25 : decode cL_begins 25 = .ok (.ifCond .ne 7, 3) := by decide +kernel
theorem dL_begins_28 : decode cL_begins 28 = .ok (.iconst 1, 1) := by decide +kernel
theorem dL_begins_29 : decode cL_begins 29 = .ok (.goto 4, 3) := by decide +kernel
theorem dL_begins_32 : decode cL_begins 32 = .ok (.iconst 0, 1) := by decide +kernel
theorem dL_begins_33 : decode cL_begins 33 = .ok (.istore_n 3, 1) := by decide +kernel
theorem dL_begins_34 : decode cL_begins 34 = .ok (.aload_n 1, 1) := by decide +kernel
theorem dL_begins_35 : decode cL_begins 35 = .ok (.iconst 3, 1) := by decide +kernel
theorem dL_begins_36 : decode cL_begins 36 = .ok (.iload_n 2, 1) := by decide +kernel
theorem dL_begins_37 : decode cL_begins 37 = .ok (.iconst 3, 1) := by decide +kernel
theorem dL_begins_38 : decode cL_begins 38 = .ok (.invokestatic 118, 3) := by decide +kernel
theorem dL_begins_41 : decode cL_begins 41 = .ok (.iastore, 1) := by decide +kernel
theorem dL_begins_42 : decode cL_begins 42 = .ok (.aload_n 1, 1) := by decide +kernel
theorem dL_begins_43 : decode cL_begins 43 = .ok (.iconst 3, 1) := by decide +kernel
theorem dL_begins_44 : decode cL_begins 44 = .ok (.iaload, 1) := by decide +kernel
theorem dL_begins_45 : decode cL_begins 45 = .ok (.iconst 1, 1) := by decide +kernel
theorem dL_begins_46 : decode cL_begins 46 = .ok (.if_icmp .ne 44, 3) := by decide +kernel
theorem dL_begins_49 : decode cL_begins 49 = .ok (.aload_n 1, 1) := by decide +kernel
theorem dL_begins_50 : decode cL_begins 50 = .ok (.iconst 3, 1) := by decide +kernel
theorem dL_begins_51 : decode cL_begins 51 = .ok (.iconst 2, 1) := by decide +kernel
theorem dL_begins_52 : decode cL_begins 52 = .ok (.iastore, 1) := by decide +kernel
theorem dL_begins_53 : decode cL_begins 53 = .ok (.iload_n 3, 1) := by decide +kernel
theorem dL_begins_54 : decode cL_begins 54 = .ok (.ifCond .eq 31, 3) := by decide +kernel
theorem dL_begins_57 : decode cL_begins 57 = .ok (.aload_n 0, 1) := by decide +kernel
theorem dL_begins_58 : decode cL_begins 58 = .ok (.ldc2_w 143, 3) := by decide +kernel
theorem dL_begins_61 : decode cL_begins 61 = .ok (.invokestatic 110, 3) := by decide +kernel
theorem dL_begins_64 : decode cL_begins 64 = .ok (.bipush 8, 2) := by decide +kernel
theorem dL_begins_66 : decode cL_begins 66 = .ok (.if_icmp .ne 19, 3) := by decide +kernel
theorem dL_begins_69 : decode cL_begins 69 = .ok (.aload_n 0, 1) := by decide +kernel
theorem dL_begins_70 : decode cL_begins 70 = .ok (.ldc2_w 145, 3) := by decide +kernel
theorem dL_begins_73 : decode cL_begins 73 = .ok (.invokestatic 110, 3) := by decide +kernel
theorem dL_begins_76 : decode cL_begins 76 = .ok (.bipush 16, 2) := by decide +kernel
theorem dL_begins_78 : decode cL_begins 78 = .ok (.if_icmp .ne 7, 3) := by decide +kernel
theorem dL_begins_81 : decode cL_begins 81 = .ok (.iconst 1, 1) := by decide +kernel
theorem dL_begins_82 : decode cL_begins 82 = .ok (.goto 4, 3) := by decide +kernel
theorem dL_begins_85 : decode cL_begins 85 = .ok (.iconst 0, 1) := by decide +kernel
theorem dL_begins_86 : decode cL_begins 86 = .ok (.istore_n 3, 1) := by decide +kernel
theorem dL_begins_87 : decode cL_begins 87 = .ok (.goto 53, 3) := by decide +kernel
theorem dL_begins_90 : decode cL_begins 90 = .ok (.aload_n 1, 1) := by decide +kernel
theorem dL_begins_91 : decode cL_begins 91 = .ok (.iconst 3, 1) := by decide +kernel
theorem dL_begins_92 : decode cL_begins 92 = .ok (.iconst 3, 1) := by decide +kernel
theorem dL_begins_93 : decode cL_begins 93 = .ok (.iastore, 1) := by decide +kernel
theorem dL_begins_94 : decode cL_begins 94 = .ok (.iload_n 3, 1) := by decide +kernel
theorem dL_begins_95 : decode cL_begins 95 = .ok (.ifCond .eq 43, 3) := by decide +kernel
theorem dL_begins_98 : decode cL_begins 98 = .ok (.aload_n 0, 1) := by decide +kernel
theorem dL_begins_99 : decode cL_begins 99 = .ok (.ldc2_w 143, 3) := by decide +kernel
theorem dL_begins_102 : decode cL_begins 102 = .ok (.invokestatic 110, 3) := by decide +kernel
theorem dL_begins_105 : decode cL_begins 105 = .ok (.bipush 8, 2) := by decide +kernel
theorem dL_begins_107 : decode cL_begins 107 = .ok (.if_icmp .ne 31, 3) := by decide +kernel
theorem dL_begins_110 : decode cL_begins 110 = .ok (.aload_n 0, 1) := by decide +kernel
theorem dL_begins_111 : decode cL_begins 111 = .ok (.ldc2_w 147, 3) := by decide +kernel
theorem dL_begins_114 : decode cL_begins 114 = .ok (.invokestatic 110, 3) := by decide +kernel
theorem dL_begins_117 : decode cL_begins 117 = .ok (.bipush 16, 2) := by decide +kernel
theorem dL_begins_119 : decode cL_begins 119 = .ok (.if_icmp .ne 19, 3) := by decide +kernel
theorem dL_begins_122 : decode cL_begins 122 = .ok (.aload_n 0, 1) := by decide +kernel
theorem dL_begins_123 : decode cL_begins 123 = .ok (.ldc2_w 149, 3) := by decide +kernel
theorem dL_begins_126 : decode cL_begins 126 = .ok (.invokestatic 110, 3) := by decide +kernel
theorem dL_begins_129 : decode cL_begins 129 = .ok (.bipush 23, 2) := by decide +kernel
theorem dL_begins_131 : decode cL_begins 131 = .ok (.if_icmp .ne 7, 3) := by decide +kernel
theorem dL_begins_134 : decode cL_begins 134 = .ok (.iconst 1, 1) := by decide +kernel
theorem dL_begins_135 : decode cL_begins 135 = .ok (.goto 4, 3) := by decide +kernel
theorem dL_begins_138 : decode cL_begins 138 = .ok (.iconst 0, 1) := by decide +kernel
theorem dL_begins_139 : decode cL_begins 139 = .ok (.istore_n 3, 1) := by decide +kernel
theorem dL_begins_140 : decode cL_begins 140 = .ok (.iload_n 3, 1) := by decide +kernel
theorem dL_begins_141 : decode cL_begins 141 = .ok (.ifCond .eq 24, 3) := by decide +kernel
theorem dL_begins_144 : decode cL_begins 144 = .ok (.aload_n 0, 1) := by decide +kernel
theorem dL_begins_145 : decode cL_begins 145 = .ok (.invokevirtual 137, 3) := by decide +kernel
theorem dL_begins_148 : decode cL_begins 148 = .ok (.ifCond .ne 17, 3) := by decide +kernel
theorem dL_begins_151 : decode cL_begins 151 = .ok (.aload_n 0, 1) := by decide +kernel
theorem dL_begins_152 : decode cL_begins 152 = .ok (.invokestatic 140, 3) := by decide +kernel
theorem dL_begins_155 : decode cL_begins 155 = .ok (.aload_n 1, 1) := by decide +kernel
theorem dL_begins_156 : decode cL_begins 156 = .ok (.iconst 3, 1) := by decide +kernel
theorem dL_begins_157 : decode cL_begins 157 = .ok (.iaload, 1) := by decide +kernel
theorem dL_begins_158 : decode cL_begins 158 = .ok (.if_icmp .ne 7, 3) := by decide +kernel
theorem dL_begins_161 : decode cL_begins 161 = .ok (.iconst 1, 1) := by decide +kernel
theorem dL_begins_162 : decode cL_begins 162 = .ok (.goto 4, 3) := by decide +kernel
theorem dL_begins_165 : decode cL_begins 165 = .ok (.iconst 0, 1) := by decide +kernel
theorem dL_begins_166 : decode cL_begins 166 = .ok (.ireturn, 1) := by decide +kernel
theorem dL_goesOn_0 : decode cL_goesOn 0 = .ok (.iconst 1, 1) := by decide +kernel
theorem dL_goesOn_1 : decode cL_goesOn 1 = .ok (.iload_n 2, 1) := by decide +kernel
theorem dL_goesOn_2 : decode cL_goesOn 2 = .ok (.iconst 3, 1) := by decide +kernel
theorem dL_goesOn_3 : decode cL_goesOn 3 = .ok (.invokestatic 118, 3) := by decide +kernel
theorem dL_goesOn_6 : decode cL_goesOn 6 = .ok (.iadd, 1) := by decide +kernel
theorem dL_goesOn_7 : decode cL_goesOn 7 = .ok (.istore 4, 2) := by decide +kernel
theorem dL_goesOn_9 : decode cL_goesOn 9 = .ok (.iconst 0, 1) := by decide +kernel
theorem dL_goesOn_10 : decode cL_goesOn 10 = .ok (.istore 5, 2) := by decide +kernel
theorem dL_goesOn_12 : decode cL_goesOn 12 = .ok (.iload 5, 2) := by decide +kernel
theorem dL_goesOn_14 : decode cL_goesOn 14 = .ok (.iload 4, 2) := by decide +kernel
theorem dL_goesOn_16 : decode cL_goesOn 16 = .ok (.if_icmp .ge 50, 3) := by decide +kernel
theorem dL_goesOn_19 : decode cL_goesOn 19 = .ok (.aload_n 0, 1) := by decide +kernel
theorem dL_goesOn_20 : decode cL_goesOn 20 = .ok (.invokevirtual 107, 3) := by decide +kernel
theorem dL_goesOn_23 : decode cL_goesOn 23 = .ok (.sipush 240, 3) := by decide +kernel
theorem dL_goesOn_26 : decode cL_goesOn 26 = .ok (.if_icmp .ge 40, 3) := by decide +kernel
theorem dL_goesOn_29 : decode cL_goesOn 29 = .ok (.aload_n 0, 1) := by decide +kernel
theorem dL_goesOn_30 : decode cL_goesOn 30 = .ok (.iload_n 2, 1) := by decide +kernel
theorem dL_goesOn_31 : decode cL_goesOn 31 = .ok (.iconst 2, 1) := by decide +kernel
theorem dL_goesOn_32 : decode cL_goesOn 32 = .ok (.iload 5, 2) := by decide +kernel
theorem dL_goesOn_34 : decode cL_goesOn 34 = .ok (.iadd, 1) := by decide +kernel
theorem dL_goesOn_35 : decode cL_goesOn 35 = .ok (.ishr, 1) := by decide +kernel
theorem dL_goesOn_36 : decode cL_goesOn 36 = .ok (.iload_n 3, 1) := by decide +kernel
theorem dL_goesOn_37 : decode cL_goesOn 37 = .ok (.iload 5, 2) := by decide +kernel
theorem dL_goesOn_39 : decode cL_goesOn 39 = .ok (.ishr, 1) := by decide +kernel
theorem dL_goesOn_40 : decode cL_goesOn 40 = .ok (.invokestatic 151, 3) := by decide +kernel
theorem dL_goesOn_43 : decode cL_goesOn 43 = .ok (.istore 6, 2) := by decide +kernel
theorem dL_goesOn_45 : decode cL_goesOn 45 = .ok (.aload_n 1, 1) := by decide +kernel
theorem dL_goesOn_46 : decode cL_goesOn 46 = .ok (.iconst 3, 1) := by decide +kernel
theorem dL_goesOn_47 : decode cL_goesOn 47 = .ok (.dup2, 1) := by decide +kernel
theorem dL_goesOn_48 : decode cL_goesOn 48 = .ok (.iaload, 1) := by decide +kernel
theorem dL_goesOn_49 : decode cL_goesOn 49 = .ok (.iload 6, 2) := by decide +kernel
theorem dL_goesOn_51 : decode cL_goesOn 51 = .ok (.iadd, 1) := by decide +kernel
theorem dL_goesOn_52 : decode cL_goesOn 52 = .ok (.iastore, 1) := by decide +kernel
theorem dL_goesOn_53 : decode cL_goesOn 53 = .ok (.iload 6, 2) := by decide +kernel
theorem dL_goesOn_55 : decode cL_goesOn 55 = .ok (.ifCond .ge 5, 3) := by decide +kernel
theorem dL_goesOn_58 : decode cL_goesOn 58 = .ok (.iconst 0, 1) := by decide +kernel
theorem dL_goesOn_59 : decode cL_goesOn 59 = .ok (.ireturn, 1) := by decide +kernel
theorem dL_goesOn_60 : decode cL_goesOn 60 = .ok (.iinc 5 1, 3) := by decide +kernel
theorem dL_goesOn_63 : decode cL_goesOn 63 = .ok (.goto (-51), 3) := by decide +kernel
theorem dL_goesOn_66 : decode cL_goesOn 66 = .ok (.aload_n 0, 1) := by decide +kernel
theorem dL_goesOn_67 : decode cL_goesOn 67 = .ok (.invokevirtual 137, 3) := by decide +kernel
theorem dL_goesOn_70 : decode cL_goesOn 70 = .ok (.ifCond .ne 25, 3) := by decide +kernel
theorem dL_goesOn_73 : decode cL_goesOn 73 = .ok (.aload_n 0, 1) := by decide +kernel
theorem dL_goesOn_74 : decode cL_goesOn 74 = .ok (.invokevirtual 155, 3) := by decide +kernel
theorem dL_goesOn_77 : decode cL_goesOn 77 = .ok (.iconst (-1), 1) := by decide +kernel
theorem dL_goesOn_78 : decode cL_goesOn 78 = .ok (.if_icmp .ne 17, 3) := by decide +kernel
theorem dL_goesOn_81 : decode cL_goesOn 81 = .ok (.aload_n 0, 1) := by decide +kernel
theorem dL_goesOn_82 : decode cL_goesOn 82 = .ok (.invokestatic 140, 3) := by decide +kernel
theorem dL_goesOn_85 : decode cL_goesOn 85 = .ok (.aload_n 1, 1) := by decide +kernel
theorem dL_goesOn_86 : decode cL_goesOn 86 = .ok (.iconst 3, 1) := by decide +kernel
theorem dL_goesOn_87 : decode cL_goesOn 87 = .ok (.iaload, 1) := by decide +kernel
theorem dL_goesOn_88 : decode cL_goesOn 88 = .ok (.if_icmp .ne 7, 3) := by decide +kernel
theorem dL_goesOn_91 : decode cL_goesOn 91 = .ok (.iconst 1, 1) := by decide +kernel
theorem dL_goesOn_92 : decode cL_goesOn 92 = .ok (.goto 4, 3) := by decide +kernel
theorem dL_goesOn_95 : decode cL_goesOn 95 = .ok (.iconst 0, 1) := by decide +kernel
theorem dL_goesOn_96 : decode cL_goesOn 96 = .ok (.ireturn, 1) := by decide +kernel
theorem dL_tries_0 : decode cL_tries 0 = .ok (.aload_n 0, 1) := by decide +kernel
theorem dL_tries_1 : decode cL_tries 1 = .ok (.iload_n 1, 1) := by decide +kernel
theorem dL_tries_2 : decode cL_tries 2 = .ok (.iload_n 2, 1) := by decide +kernel
theorem dL_tries_3 : decode cL_tries 3 = .ok (.iload_n 3, 1) := by decide +kernel
theorem dL_tries_4 : decode cL_tries 4 = .ok (.invokestatic 158, 3) := by decide +kernel
theorem dL_tries_7 : decode cL_tries 7 = .ok (.istore 4, 2) := by decide +kernel
theorem dL_tries_9 : decode cL_tries 9 = .ok (.aload_n 0, 1) := by decide +kernel
theorem dL_tries_10 : decode cL_tries 10 = .ok (.invokevirtual 161, 3) := by decide +kernel
theorem dL_tries_13 : decode cL_tries 13 = .ok (.istore 5, 2) := by decide +kernel
theorem dL_tries_15 : decode cL_tries 15 = .ok (.aload_n 0, 1) := by decide +kernel
theorem dL_tries_16 : decode cL_tries 16 = .ok (.invokevirtual 164, 3) := by decide +kernel
theorem dL_tries_19 : decode cL_tries 19 = .ok (.istore 6, 2) := by decide +kernel
theorem dL_tries_21 : decode cL_tries 21 = .ok (.bipush 8, 2) := by decide +kernel
theorem dL_tries_23 : decode cL_tries 23 = .ok (.newarray .int, 2) := by decide +kernel
theorem dL_tries_25 : decode cL_tries 25 = .ok (.astore 7, 2) := by decide +kernel
theorem dL_tries_27 : decode cL_tries 27 = .ok (.bipush 32, 2) := by decide +kernel
theorem dL_tries_29 : decode cL_tries 29 = .ok (.newarray .int, 2) := by decide +kernel
theorem dL_tries_31 : decode cL_tries 31 = .ok (.astore 8, 2) := by decide +kernel
theorem dL_tries_33 : decode cL_tries 33 = .ok (.iload 4, 2) := by decide +kernel
theorem dL_tries_35 : decode cL_tries 35 = .ok (.ifCond .lt 80, 3) := by decide +kernel
theorem dL_tries_38 : decode cL_tries 38 = .ok (.iload 4, 2) := by decide +kernel
theorem dL_tries_40 : decode cL_tries 40 = .ok (.bipush 8, 2) := by decide +kernel
theorem dL_tries_42 : decode cL_tries 42 = .ok (.if_icmp .ge 73, 3) := by decide +kernel
theorem dL_tries_45 : decode cL_tries 45 = .ok (.iload 5, 2) := by decide +kernel
theorem dL_tries_47 : decode cL_tries 47 = .ok (.ifCond .lt 68, 3) := by decide +kernel
theorem dL_tries_50 : decode cL_tries 50 = .ok (.iload 5, 2) := by decide +kernel
theorem dL_tries_52 : decode cL_tries 52 = .ok (.iload_n 1, 1) := by decide +kernel
theorem dL_tries_53 : decode cL_tries 53 = .ok (.if_icmp .gt 62, 3) := by decide +kernel
theorem dL_tries_56 : decode cL_tries 56 = .ok (.iload 6, 2) := by decide +kernel
theorem dL_tries_58 : decode cL_tries 58 = .ok (.ifCond .lt 57, 3) := by decide +kernel
theorem dL_tries_61 : decode cL_tries 61 = .ok (.iload 6, 2) := by decide +kernel
theorem dL_tries_63 : decode cL_tries 63 = .ok (.bipush 9, 2) := by decide +kernel
theorem dL_tries_65 : decode cL_tries 65 = .ok (.if_icmp .ge 50, 3) := by decide +kernel
theorem dL_tries_68 : decode cL_tries 68 = .ok (.iload 4, 2) := by decide +kernel
theorem dL_tries_70 : decode cL_tries 70 = .ok (.iconst 1, 1) := by decide +kernel
theorem dL_tries_71 : decode cL_tries 71 = .ok (.if_icmp .ne 8, 3) := by decide +kernel
theorem dL_tries_74 : decode cL_tries 74 = .ok (.iload 5, 2) := by decide +kernel
theorem dL_tries_76 : decode cL_tries 76 = .ok (.ifCond .ne 39, 3) := by decide +kernel
theorem dL_tries_79 : decode cL_tries 79 = .ok (.aload_n 0, 1) := by decide +kernel
theorem dL_tries_80 : decode cL_tries 80 = .ok (.iload 6, 2) := by decide +kernel
theorem dL_tries_82 : decode cL_tries 82 = .ok (.invokestatic 167, 3) := by decide +kernel
theorem dL_tries_85 : decode cL_tries 85 = .ok (.ldc 29, 2) := by decide +kernel
theorem dL_tries_87 : decode cL_tries 87 = .ok (.if_icmp .ne 28, 3) := by decide +kernel
theorem dL_tries_90 : decode cL_tries 90 = .ok (.aload_n 0, 1) := by decide +kernel
theorem dL_tries_91 : decode cL_tries 91 = .ok (.iconst (-1), 1) := by decide +kernel
theorem dL_tries_92 : decode cL_tries 92 = .ok (.invokestatic 167, 3) := by decide +kernel
theorem dL_tries_95 : decode cL_tries 95 = .ok (.ldc 29, 2) := by decide +kernel
theorem dL_tries_97 : decode cL_tries 97 = .ok (.if_icmp .ne 18, 3) := by decide +kernel
theorem dL_tries_100 : decode cL_tries 100 = .ok (.aload_n 0, 1) := by decide +kernel
theorem dL_tries_101 : decode cL_tries 101 = .ok (.bipush 32, 2) := by decide +kernel
theorem dL_tries_103 : decode cL_tries 103 = .ok (.invokestatic 169, 3) := by decide +kernel
theorem dL_tries_106 : decode cL_tries 106 = .ok (.ldc 29, 2) := by decide +kernel
theorem dL_tries_108 : decode cL_tries 108 = .ok (.if_icmp .ne 7, 3) := by decide +kernel
theorem dL_tries_111 : decode cL_tries 111 = .ok (.iconst 1, 1) := by decide +kernel
theorem dL_tries_112 : decode cL_tries 112 = .ok (.goto 4, 3) := by decide +kernel
theorem dL_tries_115 : decode cL_tries 115 = .ok (.iconst 0, 1) := by decide +kernel
theorem dL_tries_116 : decode cL_tries 116 = .ok (.istore 9, 2) := by decide +kernel
theorem dL_tries_118 : decode cL_tries 118 = .ok (.iconst 0, 1) := by decide +kernel
theorem dL_tries_119 : decode cL_tries 119 = .ok (.istore 10, 2) := by decide +kernel
theorem dL_tries_121 : decode cL_tries 121 = .ok (.iload 10, 2) := by decide +kernel
theorem dL_tries_123 : decode cL_tries 123 = .ok (.iload 6, 2) := by decide +kernel
theorem dL_tries_125 : decode cL_tries 125 = .ok (.if_icmp .ge 20, 3) := by decide +kernel
theorem dL_tries_128 : decode cL_tries 128 = .ok (.aload 7, 2) := by decide +kernel
theorem dL_tries_130 : decode cL_tries 130 = .ok (.iload 10, 2) := by decide +kernel
theorem dL_tries_132 : decode cL_tries 132 = .ok (.aload_n 0, 1) := by decide +kernel
theorem dL_tries_133 : decode cL_tries 133 = .ok (.iload 10, 2) := by decide +kernel
theorem dL_tries_135 : decode cL_tries 135 = .ok (.invokestatic 167, 3) := by decide +kernel
theorem dL_tries_138 : decode cL_tries 138 = .ok (.iastore, 1) := by decide +kernel
theorem dL_tries_139 : decode cL_tries 139 = .ok (.iinc 10 1, 3) := by decide +kernel
theorem dL_tries_142 : decode cL_tries 142 = .ok (.goto (-21), 3) := by decide +kernel
theorem dL_tries_145 : decode cL_tries 145 = .ok (.iconst 0, 1) := by decide +kernel
theorem dL_tries_146 : decode cL_tries 146 = .ok (.istore 10, 2) := by decide +kernel
theorem dL_tries_148 : decode cL_tries 148 = .ok (.iload 10, 2) := by decide +kernel
theorem dL_tries_150 : decode cL_tries 150 = .ok (.bipush 32, 2) := by decide +kernel
theorem dL_tries_152 : decode cL_tries 152 = .ok (.if_icmp .ge 20, 3) := by decide +kernel
theorem dL_tries_155 : decode cL_tries 155 = .ok (.aload 8, 2) := by decide +kernel
theorem dL_tries_157 : decode cL_tries 157 = .ok (.iload 10, 2) := by decide +kernel
theorem dL_tries_159 : decode cL_tries 159 = .ok (.aload_n 0, 1) := by decide +kernel
theorem dL_tries_160 : decode cL_tries 160 = .ok (.iload 10, 2) := by decide +kernel
theorem dL_tries_162 : decode cL_tries 162 = .ok (.invokestatic 169, 3) := by decide +kernel
theorem dL_tries_165 : decode cL_tries 165 = .ok (.iastore, 1) := by decide +kernel
theorem dL_tries_166 : decode cL_tries 166 = .ok (.iinc 10 1, 3) := by decide +kernel
theorem dL_tries_169 : decode cL_tries 169 = .ok (.goto (-21), 3) := by decide +kernel
theorem dL_tries_172 : decode cL_tries 172 = .ok (.iconst 0, 1) := by decide +kernel
theorem dL_tries_173 : decode cL_tries 173 = .ok (.istore 10, 2) := by decide +kernel
theorem dL_tries_175 : decode cL_tries 175 = .ok (.iload 10, 2) := by decide +kernel
theorem dL_tries_177 : decode cL_tries 177 = .ok (.iconst 3, 1) := by decide +kernel
theorem dL_tries_178 : decode cL_tries 178 = .ok (.if_icmp .ge 173, 3) := by decide +kernel
theorem dL_tries_181 : decode cL_tries 181 = .ok (.iload 9, 2) := by decide +kernel
theorem dL_tries_183 : decode cL_tries 183 = .ok (.ifCond .eq 168, 3) := by decide +kernel
theorem dL_tries_186 : decode cL_tries 186 = .ok (.iload 10, 2) := by decide +kernel
theorem dL_tries_188 : decode cL_tries 188 = .ok (.ifCond .ne 7, 3) := by decide +kernel
theorem dL_tries_191 : decode cL_tries 191 = .ok (.iload_n 1, 1) := by decide +kernel
theorem dL_tries_192 : decode cL_tries 192 = .ok (.goto 7, 3) := by decide +kernel
theorem dL_tries_195 : decode cL_tries 195 = .ok (.iload_n 1, 1) := by decide +kernel
theorem dL_tries_196 : decode cL_tries 196 = .ok (.iload 5, 2) := by decide +kernel
theorem dL_tries_198 : decode cL_tries 198 = .ok (.isub, 1) := by decide +kernel
theorem dL_tries_199 : decode cL_tries 199 = .ok (.istore 11, 2) := by decide +kernel
theorem dL_tries_201 : decode cL_tries 201 = .ok (.iload 10, 2) := by decide +kernel
theorem dL_tries_203 : decode cL_tries 203 = .ok (.iconst 1, 1) := by decide +kernel
theorem dL_tries_204 : decode cL_tries 204 = .ok (.if_icmp .ne 14, 3) := by decide +kernel
theorem dL_tries_207 : decode cL_tries 207 = .ok (.aload_n 0, 1) := by decide +kernel
theorem dL_tries_208 : decode cL_tries 208 = .ok (.iload 11, 2) := by decide +kernel
theorem dL_tries_210 : decode cL_tries 210 = .ok (.iload_n 2, 1) := by decide +kernel
theorem dL_tries_211 : decode cL_tries 211 = .ok (.iload_n 3, 1) := by decide +kernel
theorem dL_tries_212 : decode cL_tries 212 = .ok (.invokestatic 158, 3) := by decide +kernel
theorem dL_tries_215 : decode cL_tries 215 = .ok (.goto 11, 3) := by decide +kernel
theorem dL_tries_218 : decode cL_tries 218 = .ok (.aload_n 0, 1) := by decide +kernel
theorem dL_tries_219 : decode cL_tries 219 = .ok (.iload 11, 2) := by decide +kernel
theorem dL_tries_221 : decode cL_tries 221 = .ok (.iload_n 2, 1) := by decide +kernel
theorem dL_tries_222 : decode cL_tries 222 = .ok (.iload_n 3, 1) := by decide +kernel
theorem dL_tries_223 : decode cL_tries 223 = .ok (.invokestatic 171, 3) := by decide +kernel
theorem dL_tries_226 : decode cL_tries 226 = .ok (.iload 4, 2) := by decide +kernel
theorem dL_tries_228 : decode cL_tries 228 = .ok (.if_icmp .ne 30, 3) := by decide +kernel
theorem dL_tries_231 : decode cL_tries 231 = .ok (.aload_n 0, 1) := by decide +kernel
theorem dL_tries_232 : decode cL_tries 232 = .ok (.invokevirtual 161, 3) := by decide +kernel
theorem dL_tries_235 : decode cL_tries 235 = .ok (.iload 11, 2) := by decide +kernel
theorem dL_tries_237 : decode cL_tries 237 = .ok (.iload_n 1, 1) := by decide +kernel
theorem dL_tries_238 : decode cL_tries 238 = .ok (.isub, 1) := by decide +kernel
theorem dL_tries_239 : decode cL_tries 239 = .ok (.iload 5, 2) := by decide +kernel
theorem dL_tries_241 : decode cL_tries 241 = .ok (.iadd, 1) := by decide +kernel
theorem dL_tries_242 : decode cL_tries 242 = .ok (.if_icmp .ne 16, 3) := by decide +kernel
theorem dL_tries_245 : decode cL_tries 245 = .ok (.aload_n 0, 1) := by decide +kernel
theorem dL_tries_246 : decode cL_tries 246 = .ok (.invokevirtual 164, 3) := by decide +kernel
theorem dL_tries_249 : decode cL_tries 249 = .ok (.iload 6, 2) := by decide +kernel
theorem dL_tries_251 : decode cL_tries 251 = .ok (.if_icmp .ne 7, 3) := by decide +kernel
theorem dL_tries_254 : decode cL_tries 254 = .ok (.iconst 1, 1) := by decide +kernel
theorem dL_tries_255 : decode cL_tries 255 = .ok (.goto 4, 3) := by decide +kernel
theorem dL_tries_258 : decode cL_tries 258 = .ok (.iconst 0, 1) := by decide +kernel
theorem dL_tries_259 : decode cL_tries 259 = .ok (.istore 9, 2) := by decide +kernel
theorem dL_tries_261 : decode cL_tries 261 = .ok (.iconst 0, 1) := by decide +kernel
theorem dL_tries_262 : decode cL_tries 262 = .ok (.istore 12, 2) := by decide +kernel
theorem dL_tries_264 : decode cL_tries 264 = .ok (.iload 12, 2) := by decide +kernel
theorem dL_tries_266 : decode cL_tries 266 = .ok (.iload 6, 2) := by decide +kernel
theorem dL_tries_268 : decode cL_tries 268 = .ok (.if_icmp .ge 35, 3) := by decide +kernel
theorem dL_tries_271 : decode cL_tries 271 = .ok (.iload 9, 2) := by decide +kernel
theorem dL_tries_273 : decode cL_tries 273 = .ok (.ifCond .eq 21, 3) := by decide +kernel
theorem dL_tries_276 : decode cL_tries 276 = .ok (.aload_n 0, 1) := by decide +kernel
theorem dL_tries_277 : decode cL_tries 277 = .ok (.iload 12, 2) := by decide +kernel
theorem dL_tries_279 : decode cL_tries 279 = .ok (.invokestatic 167, 3) := by decide +kernel
theorem dL_tries_282 : decode cL_tries 282 = .ok (.aload 7, 2) := by decide +kernel
theorem dL_tries_284 : decode cL_tries 284 = .ok (.iload 12, 2) := by decide +kernel
theorem dL_tries_286 : decode cL_tries 286 = .ok (.iaload, 1) := by decide +kernel
theorem dL_tries_287 : decode cL_tries 287 = .ok (.if_icmp .ne 7, 3) := by decide +kernel
theorem dL_tries_290 : decode cL_tries 290 = .ok (.iconst 1, 1) := by decide +kernel
theorem dL_tries_291 : decode cL_tries 291 = .ok (.goto 4, 3) := by decide +kernel
theorem dL_tries_294 : decode cL_tries 294 = .ok (.iconst 0, 1) := by decide +kernel
theorem dL_tries_295 : decode cL_tries 295 = .ok (.istore 9, 2) := by decide +kernel
theorem dL_tries_297 : decode cL_tries 297 = .ok (.iinc 12 1, 3) := by decide +kernel
theorem dL_tries_300 : decode cL_tries 300 = .ok (.goto (-36), 3) := by decide +kernel
theorem dL_tries_303 : decode cL_tries 303 = .ok (.iconst 0, 1) := by decide +kernel
theorem dL_tries_304 : decode cL_tries 304 = .ok (.istore 12, 2) := by decide +kernel
theorem dL_tries_306 : decode cL_tries 306 = .ok (.iload 12, 2) := by decide +kernel
theorem dL_tries_308 : decode cL_tries 308 = .ok (.bipush 32, 2) := by decide +kernel
theorem dL_tries_310 : decode cL_tries 310 = .ok (.if_icmp .ge 35, 3) := by decide +kernel
theorem dL_tries_313 : decode cL_tries 313 = .ok (.iload 9, 2) := by decide +kernel
theorem dL_tries_315 : decode cL_tries 315 = .ok (.ifCond .eq 21, 3) := by decide +kernel
theorem dL_tries_318 : decode cL_tries 318 = .ok (.aload_n 0, 1) := by decide +kernel
theorem dL_tries_319 : decode cL_tries 319 = .ok (.iload 12, 2) := by decide +kernel
theorem dL_tries_321 : decode cL_tries 321 = .ok (.invokestatic 169, 3) := by decide +kernel
theorem dL_tries_324 : decode cL_tries 324 = .ok (.aload 8, 2) := by decide +kernel
theorem dL_tries_326 : decode cL_tries 326 = .ok (.iload 12, 2) := by decide +kernel
theorem dL_tries_328 : decode cL_tries 328 = .ok (.iaload, 1) := by decide +kernel
theorem dL_tries_329 : decode cL_tries 329 = .ok (.if_icmp .ne 7, 3) := by decide +kernel
theorem dL_tries_332 : decode cL_tries 332 = .ok (.iconst 1, 1) := by decide +kernel
theorem dL_tries_333 : decode cL_tries 333 = .ok (.goto 4, 3) := by decide +kernel
theorem dL_tries_336 : decode cL_tries 336 = .ok (.iconst 0, 1) := by decide +kernel
theorem dL_tries_337 : decode cL_tries 337 = .ok (.istore 9, 2) := by decide +kernel
theorem dL_tries_339 : decode cL_tries 339 = .ok (.iinc 12 1, 3) := by decide +kernel
theorem dL_tries_342 : decode cL_tries 342 = .ok (.goto (-36), 3) := by decide +kernel
theorem dL_tries_345 : decode cL_tries 345 = .ok (.iinc 10 1, 3) := by decide +kernel
theorem dL_tries_348 : decode cL_tries 348 = .ok (.goto (-173), 3) := by decide +kernel
theorem dL_tries_351 : decode cL_tries 351 = .ok (.iload 9, 2) := by decide +kernel
theorem dL_tries_353 : decode cL_tries 353 = .ok (.ifCond .eq 92, 3) := by decide +kernel
theorem dL_tries_356 : decode cL_tries 356 = .ok (.iload_n 1, 1) := by decide +kernel
theorem dL_tries_357 : decode cL_tries 357 = .ok (.iload 5, 2) := by decide +kernel
theorem dL_tries_359 : decode cL_tries 359 = .ok (.if_icmp .le 86, 3) := by decide +kernel
theorem dL_tries_362 : decode cL_tries 362 = .ok (.aload_n 0, 1) := by decide +kernel
theorem dL_tries_363 : decode cL_tries 363 = .ok (.iload_n 1, 1) := by decide +kernel
theorem dL_tries_364 : decode cL_tries 364 = .ok (.iload 5, 2) := by decide +kernel
theorem dL_tries_366 : decode cL_tries 366 = .ok (.isub, 1) := by decide +kernel
theorem dL_tries_367 : decode cL_tries 367 = .ok (.iconst 1, 1) := by decide +kernel
theorem dL_tries_368 : decode cL_tries 368 = .ok (.isub, 1) := by decide +kernel
theorem dL_tries_369 : decode cL_tries 369 = .ok (.iload_n 2, 1) := by decide +kernel
theorem dL_tries_370 : decode cL_tries 370 = .ok (.iload_n 3, 1) := by decide +kernel
theorem dL_tries_371 : decode cL_tries 371 = .ok (.invokestatic 158, 3) := by decide +kernel
theorem dL_tries_374 : decode cL_tries 374 = .ok (.iconst 1, 1) := by decide +kernel
theorem dL_tries_375 : decode cL_tries 375 = .ok (.if_icmp .ne 23, 3) := by decide +kernel
theorem dL_tries_378 : decode cL_tries 378 = .ok (.aload_n 0, 1) := by decide +kernel
theorem dL_tries_379 : decode cL_tries 379 = .ok (.invokevirtual 161, 3) := by decide +kernel
theorem dL_tries_382 : decode cL_tries 382 = .ok (.ifCond .ne 16, 3) := by decide +kernel
theorem dL_tries_385 : decode cL_tries 385 = .ok (.aload_n 0, 1) := by decide +kernel
theorem dL_tries_386 : decode cL_tries 386 = .ok (.invokevirtual 164, 3) := by decide +kernel
theorem dL_tries_389 : decode cL_tries 389 = .ok (.iload 6, 2) := by decide +kernel
theorem dL_tries_391 : decode cL_tries 391 = .ok (.if_icmp .gt 7, 3) := by decide +kernel
theorem dL_tries_394 : decode cL_tries 394 = .ok (.iconst 1, 1) := by decide +kernel
theorem dL_tries_395 : decode cL_tries 395 = .ok (.goto 4, 3) := by decide +kernel
theorem dL_tries_398 : decode cL_tries 398 = .ok (.iconst 0, 1) := by decide +kernel
theorem dL_tries_399 : decode cL_tries 399 = .ok (.istore 9, 2) := by decide +kernel
theorem dL_tries_401 : decode cL_tries 401 = .ok (.iconst 0, 1) := by decide +kernel
theorem dL_tries_402 : decode cL_tries 402 = .ok (.istore 10, 2) := by decide +kernel
theorem dL_tries_404 : decode cL_tries 404 = .ok (.iload 10, 2) := by decide +kernel
theorem dL_tries_406 : decode cL_tries 406 = .ok (.aload_n 0, 1) := by decide +kernel
theorem dL_tries_407 : decode cL_tries 407 = .ok (.invokevirtual 164, 3) := by decide +kernel
theorem dL_tries_410 : decode cL_tries 410 = .ok (.if_icmp .ge 35, 3) := by decide +kernel
theorem dL_tries_413 : decode cL_tries 413 = .ok (.iload 9, 2) := by decide +kernel
theorem dL_tries_415 : decode cL_tries 415 = .ok (.ifCond .eq 21, 3) := by decide +kernel
theorem dL_tries_418 : decode cL_tries 418 = .ok (.aload_n 0, 1) := by decide +kernel
theorem dL_tries_419 : decode cL_tries 419 = .ok (.iload 10, 2) := by decide +kernel
theorem dL_tries_421 : decode cL_tries 421 = .ok (.invokestatic 167, 3) := by decide +kernel
theorem dL_tries_424 : decode cL_tries 424 = .ok (.aload 7, 2) := by decide +kernel
theorem dL_tries_426 : decode cL_tries 426 = .ok (.iload 10, 2) := by decide +kernel
theorem dL_tries_428 : decode cL_tries 428 = .ok (.iaload, 1) := by decide +kernel
theorem dL_tries_429 : decode cL_tries 429 = .ok (.if_icmp .ne 7, 3) := by decide +kernel
theorem dL_tries_432 : decode cL_tries 432 = .ok (.iconst 1, 1) := by decide +kernel
theorem dL_tries_433 : decode cL_tries 433 = .ok (.goto 4, 3) := by decide +kernel
theorem dL_tries_436 : decode cL_tries 436 = .ok (.iconst 0, 1) := by decide +kernel
theorem dL_tries_437 : decode cL_tries 437 = .ok (.istore 9, 2) := by decide +kernel
theorem dL_tries_439 : decode cL_tries 439 = .ok (.iinc 10 1, 3) := by decide +kernel
theorem dL_tries_442 : decode cL_tries 442 = .ok (.goto (-38), 3) := by decide +kernel
theorem dL_tries_445 : decode cL_tries 445 = .ok (.iload 9, 2) := by decide +kernel
theorem dL_tries_447 : decode cL_tries 447 = .ok (.ireturn, 1) := by decide +kernel
theorem dL_spoils_0 : decode cL_spoils 0 = .ok (.aload_n 0, 1) := by decide +kernel
theorem dL_spoils_1 : decode cL_spoils 1 = .ok (.invokevirtual 107, 3) := by decide +kernel
theorem dL_spoils_4 : decode cL_spoils 4 = .ok (.istore 4, 2) := by decide +kernel
theorem dL_spoils_6 : decode cL_spoils 6 = .ok (.iload 4, 2) := by decide +kernel
theorem dL_spoils_8 : decode cL_spoils 8 = .ok (.sipush 280, 3) := by decide +kernel
theorem dL_spoils_11 : decode cL_spoils 11 = .ok (.if_icmp .le 16, 3) := by decide +kernel
theorem dL_spoils_14 : decode cL_spoils 14 = .ok (.aload_n 0, 1) := by decide +kernel
theorem dL_spoils_15 : decode cL_spoils 15 = .ok (.invokevirtual 137, 3) := by decide +kernel
theorem dL_spoils_18 : decode cL_spoils 18 = .ok (.ifCond .ne 7, 3) := by decide +kernel
theorem dL_spoils_21 : decode cL_spoils 21 = .ok (.iconst 1, 1) := by decide +kernel
theorem dL_spoils_22 : decode cL_spoils 22 = .ok (.goto 4, 3) := by decide +kernel
theorem dL_spoils_25 : decode cL_spoils 25 = .ok (.iconst 0, 1) := by decide +kernel
theorem dL_spoils_26 : decode cL_spoils 26 = .ok (.ireturn, 1) := by decide +kernel
theorem dL_spoils_27 : decode cL_spoils 27 = .ok (.iload_n 2, 1) := by decide +kernel
theorem dL_spoils_28 : decode cL_spoils 28 = .ok (.bipush 7, 2) := by decide +kernel
theorem dL_spoils_30 : decode cL_spoils 30 = .ok (.invokestatic 118, 3) := by decide +kernel
theorem dL_spoils_33 : decode cL_spoils 33 = .ok (.istore 5, 2) := by decide +kernel
theorem dL_spoils_35 : decode cL_spoils 35 = .ok (.iload 5, 2) := by decide +kernel
theorem dL_spoils_37 : decode cL_spoils 37 = .ok (.ifCond .ne 8, 3) := by decide +kernel
theorem dL_spoils_40 : decode cL_spoils 40 = .ok (.bipush 125, 2) := by decide +kernel
theorem dL_spoils_42 : decode cL_spoils 42 = .ok (.goto 60, 3) := by decide +kernel
theorem dL_spoils_45 : decode cL_spoils 45 = .ok (.iload 5, 2) := by decide +kernel
theorem dL_spoils_47 : decode cL_spoils 47 = .ok (.iconst 1, 1) := by decide +kernel
theorem dL_spoils_48 : decode cL_spoils 48 = .ok (.if_icmp .ne 8, 3) := by decide +kernel
theorem dL_spoils_51 : decode cL_spoils 51 = .ok (.bipush 41, 2) := by decide +kernel
theorem dL_spoils_53 : decode cL_spoils 53 = .ok (.goto 49, 3) := by decide +kernel
theorem dL_spoils_56 : decode cL_spoils 56 = .ok (.iload 5, 2) := by decide +kernel
theorem dL_spoils_58 : decode cL_spoils 58 = .ok (.iconst 2, 1) := by decide +kernel
theorem dL_spoils_59 : decode cL_spoils 59 = .ok (.if_icmp .ne 8, 3) := by decide +kernel
theorem dL_spoils_62 : decode cL_spoils 62 = .ok (.bipush 38, 2) := by decide +kernel
theorem dL_spoils_64 : decode cL_spoils 64 = .ok (.goto 38, 3) := by decide +kernel
theorem dL_spoils_67 : decode cL_spoils 67 = .ok (.iload 5, 2) := by decide +kernel
theorem dL_spoils_69 : decode cL_spoils 69 = .ok (.iconst 3, 1) := by decide +kernel
theorem dL_spoils_70 : decode cL_spoils 70 = .ok (.if_icmp .ne 8, 3) := by decide +kernel
theorem dL_spoils_73 : decode cL_spoils 73 = .ok (.bipush 65, 2) := by decide +kernel
theorem dL_spoils_75 : decode cL_spoils 75 = .ok (.goto 27, 3) := by decide +kernel
theorem dL_spoils_78 : decode cL_spoils 78 = .ok (.iload 5, 2) := by decide +kernel
theorem dL_spoils_80 : decode cL_spoils 80 = .ok (.iconst 4, 1) := by decide +kernel
theorem dL_spoils_81 : decode cL_spoils 81 = .ok (.if_icmp .ne 8, 3) := by decide +kernel
theorem dL_spoils_84 : decode cL_spoils 84 = .ok (.bipush 59, 2) := by decide +kernel
theorem dL_spoils_86 : decode cL_spoils 86 = .ok (.goto 16, 3) := by decide +kernel
theorem dL_spoils_89 : decode cL_spoils 89 = .ok (.iload 5, 2) := by decide +kernel
theorem dL_spoils_91 : decode cL_spoils 91 = .ok (.iconst 5, 1) := by decide +kernel
theorem dL_spoils_92 : decode cL_spoils 92 = .ok (.if_icmp .ne 8, 3) := by decide +kernel
theorem dL_spoils_95 : decode cL_spoils 95 = .ok (.bipush 53, 2) := by decide +kernel
theorem dL_spoils_97 : decode cL_spoils 97 = .ok (.goto 5, 3) := by decide +kernel
theorem dL_spoils_100 : decode cL_spoils 100 = .ok (.bipush 61, 2) := by decide +kernel
theorem dL_spoils_102 : decode cL_spoils 102 = .ok (.istore 6, 2) := by decide +kernel
theorem dL_spoils_104 : decode cL_spoils 104 = .ok (.aload_n 0, 1) := by decide +kernel
theorem dL_spoils_105 : decode cL_spoils 105 = .ok (.iload 6, 2) := by decide +kernel
theorem dL_spoils_107 : decode cL_spoils 107 = .ok (.invokestatic 121, 3) := by decide +kernel
theorem dL_spoils_110 : decode cL_spoils 110 = .ok (.ifCond .eq 88, 3) := by decide +kernel
theorem dL_spoils_113 : decode cL_spoils 113 = .ok (.aload_n 0, 1) := by decide +kernel
theorem dL_spoils_114 : decode cL_spoils 114 = .ok (.invokevirtual 137, 3) := by decide +kernel
theorem dL_spoils_117 : decode cL_spoils 117 = .ok (.iload 5, 2) := by decide +kernel
theorem dL_spoils_119 : decode cL_spoils 119 = .ok (.iconst 2, 1) := by decide +kernel
theorem dL_spoils_120 : decode cL_spoils 120 = .ok (.if_icmp .eq 9, 3) := by decide +kernel
theorem dL_spoils_123 : decode cL_spoils 123 = .ok (.iload 5, 2) := by decide +kernel
theorem dL_spoils_125 : decode cL_spoils 125 = .ok (.iconst 3, 1) := by decide +kernel
theorem dL_spoils_126 : decode cL_spoils 126 = .ok (.if_icmp .ne 7, 3) := by decide +kernel
theorem dL_spoils_129 : decode cL_spoils 129 = .ok (.iconst 1, 1) := by decide +kernel
theorem dL_spoils_130 : decode cL_spoils 130 = .ok (.goto 4, 3) := by decide +kernel
theorem dL_spoils_133 : decode cL_spoils 133 = .ok (.iconst 3, 1) := by decide +kernel
theorem dL_spoils_134 : decode cL_spoils 134 = .ok (.if_icmp .ne 64, 3) := by decide +kernel
theorem dL_spoils_137 : decode cL_spoils 137 = .ok (.aload_n 0, 1) := by decide +kernel
theorem dL_spoils_138 : decode cL_spoils 138 = .ok (.invokevirtual 155, 3) := by decide +kernel
theorem dL_spoils_141 : decode cL_spoils 141 = .ok (.iload 4, 2) := by decide +kernel
theorem dL_spoils_143 : decode cL_spoils 143 = .ok (.if_icmp .ne 55, 3) := by decide +kernel
theorem dL_spoils_146 : decode cL_spoils 146 = .ok (.aload_n 0, 1) := by decide +kernel
theorem dL_spoils_147 : decode cL_spoils 147 = .ok (.invokestatic 140, 3) := by decide +kernel
theorem dL_spoils_150 : decode cL_spoils 150 = .ok (.ldc 36, 2) := by decide +kernel
theorem dL_spoils_152 : decode cL_spoils 152 = .ok (.if_icmp .ne 46, 3) := by decide +kernel
theorem dL_spoils_155 : decode cL_spoils 155 = .ok (.aload_n 0, 1) := by decide +kernel
theorem dL_spoils_156 : decode cL_spoils 156 = .ok (.bipush 9, 2) := by decide +kernel
theorem dL_spoils_158 : decode cL_spoils 158 = .ok (.iconst 0, 1) := by decide +kernel
theorem dL_spoils_159 : decode cL_spoils 159 = .ok (.iconst 0, 1) := by decide +kernel
theorem dL_spoils_160 : decode cL_spoils 160 = .ok (.invokestatic 158, 3) := by decide +kernel
theorem dL_spoils_163 : decode cL_spoils 163 = .ok (.ldc 36, 2) := by decide +kernel
theorem dL_spoils_165 : decode cL_spoils 165 = .ok (.if_icmp .ne 33, 3) := by decide +kernel
theorem dL_spoils_168 : decode cL_spoils 168 = .ok (.aload_n 0, 1) := by decide +kernel
theorem dL_spoils_169 : decode cL_spoils 169 = .ok (.iconst 0, 1) := by decide +kernel
theorem dL_spoils_170 : decode cL_spoils 170 = .ok (.aload_n 1, 1) := by decide +kernel
theorem dL_spoils_171 : decode cL_spoils 171 = .ok (.iconst 0, 1) := by decide +kernel
theorem dL_spoils_172 : decode cL_spoils 172 = .ok (.iaload, 1) := by decide +kernel
theorem dL_spoils_173 : decode cL_spoils 173 = .ok (.iconst 1, 1) := by decide +kernel
theorem dL_spoils_174 : decode cL_spoils 174 = .ok (.isub, 1) := by decide +kernel
theorem dL_spoils_175 : decode cL_spoils 175 = .ok (.invokestatic 173, 3) := by decide +kernel
theorem dL_spoils_178 : decode cL_spoils 178 = .ok (.aload_n 1, 1) := by decide +kernel
theorem dL_spoils_179 : decode cL_spoils 179 = .ok (.iconst 0, 1) := by decide +kernel
theorem dL_spoils_180 : decode cL_spoils 180 = .ok (.iaload, 1) := by decide +kernel
theorem dL_spoils_181 : decode cL_spoils 181 = .ok (.ifCond .ne 8, 3) := by decide +kernel
theorem dL_spoils_184 : decode cL_spoils 184 = .ok (.ldc 29, 2) := by decide +kernel
theorem dL_spoils_186 : decode cL_spoils 186 = .ok (.goto 5, 3) := by decide +kernel
theorem dL_spoils_189 : decode cL_spoils 189 = .ok (.ldc 36, 2) := by decide +kernel
theorem dL_spoils_191 : decode cL_spoils 191 = .ok (.if_icmp .ne 7, 3) := by decide +kernel
theorem dL_spoils_194 : decode cL_spoils 194 = .ok (.iconst 1, 1) := by decide +kernel
theorem dL_spoils_195 : decode cL_spoils 195 = .ok (.goto 4, 3) := by decide +kernel
theorem dL_spoils_198 : decode cL_spoils 198 = .ok (.iconst 0, 1) := by decide +kernel
theorem dL_spoils_199 : decode cL_spoils 199 = .ok (.istore 7, 2) := by decide +kernel
theorem dL_spoils_201 : decode cL_spoils 201 = .ok (.aload_n 0, 1) := by decide +kernel
theorem dL_spoils_202 : decode cL_spoils 202 = .ok (.invokevirtual 137, 3) := by decide +kernel
theorem dL_spoils_205 : decode cL_spoils 205 = .ok (.istore 8, 2) := by decide +kernel
theorem dL_spoils_207 : decode cL_spoils 207 = .ok (.iload_n 3, 1) := by decide +kernel
theorem dL_spoils_208 : decode cL_spoils 208 = .ok (.bipush 9, 2) := by decide +kernel
theorem dL_spoils_210 : decode cL_spoils 210 = .ok (.invokestatic 118, 3) := by decide +kernel
theorem dL_spoils_213 : decode cL_spoils 213 = .ok (.istore 9, 2) := by decide +kernel
theorem dL_spoils_215 : decode cL_spoils 215 = .ok (.iload 7, 2) := by decide +kernel
theorem dL_spoils_217 : decode cL_spoils 217 = .ok (.ifCond .eq 16, 3) := by decide +kernel
theorem dL_spoils_220 : decode cL_spoils 220 = .ok (.aload_n 0, 1) := by decide +kernel
theorem dL_spoils_221 : decode cL_spoils 221 = .ok (.bipush 32, 2) := by decide +kernel
theorem dL_spoils_223 : decode cL_spoils 223 = .ok (.invokestatic 121, 3) := by decide +kernel
theorem dL_spoils_226 : decode cL_spoils 226 = .ok (.ifCond .eq 7, 3) := by decide +kernel
theorem dL_spoils_229 : decode cL_spoils 229 = .ok (.iconst 1, 1) := by decide +kernel
theorem dL_spoils_230 : decode cL_spoils 230 = .ok (.goto 4, 3) := by decide +kernel
theorem dL_spoils_233 : decode cL_spoils 233 = .ok (.iconst 0, 1) := by decide +kernel
theorem dL_spoils_234 : decode cL_spoils 234 = .ok (.istore 7, 2) := by decide +kernel
theorem dL_spoils_236 : decode cL_spoils 236 = .ok (.iconst 0, 1) := by decide +kernel
theorem dL_spoils_237 : decode cL_spoils 237 = .ok (.istore 10, 2) := by decide +kernel
theorem dL_spoils_239 : decode cL_spoils 239 = .ok (.iload 10, 2) := by decide +kernel
theorem dL_spoils_241 : decode cL_spoils 241 = .ok (.iload 9, 2) := by decide +kernel
theorem dL_spoils_243 : decode cL_spoils 243 = .ok (.if_icmp .ge 40, 3) := by decide +kernel
theorem dL_spoils_246 : decode cL_spoils 246 = .ok (.iload 7, 2) := by decide +kernel
theorem dL_spoils_248 : decode cL_spoils 248 = .ok (.ifCond .eq 26, 3) := by decide +kernel
theorem dL_spoils_251 : decode cL_spoils 251 = .ok (.aload_n 0, 1) := by decide +kernel
theorem dL_spoils_252 : decode cL_spoils 252 = .ok (.bipush 33, 2) := by decide +kernel
theorem dL_spoils_254 : decode cL_spoils 254 = .ok (.iload_n 3, 1) := by decide +kernel
theorem dL_spoils_255 : decode cL_spoils 255 = .ok (.iload 10, 2) := by decide +kernel
theorem dL_spoils_257 : decode cL_spoils 257 = .ok (.ishr, 1) := by decide +kernel
theorem dL_spoils_258 : decode cL_spoils 258 = .ok (.bipush 90, 2) := by decide +kernel
theorem dL_spoils_260 : decode cL_spoils 260 = .ok (.invokestatic 118, 3) := by decide +kernel
theorem dL_spoils_263 : decode cL_spoils 263 = .ok (.iadd, 1) := by decide +kernel
theorem dL_spoils_264 : decode cL_spoils 264 = .ok (.invokestatic 121, 3) := by decide +kernel
theorem dL_spoils_267 : decode cL_spoils 267 = .ok (.ifCond .eq 7, 3) := by decide +kernel
theorem dL_spoils_270 : decode cL_spoils 270 = .ok (.iconst 1, 1) := by decide +kernel
theorem dL_spoils_271 : decode cL_spoils 271 = .ok (.goto 4, 3) := by decide +kernel
theorem dL_spoils_274 : decode cL_spoils 274 = .ok (.iconst 0, 1) := by decide +kernel
theorem dL_spoils_275 : decode cL_spoils 275 = .ok (.istore 7, 2) := by decide +kernel
theorem dL_spoils_277 : decode cL_spoils 277 = .ok (.iinc 10 1, 3) := by decide +kernel
theorem dL_spoils_280 : decode cL_spoils 280 = .ok (.goto (-41), 3) := by decide +kernel
theorem dL_spoils_283 : decode cL_spoils 283 = .ok (.iload 7, 2) := by decide +kernel
theorem dL_spoils_285 : decode cL_spoils 285 = .ok (.ifCond .eq 25, 3) := by decide +kernel
theorem dL_spoils_288 : decode cL_spoils 288 = .ok (.aload_n 0, 1) := by decide +kernel
theorem dL_spoils_289 : decode cL_spoils 289 = .ok (.invokevirtual 137, 3) := by decide +kernel
theorem dL_spoils_292 : decode cL_spoils 292 = .ok (.iload 8, 2) := by decide +kernel
theorem dL_spoils_294 : decode cL_spoils 294 = .ok (.if_icmp .ne 16, 3) := by decide +kernel
theorem dL_spoils_297 : decode cL_spoils 297 = .ok (.aload_n 0, 1) := by decide +kernel
theorem dL_spoils_298 : decode cL_spoils 298 = .ok (.invokevirtual 155, 3) := by decide +kernel
theorem dL_spoils_301 : decode cL_spoils 301 = .ok (.iload 4, 2) := by decide +kernel
theorem dL_spoils_303 : decode cL_spoils 303 = .ok (.if_icmp .ne 7, 3) := by decide +kernel
theorem dL_spoils_306 : decode cL_spoils 306 = .ok (.iconst 1, 1) := by decide +kernel
theorem dL_spoils_307 : decode cL_spoils 307 = .ok (.goto 4, 3) := by decide +kernel
theorem dL_spoils_310 : decode cL_spoils 310 = .ok (.iconst 0, 1) := by decide +kernel
theorem dL_spoils_311 : decode cL_spoils 311 = .ok (.istore 7, 2) := by decide +kernel
theorem dL_spoils_313 : decode cL_spoils 313 = .ok (.iload 7, 2) := by decide +kernel
theorem dL_spoils_315 : decode cL_spoils 315 = .ok (.ifCond .eq 64, 3) := by decide +kernel
theorem dL_spoils_318 : decode cL_spoils 318 = .ok (.aload_n 0, 1) := by decide +kernel
theorem dL_spoils_319 : decode cL_spoils 319 = .ok (.iload 4, 2) := by decide +kernel
theorem dL_spoils_321 : decode cL_spoils 321 = .ok (.iload 9, 2) := by decide +kernel
theorem dL_spoils_323 : decode cL_spoils 323 = .ok (.iadd, 1) := by decide +kernel
theorem dL_spoils_324 : decode cL_spoils 324 = .ok (.iconst 3, 1) := by decide +kernel
theorem dL_spoils_325 : decode cL_spoils 325 = .ok (.iadd, 1) := by decide +kernel
theorem dL_spoils_326 : decode cL_spoils 326 = .ok (.invokestatic 175, 3) := by decide +kernel
theorem dL_spoils_329 : decode cL_spoils 329 = .ok (.ldc 18, 2) := by decide +kernel
theorem dL_spoils_331 : decode cL_spoils 331 = .ok (.if_icmp .ne 48, 3) := by decide +kernel
theorem dL_spoils_334 : decode cL_spoils 334 = .ok (.aload_n 0, 1) := by decide +kernel
theorem dL_spoils_335 : decode cL_spoils 335 = .ok (.iload 9, 2) := by decide +kernel
theorem dL_spoils_337 : decode cL_spoils 337 = .ok (.iconst 2, 1) := by decide +kernel
theorem dL_spoils_338 : decode cL_spoils 338 = .ok (.iadd, 1) := by decide +kernel
theorem dL_spoils_339 : decode cL_spoils 339 = .ok (.invokestatic 175, 3) := by decide +kernel
theorem dL_spoils_342 : decode cL_spoils 342 = .ok (.iload 4, 2) := by decide +kernel
theorem dL_spoils_344 : decode cL_spoils 344 = .ok (.if_icmp .ne 35, 3) := by decide +kernel
theorem dL_spoils_347 : decode cL_spoils 347 = .ok (.aload_n 0, 1) := by decide +kernel
theorem dL_spoils_348 : decode cL_spoils 348 = .ok (.invokevirtual 137, 3) := by decide +kernel
theorem dL_spoils_351 : decode cL_spoils 351 = .ok (.ifCond .ne 28, 3) := by decide +kernel
theorem dL_spoils_354 : decode cL_spoils 354 = .ok (.aload_n 0, 1) := by decide +kernel
theorem dL_spoils_355 : decode cL_spoils 355 = .ok (.invokestatic 140, 3) := by decide +kernel
theorem dL_spoils_358 : decode cL_spoils 358 = .ok (.aload_n 1, 1) := by decide +kernel
theorem dL_spoils_359 : decode cL_spoils 359 = .ok (.iconst 3, 1) := by decide +kernel
theorem dL_spoils_360 : decode cL_spoils 360 = .ok (.iaload, 1) := by decide +kernel
theorem dL_spoils_361 : decode cL_spoils 361 = .ok (.if_icmp .ne 18, 3) := by decide +kernel
theorem dL_spoils_364 : decode cL_spoils 364 = .ok (.aload_n 0, 1) := by decide +kernel
theorem dL_spoils_365 : decode cL_spoils 365 = .ok (.iload 4, 2) := by decide +kernel
theorem dL_spoils_367 : decode cL_spoils 367 = .ok (.invokestatic 115, 3) := by decide +kernel
theorem dL_spoils_370 : decode cL_spoils 370 = .ok (.ldc 29, 2) := by decide +kernel
theorem dL_spoils_372 : decode cL_spoils 372 = .ok (.if_icmp .ne 7, 3) := by decide +kernel
theorem dL_spoils_375 : decode cL_spoils 375 = .ok (.iconst 1, 1) := by decide +kernel
theorem dL_spoils_376 : decode cL_spoils 376 = .ok (.goto 4, 3) := by decide +kernel
theorem dL_spoils_379 : decode cL_spoils 379 = .ok (.iconst 0, 1) := by decide +kernel
theorem dL_spoils_380 : decode cL_spoils 380 = .ok (.ireturn, 1) := by decide +kernel
theorem dL_markOf_0 : decode cL_markOf 0 = .ok (.aload_n 3, 1) := by decide +kernel
theorem dL_markOf_1 : decode cL_markOf 1 = .ok (.iload 4, 2) := by decide +kernel
theorem dL_markOf_3 : decode cL_markOf 3 = .ok (.iaload, 1) := by decide +kernel
theorem dL_markOf_4 : decode cL_markOf 4 = .ok (.bipush 8, 2) := by decide +kernel
theorem dL_markOf_6 : decode cL_markOf 6 = .ok (.idiv, 1) := by decide +kernel
theorem dL_markOf_7 : decode cL_markOf 7 = .ok (.iconst 4, 1) := by decide +kernel
theorem dL_markOf_8 : decode cL_markOf 8 = .ok (.irem, 1) := by decide +kernel
theorem dL_markOf_9 : decode cL_markOf 9 = .ok (.istore 6, 2) := by decide +kernel
theorem dL_markOf_11 : decode cL_markOf 11 = .ok (.iconst 0, 1) := by decide +kernel
theorem dL_markOf_12 : decode cL_markOf 12 = .ok (.istore 7, 2) := by decide +kernel
theorem dL_markOf_14 : decode cL_markOf 14 = .ok (.iconst 0, 1) := by decide +kernel
theorem dL_markOf_15 : decode cL_markOf 15 = .ok (.istore 8, 2) := by decide +kernel
theorem dL_markOf_17 : decode cL_markOf 17 = .ok (.iconst 0, 1) := by decide +kernel
theorem dL_markOf_18 : decode cL_markOf 18 = .ok (.istore 9, 2) := by decide +kernel
theorem dL_markOf_20 : decode cL_markOf 20 = .ok (.iload 9, 2) := by decide +kernel
theorem dL_markOf_22 : decode cL_markOf 22 = .ok (.aload_n 2, 1) := by decide +kernel
theorem dL_markOf_23 : decode cL_markOf 23 = .ok (.iconst 4, 1) := by decide +kernel
theorem dL_markOf_24 : decode cL_markOf 24 = .ok (.iload 6, 2) := by decide +kernel
theorem dL_markOf_26 : decode cL_markOf 26 = .ok (.iadd, 1) := by decide +kernel
theorem dL_markOf_27 : decode cL_markOf 27 = .ok (.iaload, 1) := by decide +kernel
theorem dL_markOf_28 : decode cL_markOf 28 = .ok (.if_icmp .ge 70, 3) := by decide +kernel
theorem dL_markOf_31 : decode cL_markOf 31 = .ok (.aload_n 1, 1) := by decide +kernel
theorem dL_markOf_32 : decode cL_markOf 32 = .ok (.bipush 8, 2) := by decide +kernel
theorem dL_markOf_34 : decode cL_markOf 34 = .ok (.iload 6, 2) := by decide +kernel
theorem dL_markOf_36 : decode cL_markOf 36 = .ok (.imul, 1) := by decide +kernel
theorem dL_markOf_37 : decode cL_markOf 37 = .ok (.iload 9, 2) := by decide +kernel
theorem dL_markOf_39 : decode cL_markOf 39 = .ok (.iadd, 1) := by decide +kernel
theorem dL_markOf_40 : decode cL_markOf 40 = .ok (.iaload, 1) := by decide +kernel
theorem dL_markOf_41 : decode cL_markOf 41 = .ok (.bipush 15, 2) := by decide +kernel
theorem dL_markOf_43 : decode cL_markOf 43 = .ok (.if_icmp .le 7, 3) := by decide +kernel
theorem dL_markOf_46 : decode cL_markOf 46 = .ok (.iconst 0, 1) := by decide +kernel
theorem dL_markOf_47 : decode cL_markOf 47 = .ok (.goto 13, 3) := by decide +kernel
theorem dL_markOf_50 : decode cL_markOf 50 = .ok (.aload_n 1, 1) := by decide +kernel
theorem dL_markOf_51 : decode cL_markOf 51 = .ok (.bipush 8, 2) := by decide +kernel
theorem dL_markOf_53 : decode cL_markOf 53 = .ok (.iload 6, 2) := by decide +kernel
theorem dL_markOf_55 : decode cL_markOf 55 = .ok (.imul, 1) := by decide +kernel
theorem dL_markOf_56 : decode cL_markOf 56 = .ok (.iload 9, 2) := by decide +kernel
theorem dL_markOf_58 : decode cL_markOf 58 = .ok (.iadd, 1) := by decide +kernel
theorem dL_markOf_59 : decode cL_markOf 59 = .ok (.iaload, 1) := by decide +kernel
theorem dL_markOf_60 : decode cL_markOf 60 = .ok (.istore 10, 2) := by decide +kernel
theorem dL_markOf_62 : decode cL_markOf 62 = .ok (.iload 7, 2) := by decide +kernel
theorem dL_markOf_64 : decode cL_markOf 64 = .ok (.iload 10, 2) := by decide +kernel
theorem dL_markOf_66 : decode cL_markOf 66 = .ok (.iadd, 1) := by decide +kernel
theorem dL_markOf_67 : decode cL_markOf 67 = .ok (.istore 7, 2) := by decide +kernel
theorem dL_markOf_69 : decode cL_markOf 69 = .ok (.iload 8, 2) := by decide +kernel
theorem dL_markOf_71 : decode cL_markOf 71 = .ok (.aload_n 0, 1) := by decide +kernel
theorem dL_markOf_72 : decode cL_markOf 72 = .ok (.iload 4, 2) := by decide +kernel
theorem dL_markOf_74 : decode cL_markOf 74 = .ok (.iload 9, 2) := by decide +kernel
theorem dL_markOf_76 : decode cL_markOf 76 = .ok (.invokestatic 177, 3) := by decide +kernel
theorem dL_markOf_79 : decode cL_markOf 79 = .ok (.iconst 1, 1) := by decide +kernel
theorem dL_markOf_80 : decode cL_markOf 80 = .ok (.if_icmp .ne 8, 3) := by decide +kernel
theorem dL_markOf_83 : decode cL_markOf 83 = .ok (.iload 10, 2) := by decide +kernel
theorem dL_markOf_85 : decode cL_markOf 85 = .ok (.goto 4, 3) := by decide +kernel
theorem dL_markOf_88 : decode cL_markOf 88 = .ok (.iconst 0, 1) := by decide +kernel
theorem dL_markOf_89 : decode cL_markOf 89 = .ok (.iadd, 1) := by decide +kernel
theorem dL_markOf_90 : decode cL_markOf 90 = .ok (.istore 8, 2) := by decide +kernel
theorem dL_markOf_92 : decode cL_markOf 92 = .ok (.iinc 9 1, 3) := by decide +kernel
theorem dL_markOf_95 : decode cL_markOf 95 = .ok (.goto (-75), 3) := by decide +kernel
theorem dL_markOf_98 : decode cL_markOf 98 = .ok (.aload_n 3, 1) := by decide +kernel
theorem dL_markOf_99 : decode cL_markOf 99 = .ok (.iload 4, 2) := by decide +kernel
theorem dL_markOf_101 : decode cL_markOf 101 = .ok (.iaload, 1) := by decide +kernel
theorem dL_markOf_102 : decode cL_markOf 102 = .ok (.bipush 32, 2) := by decide +kernel
theorem dL_markOf_104 : decode cL_markOf 104 = .ok (.idiv, 1) := by decide +kernel
theorem dL_markOf_105 : decode cL_markOf 105 = .ok (.sipush 2048, 3) := by decide +kernel
theorem dL_markOf_108 : decode cL_markOf 108 = .ok (.irem, 1) := by decide +kernel
theorem dL_markOf_109 : decode cL_markOf 109 = .ok (.aload_n 2, 1) := by decide +kernel
theorem dL_markOf_110 : decode cL_markOf 110 = .ok (.iload 6, 2) := by decide +kernel
theorem dL_markOf_112 : decode cL_markOf 112 = .ok (.iaload, 1) := by decide +kernel
theorem dL_markOf_113 : decode cL_markOf 113 = .ok (.sipush 4096, 3) := by decide +kernel
theorem dL_markOf_116 : decode cL_markOf 116 = .ok (.idiv, 1) := by decide +kernel
theorem dL_markOf_117 : decode cL_markOf 117 = .ok (.isub, 1) := by decide +kernel
theorem dL_markOf_118 : decode cL_markOf 118 = .ok (.istore 9, 2) := by decide +kernel
theorem dL_markOf_120 : decode cL_markOf 120 = .ok (.iload 9, 2) := by decide +kernel
theorem dL_markOf_122 : decode cL_markOf 122 = .ok (.ifCond .ge 7, 3) := by decide +kernel
theorem dL_markOf_125 : decode cL_markOf 125 = .ok (.iconst 0, 1) := by decide +kernel
theorem dL_markOf_126 : decode cL_markOf 126 = .ok (.goto 19, 3) := by decide +kernel
theorem dL_markOf_129 : decode cL_markOf 129 = .ok (.iload 9, 2) := by decide +kernel
theorem dL_markOf_131 : decode cL_markOf 131 = .ok (.iconst 5, 1) := by decide +kernel
theorem dL_markOf_132 : decode cL_markOf 132 = .ok (.if_icmp .le 8, 3) := by decide +kernel
theorem dL_markOf_135 : decode cL_markOf 135 = .ok (.bipush 50, 2) := by decide +kernel
theorem dL_markOf_137 : decode cL_markOf 137 = .ok (.goto 8, 3) := by decide +kernel
theorem dL_markOf_140 : decode cL_markOf 140 = .ok (.bipush 10, 2) := by decide +kernel
theorem dL_markOf_142 : decode cL_markOf 142 = .ok (.iload 9, 2) := by decide +kernel
theorem dL_markOf_144 : decode cL_markOf 144 = .ok (.imul, 1) := by decide +kernel
theorem dL_markOf_145 : decode cL_markOf 145 = .ok (.istore 10, 2) := by decide +kernel
theorem dL_markOf_147 : decode cL_markOf 147 = .ok (.iload 7, 2) := by decide +kernel
theorem dL_markOf_149 : decode cL_markOf 149 = .ok (.ifCond .ne 7, 3) := by decide +kernel
theorem dL_markOf_152 : decode cL_markOf 152 = .ok (.iconst 0, 1) := by decide +kernel
theorem dL_markOf_153 : decode cL_markOf 153 = .ok (.goto 11, 3) := by decide +kernel
theorem dL_markOf_156 : decode cL_markOf 156 = .ok (.bipush 100, 2) := by decide +kernel
theorem dL_markOf_158 : decode cL_markOf 158 = .ok (.iload 8, 2) := by decide +kernel
theorem dL_markOf_160 : decode cL_markOf 160 = .ok (.imul, 1) := by decide +kernel
theorem dL_markOf_161 : decode cL_markOf 161 = .ok (.iload 7, 2) := by decide +kernel
theorem dL_markOf_163 : decode cL_markOf 163 = .ok (.idiv, 1) := by decide +kernel
theorem dL_markOf_164 : decode cL_markOf 164 = .ok (.istore 11, 2) := by decide +kernel
theorem dL_markOf_166 : decode cL_markOf 166 = .ok (.iload 5, 2) := by decide +kernel
theorem dL_markOf_168 : decode cL_markOf 168 = .ok (.ifCond .eq 8, 3) := by decide +kernel
theorem dL_markOf_171 : decode cL_markOf 171 = .ok (.iload 11, 2) := by decide +kernel
theorem dL_markOf_173 : decode cL_markOf 173 = .ok (.goto 27, 3) := by decide +kernel
theorem dL_markOf_176 : decode cL_markOf 176 = .ok (.aload_n 3, 1) := by decide +kernel
theorem dL_markOf_177 : decode cL_markOf 177 = .ok (.iload 4, 2) := by decide +kernel
theorem dL_markOf_179 : decode cL_markOf 179 = .ok (.iaload, 1) := by decide +kernel
theorem dL_markOf_180 : decode cL_markOf 180 = .ok (.ldc 179, 2) := by decide +kernel
theorem dL_markOf_182 : decode cL_markOf 182 = .ok (.if_icmp .le 7, 3) := by decide +kernel
theorem dL_markOf_185 : decode cL_markOf 185 = .ok (.iconst 0, 1) := by decide +kernel
theorem dL_markOf_186 : decode cL_markOf 186 = .ok (.goto 14, 3) := by decide +kernel
theorem dL_markOf_189 : decode cL_markOf 189 = .ok (.iload 11, 2) := by decide +kernel
theorem dL_markOf_191 : decode cL_markOf 191 = .ok (.bipush 100, 2) := by decide +kernel
theorem dL_markOf_193 : decode cL_markOf 193 = .ok (.iload 10, 2) := by decide +kernel
theorem dL_markOf_195 : decode cL_markOf 195 = .ok (.isub, 1) := by decide +kernel
theorem dL_markOf_196 : decode cL_markOf 196 = .ok (.imul, 1) := by decide +kernel
theorem dL_markOf_197 : decode cL_markOf 197 = .ok (.bipush 100, 2) := by decide +kernel
theorem dL_markOf_199 : decode cL_markOf 199 = .ok (.idiv, 1) := by decide +kernel
theorem dL_markOf_200 : decode cL_markOf 200 = .ok (.ireturn, 1) := by decide +kernel
theorem dL_isMarked_0 : decode cL_isMarked 0 = .ok (.iload 5, 2) := by decide +kernel
theorem dL_isMarked_2 : decode cL_isMarked 2 = .ok (.bipush 6, 2) := by decide +kernel
theorem dL_isMarked_4 : decode cL_isMarked 4 = .ok (.invokestatic 118, 3) := by decide +kernel
theorem dL_isMarked_7 : decode cL_isMarked 7 = .ok (.istore 6, 2) := by decide +kernel
theorem dL_isMarked_9 : decode cL_isMarked 9 = .ok (.iload 5, 2) := by decide +kernel
theorem dL_isMarked_11 : decode cL_isMarked 11 = .ok (.iconst 3, 1) := by decide +kernel
theorem dL_isMarked_12 : decode cL_isMarked 12 = .ok (.ishr, 1) := by decide +kernel
theorem dL_isMarked_13 : decode cL_isMarked 13 = .ok (.aload 4, 2) := by decide +kernel
theorem dL_isMarked_15 : decode cL_isMarked 15 = .ok (.iconst 0, 1) := by decide +kernel
theorem dL_isMarked_16 : decode cL_isMarked 16 = .ok (.iaload, 1) := by decide +kernel
theorem dL_isMarked_17 : decode cL_isMarked 17 = .ok (.invokestatic 118, 3) := by decide +kernel
theorem dL_isMarked_20 : decode cL_isMarked 20 = .ok (.istore 7, 2) := by decide +kernel
theorem dL_isMarked_22 : decode cL_isMarked 22 = .ok (.iconst (-1), 1) := by decide +kernel
theorem dL_isMarked_23 : decode cL_isMarked 23 = .ok (.istore 8, 2) := by decide +kernel
theorem dL_isMarked_25 : decode cL_isMarked 25 = .ok (.iconst 0, 1) := by decide +kernel
theorem dL_isMarked_26 : decode cL_isMarked 26 = .ok (.istore 9, 2) := by decide +kernel
theorem dL_isMarked_28 : decode cL_isMarked 28 = .ok (.iload 9, 2) := by decide +kernel
theorem dL_isMarked_30 : decode cL_isMarked 30 = .ok (.aload 4, 2) := by decide +kernel
theorem dL_isMarked_32 : decode cL_isMarked 32 = .ok (.iconst 1, 1) := by decide +kernel
theorem dL_isMarked_33 : decode cL_isMarked 33 = .ok (.iaload, 1) := by decide +kernel
theorem dL_isMarked_34 : decode cL_isMarked 34 = .ok (.if_icmp .ge 129, 3) := by decide +kernel
theorem dL_isMarked_37 : decode cL_isMarked 37 = .ok (.aload_n 0, 1) := by decide +kernel
theorem dL_isMarked_38 : decode cL_isMarked 38 = .ok (.aload_n 1, 1) := by decide +kernel
theorem dL_isMarked_39 : decode cL_isMarked 39 = .ok (.aload_n 2, 1) := by decide +kernel
theorem dL_isMarked_40 : decode cL_isMarked 40 = .ok (.aload_n 3, 1) := by decide +kernel
theorem dL_isMarked_41 : decode cL_isMarked 41 = .ok (.iload 9, 2) := by decide +kernel
theorem dL_isMarked_43 : decode cL_isMarked 43 = .ok (.iconst 0, 1) := by decide +kernel
theorem dL_isMarked_44 : decode cL_isMarked 44 = .ok (.invokestatic 180, 3) := by decide +kernel
theorem dL_isMarked_47 : decode cL_isMarked 47 = .ok (.istore 10, 2) := by decide +kernel
theorem dL_isMarked_49 : decode cL_isMarked 49 = .ok (.aload_n 0, 1) := by decide +kernel
theorem dL_isMarked_50 : decode cL_isMarked 50 = .ok (.iload 9, 2) := by decide +kernel
theorem dL_isMarked_52 : decode cL_isMarked 52 = .ok (.invokestatic 184, 3) := by decide +kernel
theorem dL_isMarked_55 : decode cL_isMarked 55 = .ok (.iload 10, 2) := by decide +kernel
theorem dL_isMarked_57 : decode cL_isMarked 57 = .ok (.if_icmp .ne 26, 3) := by decide +kernel
theorem dL_isMarked_60 : decode cL_isMarked 60 = .ok (.aload_n 0, 1) := by decide +kernel
theorem dL_isMarked_61 : decode cL_isMarked 61 = .ok (.iload 9, 2) := by decide +kernel
theorem dL_isMarked_63 : decode cL_isMarked 63 = .ok (.invokestatic 186, 3) := by decide +kernel
theorem dL_isMarked_66 : decode cL_isMarked 66 = .ok (.aload_n 0, 1) := by decide +kernel
theorem dL_isMarked_67 : decode cL_isMarked 67 = .ok (.aload_n 1, 1) := by decide +kernel
theorem dL_isMarked_68 : decode cL_isMarked 68 = .ok (.aload_n 2, 1) := by decide +kernel
theorem dL_isMarked_69 : decode cL_isMarked 69 = .ok (.aload_n 3, 1) := by decide +kernel
theorem dL_isMarked_70 : decode cL_isMarked 70 = .ok (.iload 9, 2) := by decide +kernel
theorem dL_isMarked_72 : decode cL_isMarked 72 = .ok (.iconst 1, 1) := by decide +kernel
theorem dL_isMarked_73 : decode cL_isMarked 73 = .ok (.invokestatic 180, 3) := by decide +kernel
theorem dL_isMarked_76 : decode cL_isMarked 76 = .ok (.if_icmp .ne 7, 3) := by decide +kernel
theorem dL_isMarked_79 : decode cL_isMarked 79 = .ok (.iconst 1, 1) := by decide +kernel
theorem dL_isMarked_80 : decode cL_isMarked 80 = .ok (.goto 4, 3) := by decide +kernel
theorem dL_isMarked_83 : decode cL_isMarked 83 = .ok (.iconst 0, 1) := by decide +kernel
theorem dL_isMarked_84 : decode cL_isMarked 84 = .ok (.istore 11, 2) := by decide +kernel
theorem dL_isMarked_86 : decode cL_isMarked 86 = .ok (.iload 11, 2) := by decide +kernel
theorem dL_isMarked_88 : decode cL_isMarked 88 = .ok (.ifCond .eq 25, 3) := by decide +kernel
theorem dL_isMarked_91 : decode cL_isMarked 91 = .ok (.iload 9, 2) := by decide +kernel
theorem dL_isMarked_93 : decode cL_isMarked 93 = .ok (.iload 5, 2) := by decide +kernel
theorem dL_isMarked_95 : decode cL_isMarked 95 = .ok (.iadd, 1) := by decide +kernel
theorem dL_isMarked_96 : decode cL_isMarked 96 = .ok (.bipush 7, 2) := by decide +kernel
theorem dL_isMarked_98 : decode cL_isMarked 98 = .ok (.irem, 1) := by decide +kernel
theorem dL_isMarked_99 : decode cL_isMarked 99 = .ok (.ifCond .ne 16, 3) := by decide +kernel
theorem dL_isMarked_102 : decode cL_isMarked 102 = .ok (.aload_n 0, 1) := by decide +kernel
theorem dL_isMarked_103 : decode cL_isMarked 103 = .ok (.iload 9, 2) := by decide +kernel
theorem dL_isMarked_105 : decode cL_isMarked 105 = .ok (.invokestatic 188, 3) := by decide +kernel
theorem dL_isMarked_108 : decode cL_isMarked 108 = .ok (.iload 10, 2) := by decide +kernel
theorem dL_isMarked_110 : decode cL_isMarked 110 = .ok (.if_icmp .eq 5, 3) := by decide +kernel
theorem dL_isMarked_113 : decode cL_isMarked 113 = .ok (.iconst 0, 1) := by decide +kernel
theorem dL_isMarked_114 : decode cL_isMarked 114 = .ok (.ireturn, 1) := by decide +kernel
theorem dL_isMarked_115 : decode cL_isMarked 115 = .ok (.aload_n 3, 1) := by decide +kernel
theorem dL_isMarked_116 : decode cL_isMarked 116 = .ok (.iload 9, 2) := by decide +kernel
theorem dL_isMarked_118 : decode cL_isMarked 118 = .ok (.iaload, 1) := by decide +kernel
theorem dL_isMarked_119 : decode cL_isMarked 119 = .ok (.bipush 8, 2) := by decide +kernel
theorem dL_isMarked_121 : decode cL_isMarked 121 = .ok (.irem, 1) := by decide +kernel
theorem dL_isMarked_122 : decode cL_isMarked 122 = .ok (.iload 6, 2) := by decide +kernel
theorem dL_isMarked_124 : decode cL_isMarked 124 = .ok (.if_icmp .ne 29, 3) := by decide +kernel
theorem dL_isMarked_127 : decode cL_isMarked 127 = .ok (.aload_n 3, 1) := by decide +kernel
theorem dL_isMarked_128 : decode cL_isMarked 128 = .ok (.iload 9, 2) := by decide +kernel
theorem dL_isMarked_130 : decode cL_isMarked 130 = .ok (.iaload, 1) := by decide +kernel
theorem dL_isMarked_131 : decode cL_isMarked 131 = .ok (.bipush 8, 2) := by decide +kernel
theorem dL_isMarked_133 : decode cL_isMarked 133 = .ok (.idiv, 1) := by decide +kernel
theorem dL_isMarked_134 : decode cL_isMarked 134 = .ok (.iconst 4, 1) := by decide +kernel
theorem dL_isMarked_135 : decode cL_isMarked 135 = .ok (.irem, 1) := by decide +kernel
theorem dL_isMarked_136 : decode cL_isMarked 136 = .ok (.iload 7, 2) := by decide +kernel
theorem dL_isMarked_138 : decode cL_isMarked 138 = .ok (.if_icmp .ne 15, 3) := by decide +kernel
theorem dL_isMarked_141 : decode cL_isMarked 141 = .ok (.iload 10, 2) := by decide +kernel
theorem dL_isMarked_143 : decode cL_isMarked 143 = .ok (.iload 8, 2) := by decide +kernel
theorem dL_isMarked_145 : decode cL_isMarked 145 = .ok (.if_icmp .le 8, 3) := by decide +kernel
theorem dL_isMarked_148 : decode cL_isMarked 148 = .ok (.iload 10, 2) := by decide +kernel
theorem dL_isMarked_150 : decode cL_isMarked 150 = .ok (.goto 5, 3) := by decide +kernel
theorem dL_isMarked_153 : decode cL_isMarked 153 = .ok (.iload 8, 2) := by decide +kernel
theorem dL_isMarked_155 : decode cL_isMarked 155 = .ok (.istore 8, 2) := by decide +kernel
theorem dL_isMarked_157 : decode cL_isMarked 157 = .ok (.iinc 9 1, 3) := by decide +kernel
theorem dL_isMarked_160 : decode cL_isMarked 160 = .ok (.goto (-132), 3) := by decide +kernel
theorem dL_isMarked_163 : decode cL_isMarked 163 = .ok (.iconst 0, 1) := by decide +kernel
theorem dL_isMarked_164 : decode cL_isMarked 164 = .ok (.istore 9, 2) := by decide +kernel
theorem dL_isMarked_166 : decode cL_isMarked 166 = .ok (.iload 9, 2) := by decide +kernel
theorem dL_isMarked_168 : decode cL_isMarked 168 = .ok (.aload_n 2, 1) := by decide +kernel
theorem dL_isMarked_169 : decode cL_isMarked 169 = .ok (.iconst 4, 1) := by decide +kernel
theorem dL_isMarked_170 : decode cL_isMarked 170 = .ok (.iload 7, 2) := by decide +kernel
theorem dL_isMarked_172 : decode cL_isMarked 172 = .ok (.iadd, 1) := by decide +kernel
theorem dL_isMarked_173 : decode cL_isMarked 173 = .ok (.iaload, 1) := by decide +kernel
theorem dL_isMarked_174 : decode cL_isMarked 174 = .ok (.if_icmp .ge 123, 3) := by decide +kernel
theorem dL_isMarked_177 : decode cL_isMarked 177 = .ok (.iconst 0, 1) := by decide +kernel
theorem dL_isMarked_178 : decode cL_isMarked 178 = .ok (.istore 10, 2) := by decide +kernel
theorem dL_isMarked_180 : decode cL_isMarked 180 = .ok (.iconst 0, 1) := by decide +kernel
theorem dL_isMarked_181 : decode cL_isMarked 181 = .ok (.istore 11, 2) := by decide +kernel
theorem dL_isMarked_183 : decode cL_isMarked 183 = .ok (.iload 11, 2) := by decide +kernel
theorem dL_isMarked_185 : decode cL_isMarked 185 = .ok (.aload 4, 2) := by decide +kernel
theorem dL_isMarked_187 : decode cL_isMarked 187 = .ok (.iconst 1, 1) := by decide +kernel
theorem dL_isMarked_188 : decode cL_isMarked 188 = .ok (.iaload, 1) := by decide +kernel
theorem dL_isMarked_189 : decode cL_isMarked 189 = .ok (.if_icmp .ge 87, 3) := by decide +kernel
theorem dL_isMarked_192 : decode cL_isMarked 192 = .ok (.aload_n 3, 1) := by decide +kernel
theorem dL_isMarked_193 : decode cL_isMarked 193 = .ok (.iload 11, 2) := by decide +kernel
theorem dL_isMarked_195 : decode cL_isMarked 195 = .ok (.iaload, 1) := by decide +kernel
theorem dL_isMarked_196 : decode cL_isMarked 196 = .ok (.bipush 8, 2) := by decide +kernel
theorem dL_isMarked_198 : decode cL_isMarked 198 = .ok (.idiv, 1) := by decide +kernel
theorem dL_isMarked_199 : decode cL_isMarked 199 = .ok (.iconst 4, 1) := by decide +kernel
theorem dL_isMarked_200 : decode cL_isMarked 200 = .ok (.irem, 1) := by decide +kernel
theorem dL_isMarked_201 : decode cL_isMarked 201 = .ok (.iload 7, 2) := by decide +kernel
theorem dL_isMarked_203 : decode cL_isMarked 203 = .ok (.if_icmp .ne 7, 3) := by decide +kernel
theorem dL_isMarked_206 : decode cL_isMarked 206 = .ok (.iconst 1, 1) := by decide +kernel
theorem dL_isMarked_207 : decode cL_isMarked 207 = .ok (.goto 4, 3) := by decide +kernel
theorem dL_isMarked_210 : decode cL_isMarked 210 = .ok (.iconst 0, 1) := by decide +kernel
theorem dL_isMarked_211 : decode cL_isMarked 211 = .ok (.istore 12, 2) := by decide +kernel
theorem dL_isMarked_213 : decode cL_isMarked 213 = .ok (.iload 10, 2) := by decide +kernel
theorem dL_isMarked_215 : decode cL_isMarked 215 = .ok (.iload 12, 2) := by decide +kernel
theorem dL_isMarked_217 : decode cL_isMarked 217 = .ok (.ifCond .eq 19, 3) := by decide +kernel
theorem dL_isMarked_220 : decode cL_isMarked 220 = .ok (.aload_n 0, 1) := by decide +kernel
theorem dL_isMarked_221 : decode cL_isMarked 221 = .ok (.iload 11, 2) := by decide +kernel
theorem dL_isMarked_223 : decode cL_isMarked 223 = .ok (.iload 9, 2) := by decide +kernel
theorem dL_isMarked_225 : decode cL_isMarked 225 = .ok (.invokestatic 177, 3) := by decide +kernel
theorem dL_isMarked_228 : decode cL_isMarked 228 = .ok (.iconst 1, 1) := by decide +kernel
theorem dL_isMarked_229 : decode cL_isMarked 229 = .ok (.if_icmp .ne 7, 3) := by decide +kernel
theorem dL_isMarked_232 : decode cL_isMarked 232 = .ok (.iconst 1, 1) := by decide +kernel
theorem dL_isMarked_233 : decode cL_isMarked 233 = .ok (.goto 4, 3) := by decide +kernel
theorem dL_isMarked_236 : decode cL_isMarked 236 = .ok (.iconst 0, 1) := by decide +kernel
theorem dL_isMarked_237 : decode cL_isMarked 237 = .ok (.iadd, 1) := by decide +kernel
theorem dL_isMarked_238 : decode cL_isMarked 238 = .ok (.istore 10, 2) := by decide +kernel
theorem dL_isMarked_240 : decode cL_isMarked 240 = .ok (.iload 12, 2) := by decide +kernel
theorem dL_isMarked_242 : decode cL_isMarked 242 = .ok (.ifCond .eq 28, 3) := by decide +kernel
theorem dL_isMarked_245 : decode cL_isMarked 245 = .ok (.aload_n 0, 1) := by decide +kernel
theorem dL_isMarked_246 : decode cL_isMarked 246 = .ok (.iload 11, 2) := by decide +kernel
theorem dL_isMarked_248 : decode cL_isMarked 248 = .ok (.iload 9, 2) := by decide +kernel
theorem dL_isMarked_250 : decode cL_isMarked 250 = .ok (.invokestatic 177, 3) := by decide +kernel
theorem dL_isMarked_253 : decode cL_isMarked 253 = .ok (.iconst 1, 1) := by decide +kernel
theorem dL_isMarked_254 : decode cL_isMarked 254 = .ok (.if_icmp .ne 16, 3) := by decide +kernel
theorem dL_isMarked_257 : decode cL_isMarked 257 = .ok (.aload_n 0, 1) := by decide +kernel
theorem dL_isMarked_258 : decode cL_isMarked 258 = .ok (.iload 11, 2) := by decide +kernel
theorem dL_isMarked_260 : decode cL_isMarked 260 = .ok (.iload 9, 2) := by decide +kernel
theorem dL_isMarked_262 : decode cL_isMarked 262 = .ok (.invokestatic 190, 3) := by decide +kernel
theorem dL_isMarked_265 : decode cL_isMarked 265 = .ok (.ifCond .eq 5, 3) := by decide +kernel
theorem dL_isMarked_268 : decode cL_isMarked 268 = .ok (.iconst 0, 1) := by decide +kernel
theorem dL_isMarked_269 : decode cL_isMarked 269 = .ok (.ireturn, 1) := by decide +kernel
theorem dL_isMarked_270 : decode cL_isMarked 270 = .ok (.iinc 11 1, 3) := by decide +kernel
theorem dL_isMarked_273 : decode cL_isMarked 273 = .ok (.goto (-90), 3) := by decide +kernel
theorem dL_isMarked_276 : decode cL_isMarked 276 = .ok (.aload_n 0, 1) := by decide +kernel
theorem dL_isMarked_277 : decode cL_isMarked 277 = .ok (.iload 7, 2) := by decide +kernel
theorem dL_isMarked_279 : decode cL_isMarked 279 = .ok (.iload 9, 2) := by decide +kernel
theorem dL_isMarked_281 : decode cL_isMarked 281 = .ok (.invokestatic 192, 3) := by decide +kernel
theorem dL_isMarked_284 : decode cL_isMarked 284 = .ok (.iload 10, 2) := by decide +kernel
theorem dL_isMarked_286 : decode cL_isMarked 286 = .ok (.if_icmp .eq 5, 3) := by decide +kernel
theorem dL_isMarked_289 : decode cL_isMarked 289 = .ok (.iconst 0, 1) := by decide +kernel
theorem dL_isMarked_290 : decode cL_isMarked 290 = .ok (.ireturn, 1) := by decide +kernel
theorem dL_isMarked_291 : decode cL_isMarked 291 = .ok (.iinc 9 1, 3) := by decide +kernel
theorem dL_isMarked_294 : decode cL_isMarked 294 = .ok (.goto (-128), 3) := by decide +kernel
theorem dL_isMarked_297 : decode cL_isMarked 297 = .ok (.aload_n 0, 1) := by decide +kernel
theorem dL_isMarked_298 : decode cL_isMarked 298 = .ok (.iload 6, 2) := by decide +kernel
theorem dL_isMarked_300 : decode cL_isMarked 300 = .ok (.iload 7, 2) := by decide +kernel
theorem dL_isMarked_302 : decode cL_isMarked 302 = .ok (.invokestatic 194, 3) := by decide +kernel
theorem dL_isMarked_305 : decode cL_isMarked 305 = .ok (.iload 8, 2) := by decide +kernel
theorem dL_isMarked_307 : decode cL_isMarked 307 = .ok (.if_icmp .ne 71, 3) := by decide +kernel
theorem dL_isMarked_310 : decode cL_isMarked 310 = .ok (.aload_n 0, 1) := by decide +kernel
theorem dL_isMarked_311 : decode cL_isMarked 311 = .ok (.invokevirtual 196, 3) := by decide +kernel
theorem dL_isMarked_314 : decode cL_isMarked 314 = .ok (.aload 4, 2) := by decide +kernel
theorem dL_isMarked_316 : decode cL_isMarked 316 = .ok (.iconst 1, 1) := by decide +kernel
theorem dL_isMarked_317 : decode cL_isMarked 317 = .ok (.iaload, 1) := by decide +kernel
theorem dL_isMarked_318 : decode cL_isMarked 318 = .ok (.if_icmp .ne 60, 3) := by decide +kernel
theorem dL_isMarked_321 : decode cL_isMarked 321 = .ok (.aload_n 0, 1) := by decide +kernel
theorem dL_isMarked_322 : decode cL_isMarked 322 = .ok (.invokevirtual 199, 3) := by decide +kernel
theorem dL_isMarked_325 : decode cL_isMarked 325 = .ok (.aload 4, 2) := by decide +kernel
theorem dL_isMarked_327 : decode cL_isMarked 327 = .ok (.iconst 2, 1) := by decide +kernel
theorem dL_isMarked_328 : decode cL_isMarked 328 = .ok (.iaload, 1) := by decide +kernel
theorem dL_isMarked_329 : decode cL_isMarked 329 = .ok (.if_icmp .ne 49, 3) := by decide +kernel
theorem dL_isMarked_332 : decode cL_isMarked 332 = .ok (.aload_n 0, 1) := by decide +kernel
theorem dL_isMarked_333 : decode cL_isMarked 333 = .ok (.aload 4, 2) := by decide +kernel
theorem dL_isMarked_335 : decode cL_isMarked 335 = .ok (.iconst 1, 1) := by decide +kernel
theorem dL_isMarked_336 : decode cL_isMarked 336 = .ok (.iaload, 1) := by decide +kernel
theorem dL_isMarked_337 : decode cL_isMarked 337 = .ok (.invokestatic 184, 3) := by decide +kernel
theorem dL_isMarked_340 : decode cL_isMarked 340 = .ok (.ldc 29, 2) := by decide +kernel
theorem dL_isMarked_342 : decode cL_isMarked 342 = .ok (.if_icmp .ne 36, 3) := by decide +kernel
theorem dL_isMarked_345 : decode cL_isMarked 345 = .ok (.aload_n 0, 1) := by decide +kernel
theorem dL_isMarked_346 : decode cL_isMarked 346 = .ok (.iload 7, 2) := by decide +kernel
theorem dL_isMarked_348 : decode cL_isMarked 348 = .ok (.aload_n 2, 1) := by decide +kernel
theorem dL_isMarked_349 : decode cL_isMarked 349 = .ok (.iconst 4, 1) := by decide +kernel
theorem dL_isMarked_350 : decode cL_isMarked 350 = .ok (.iload 7, 2) := by decide +kernel
theorem dL_isMarked_352 : decode cL_isMarked 352 = .ok (.iadd, 1) := by decide +kernel
theorem dL_isMarked_353 : decode cL_isMarked 353 = .ok (.iaload, 1) := by decide +kernel
theorem dL_isMarked_354 : decode cL_isMarked 354 = .ok (.invokestatic 192, 3) := by decide +kernel
theorem dL_isMarked_357 : decode cL_isMarked 357 = .ok (.ldc 29, 2) := by decide +kernel
theorem dL_isMarked_359 : decode cL_isMarked 359 = .ok (.if_icmp .ne 19, 3) := by decide +kernel
theorem dL_isMarked_362 : decode cL_isMarked 362 = .ok (.aload_n 0, 1) := by decide +kernel
theorem dL_isMarked_363 : decode cL_isMarked 363 = .ok (.bipush 6, 2) := by decide +kernel
theorem dL_isMarked_365 : decode cL_isMarked 365 = .ok (.iconst 0, 1) := by decide +kernel
theorem dL_isMarked_366 : decode cL_isMarked 366 = .ok (.invokestatic 194, 3) := by decide +kernel
theorem dL_isMarked_369 : decode cL_isMarked 369 = .ok (.ldc 29, 2) := by decide +kernel
theorem dL_isMarked_371 : decode cL_isMarked 371 = .ok (.if_icmp .ne 7, 3) := by decide +kernel
theorem dL_isMarked_374 : decode cL_isMarked 374 = .ok (.iconst 1, 1) := by decide +kernel
theorem dL_isMarked_375 : decode cL_isMarked 375 = .ok (.goto 4, 3) := by decide +kernel
theorem dL_isMarked_378 : decode cL_isMarked 378 = .ok (.iconst 0, 1) := by decide +kernel
theorem dL_isMarked_379 : decode cL_isMarked 379 = .ok (.ireturn, 1) := by decide +kernel
theorem dL_hands_0 : decode cL_hands 0 = .ok (.iload 6, 2) := by decide +kernel
theorem dL_hands_2 : decode cL_hands 2 = .ok (.bipush 6, 2) := by decide +kernel
theorem dL_hands_4 : decode cL_hands 4 = .ok (.invokestatic 118, 3) := by decide +kernel
theorem dL_hands_7 : decode cL_hands 7 = .ok (.istore 7, 2) := by decide +kernel
theorem dL_hands_9 : decode cL_hands 9 = .ok (.iload 6, 2) := by decide +kernel
theorem dL_hands_11 : decode cL_hands 11 = .ok (.iconst 3, 1) := by decide +kernel
theorem dL_hands_12 : decode cL_hands 12 = .ok (.ishr, 1) := by decide +kernel
theorem dL_hands_13 : decode cL_hands 13 = .ok (.aload 5, 2) := by decide +kernel
theorem dL_hands_15 : decode cL_hands 15 = .ok (.iconst 0, 1) := by decide +kernel
theorem dL_hands_16 : decode cL_hands 16 = .ok (.iaload, 1) := by decide +kernel
theorem dL_hands_17 : decode cL_hands 17 = .ok (.invokestatic 118, 3) := by decide +kernel
theorem dL_hands_20 : decode cL_hands 20 = .ok (.istore 8, 2) := by decide +kernel
theorem dL_hands_22 : decode cL_hands 22 = .ok (.aload_n 0, 1) := by decide +kernel
theorem dL_hands_23 : decode cL_hands 23 = .ok (.iload 7, 2) := by decide +kernel
theorem dL_hands_25 : decode cL_hands 25 = .ok (.iload 8, 2) := by decide +kernel
theorem dL_hands_27 : decode cL_hands 27 = .ok (.invokestatic 173, 3) := by decide +kernel
theorem dL_hands_30 : decode cL_hands 30 = .ok (.istore 9, 2) := by decide +kernel
theorem dL_hands_32 : decode cL_hands 32 = .ok (.aload 5, 2) := by decide +kernel
theorem dL_hands_34 : decode cL_hands 34 = .ok (.iconst 1, 1) := by decide +kernel
theorem dL_hands_35 : decode cL_hands 35 = .ok (.iaload, 1) := by decide +kernel
theorem dL_hands_36 : decode cL_hands 36 = .ok (.bipush 30, 2) := by decide +kernel
theorem dL_hands_38 : decode cL_hands 38 = .ok (.if_icmp .ne 16, 3) := by decide +kernel
theorem dL_hands_41 : decode cL_hands 41 = .ok (.iload 9, 2) := by decide +kernel
theorem dL_hands_43 : decode cL_hands 43 = .ok (.ldc 36, 2) := by decide +kernel
theorem dL_hands_45 : decode cL_hands 45 = .ok (.if_icmp .ne 7, 3) := by decide +kernel
theorem dL_hands_48 : decode cL_hands 48 = .ok (.iconst 1, 1) := by decide +kernel
theorem dL_hands_49 : decode cL_hands 49 = .ok (.goto 4, 3) := by decide +kernel
theorem dL_hands_52 : decode cL_hands 52 = .ok (.iconst 0, 1) := by decide +kernel
theorem dL_hands_53 : decode cL_hands 53 = .ok (.ireturn, 1) := by decide +kernel
theorem dL_hands_54 : decode cL_hands 54 = .ok (.aload 4, 2) := by decide +kernel
theorem dL_hands_56 : decode cL_hands 56 = .ok (.aload 5, 2) := by decide +kernel
theorem dL_hands_58 : decode cL_hands 58 = .ok (.iconst 1, 1) := by decide +kernel
theorem dL_hands_59 : decode cL_hands 59 = .ok (.iaload, 1) := by decide +kernel
theorem dL_hands_60 : decode cL_hands 60 = .ok (.iload 7, 2) := by decide +kernel
theorem dL_hands_62 : decode cL_hands 62 = .ok (.bipush 8, 2) := by decide +kernel
theorem dL_hands_64 : decode cL_hands 64 = .ok (.iload 8, 2) := by decide +kernel
theorem dL_hands_66 : decode cL_hands 66 = .ok (.imul, 1) := by decide +kernel
theorem dL_hands_67 : decode cL_hands 67 = .ok (.iadd, 1) := by decide +kernel
theorem dL_hands_68 : decode cL_hands 68 = .ok (.bipush 32, 2) := by decide +kernel
theorem dL_hands_70 : decode cL_hands 70 = .ok (.aload 5, 2) := by decide +kernel
theorem dL_hands_72 : decode cL_hands 72 = .ok (.iconst 2, 1) := by decide +kernel
theorem dL_hands_73 : decode cL_hands 73 = .ok (.iaload, 1) := by decide +kernel
theorem dL_hands_74 : decode cL_hands 74 = .ok (.imul, 1) := by decide +kernel
theorem dL_hands_75 : decode cL_hands 75 = .ok (.iadd, 1) := by decide +kernel
theorem dL_hands_76 : decode cL_hands 76 = .ok (.iastore, 1) := by decide +kernel
theorem dL_hands_77 : decode cL_hands 77 = .ok (.aload 5, 2) := by decide +kernel
theorem dL_hands_79 : decode cL_hands 79 = .ok (.iconst 1, 1) := by decide +kernel
theorem dL_hands_80 : decode cL_hands 80 = .ok (.dup2, 1) := by decide +kernel
theorem dL_hands_81 : decode cL_hands 81 = .ok (.iaload, 1) := by decide +kernel
theorem dL_hands_82 : decode cL_hands 82 = .ok (.iconst 1, 1) := by decide +kernel
theorem dL_hands_83 : decode cL_hands 83 = .ok (.iadd, 1) := by decide +kernel
theorem dL_hands_84 : decode cL_hands 84 = .ok (.iastore, 1) := by decide +kernel
theorem dL_hands_85 : decode cL_hands 85 = .ok (.iload 9, 2) := by decide +kernel
theorem dL_hands_87 : decode cL_hands 87 = .ok (.aload 5, 2) := by decide +kernel
theorem dL_hands_89 : decode cL_hands 89 = .ok (.iconst 1, 1) := by decide +kernel
theorem dL_hands_90 : decode cL_hands 90 = .ok (.iaload, 1) := by decide +kernel
theorem dL_hands_91 : decode cL_hands 91 = .ok (.iconst 1, 1) := by decide +kernel
theorem dL_hands_92 : decode cL_hands 92 = .ok (.isub, 1) := by decide +kernel
theorem dL_hands_93 : decode cL_hands 93 = .ok (.if_icmp .ne 60, 3) := by decide +kernel
theorem dL_hands_96 : decode cL_hands 96 = .ok (.aload_n 0, 1) := by decide +kernel
theorem dL_hands_97 : decode cL_hands 97 = .ok (.iload 9, 2) := by decide +kernel
theorem dL_hands_99 : decode cL_hands 99 = .ok (.invokestatic 202, 3) := by decide +kernel
theorem dL_hands_102 : decode cL_hands 102 = .ok (.aload 5, 2) := by decide +kernel
theorem dL_hands_104 : decode cL_hands 104 = .ok (.iconst 3, 1) := by decide +kernel
theorem dL_hands_105 : decode cL_hands 105 = .ok (.iaload, 1) := by decide +kernel
theorem dL_hands_106 : decode cL_hands 106 = .ok (.if_icmp .ne 47, 3) := by decide +kernel
theorem dL_hands_109 : decode cL_hands 109 = .ok (.aload_n 0, 1) := by decide +kernel
theorem dL_hands_110 : decode cL_hands 110 = .ok (.iload 9, 2) := by decide +kernel
theorem dL_hands_112 : decode cL_hands 112 = .ok (.iload 9, 2) := by decide +kernel
theorem dL_hands_114 : decode cL_hands 114 = .ok (.invokestatic 204, 3) := by decide +kernel
theorem dL_hands_117 : decode cL_hands 117 = .ok (.aload 5, 2) := by decide +kernel
theorem dL_hands_119 : decode cL_hands 119 = .ok (.iconst 3, 1) := by decide +kernel
theorem dL_hands_120 : decode cL_hands 120 = .ok (.iaload, 1) := by decide +kernel
theorem dL_hands_121 : decode cL_hands 121 = .ok (.if_icmp .ne 32, 3) := by decide +kernel
theorem dL_hands_124 : decode cL_hands 124 = .ok (.aload_n 0, 1) := by decide +kernel
theorem dL_hands_125 : decode cL_hands 125 = .ok (.iload 9, 2) := by decide +kernel
theorem dL_hands_127 : decode cL_hands 127 = .ok (.iload 9, 2) := by decide +kernel
theorem dL_hands_129 : decode cL_hands 129 = .ok (.invokestatic 206, 3) := by decide +kernel
theorem dL_hands_132 : decode cL_hands 132 = .ok (.bipush 100, 2) := by decide +kernel
theorem dL_hands_134 : decode cL_hands 134 = .ok (.if_icmp .ne 19, 3) := by decide +kernel
theorem dL_hands_137 : decode cL_hands 137 = .ok (.aload_n 0, 1) := by decide +kernel
theorem dL_hands_138 : decode cL_hands 138 = .ok (.bipush 6, 2) := by decide +kernel
theorem dL_hands_140 : decode cL_hands 140 = .ok (.iconst 0, 1) := by decide +kernel
theorem dL_hands_141 : decode cL_hands 141 = .ok (.invokestatic 173, 3) := by decide +kernel
theorem dL_hands_144 : decode cL_hands 144 = .ok (.ldc 29, 2) := by decide +kernel
theorem dL_hands_146 : decode cL_hands 146 = .ok (.if_icmp .ne 7, 3) := by decide +kernel
theorem dL_hands_149 : decode cL_hands 149 = .ok (.iconst 1, 1) := by decide +kernel
theorem dL_hands_150 : decode cL_hands 150 = .ok (.goto 4, 3) := by decide +kernel
theorem dL_hands_153 : decode cL_hands 153 = .ok (.iconst 0, 1) := by decide +kernel
theorem dL_hands_154 : decode cL_hands 154 = .ok (.istore 10, 2) := by decide +kernel
theorem dL_hands_156 : decode cL_hands 156 = .ok (.iconst 0, 1) := by decide +kernel
theorem dL_hands_157 : decode cL_hands 157 = .ok (.istore 11, 2) := by decide +kernel
theorem dL_hands_159 : decode cL_hands 159 = .ok (.iload 11, 2) := by decide +kernel
theorem dL_hands_161 : decode cL_hands 161 = .ok (.aload_n 3, 1) := by decide +kernel
theorem dL_hands_162 : decode cL_hands 162 = .ok (.iconst 4, 1) := by decide +kernel
theorem dL_hands_163 : decode cL_hands 163 = .ok (.iload 8, 2) := by decide +kernel
theorem dL_hands_165 : decode cL_hands 165 = .ok (.iadd, 1) := by decide +kernel
theorem dL_hands_166 : decode cL_hands 166 = .ok (.iaload, 1) := by decide +kernel
theorem dL_hands_167 : decode cL_hands 167 = .ok (.if_icmp .ge 166, 3) := by decide +kernel
theorem dL_hands_170 : decode cL_hands 170 = .ok (.iload 10, 2) := by decide +kernel
theorem dL_hands_172 : decode cL_hands 172 = .ok (.ifCond .eq 161, 3) := by decide +kernel
theorem dL_hands_175 : decode cL_hands 175 = .ok (.bipush 8, 2) := by decide +kernel
theorem dL_hands_177 : decode cL_hands 177 = .ok (.iload 8, 2) := by decide +kernel
theorem dL_hands_179 : decode cL_hands 179 = .ok (.imul, 1) := by decide +kernel
theorem dL_hands_180 : decode cL_hands 180 = .ok (.iload 11, 2) := by decide +kernel
theorem dL_hands_182 : decode cL_hands 182 = .ok (.iadd, 1) := by decide +kernel
theorem dL_hands_183 : decode cL_hands 183 = .ok (.istore 12, 2) := by decide +kernel
theorem dL_hands_185 : decode cL_hands 185 = .ok (.aload_n 0, 1) := by decide +kernel
theorem dL_hands_186 : decode cL_hands 186 = .ok (.aload_n 3, 1) := by decide +kernel
theorem dL_hands_187 : decode cL_hands 187 = .ok (.iload 8, 2) := by decide +kernel
theorem dL_hands_189 : decode cL_hands 189 = .ok (.iaload, 1) := by decide +kernel
theorem dL_hands_190 : decode cL_hands 190 = .ok (.sipush 4096, 3) := by decide +kernel
theorem dL_hands_193 : decode cL_hands 193 = .ok (.irem, 1) := by decide +kernel
theorem dL_hands_194 : decode cL_hands 194 = .ok (.aload_n 1, 1) := by decide +kernel
theorem dL_hands_195 : decode cL_hands 195 = .ok (.iconst 2, 1) := by decide +kernel
theorem dL_hands_196 : decode cL_hands 196 = .ok (.iload 12, 2) := by decide +kernel
theorem dL_hands_198 : decode cL_hands 198 = .ok (.imul, 1) := by decide +kernel
theorem dL_hands_199 : decode cL_hands 199 = .ok (.iaload, 1) := by decide +kernel
theorem dL_hands_200 : decode cL_hands 200 = .ok (.aload_n 1, 1) := by decide +kernel
theorem dL_hands_201 : decode cL_hands 201 = .ok (.iconst 2, 1) := by decide +kernel
theorem dL_hands_202 : decode cL_hands 202 = .ok (.iload 12, 2) := by decide +kernel
theorem dL_hands_204 : decode cL_hands 204 = .ok (.imul, 1) := by decide +kernel
theorem dL_hands_205 : decode cL_hands 205 = .ok (.iconst 1, 1) := by decide +kernel
theorem dL_hands_206 : decode cL_hands 206 = .ok (.iadd, 1) := by decide +kernel
theorem dL_hands_207 : decode cL_hands 207 = .ok (.iaload, 1) := by decide +kernel
theorem dL_hands_208 : decode cL_hands 208 = .ok (.invokestatic 158, 3) := by decide +kernel
theorem dL_hands_211 : decode cL_hands 211 = .ok (.istore 13, 2) := by decide +kernel
theorem dL_hands_213 : decode cL_hands 213 = .ok (.aload_n 2, 1) := by decide +kernel
theorem dL_hands_214 : decode cL_hands 214 = .ok (.iload 12, 2) := by decide +kernel
theorem dL_hands_216 : decode cL_hands 216 = .ok (.iaload, 1) := by decide +kernel
theorem dL_hands_217 : decode cL_hands 217 = .ok (.iconst 4, 1) := by decide +kernel
theorem dL_hands_218 : decode cL_hands 218 = .ok (.irem, 1) := by decide +kernel
theorem dL_hands_219 : decode cL_hands 219 = .ok (.istore 14, 2) := by decide +kernel
theorem dL_hands_221 : decode cL_hands 221 = .ok (.iload 13, 2) := by decide +kernel
theorem dL_hands_223 : decode cL_hands 223 = .ok (.ifCond .ne 60, 3) := by decide +kernel
theorem dL_hands_226 : decode cL_hands 226 = .ok (.aload_n 0, 1) := by decide +kernel
theorem dL_hands_227 : decode cL_hands 227 = .ok (.invokevirtual 164, 3) := by decide +kernel
theorem dL_hands_230 : decode cL_hands 230 = .ok (.iload 14, 2) := by decide +kernel
theorem dL_hands_232 : decode cL_hands 232 = .ok (.if_icmp .ne 51, 3) := by decide +kernel
theorem dL_hands_235 : decode cL_hands 235 = .ok (.iload 14, 2) := by decide +kernel
theorem dL_hands_237 : decode cL_hands 237 = .ok (.iconst 1, 1) := by decide +kernel
theorem dL_hands_238 : decode cL_hands 238 = .ok (.if_icmp .lt 20, 3) := by decide +kernel
theorem dL_hands_241 : decode cL_hands 241 = .ok (.aload_n 0, 1) := by decide +kernel
theorem dL_hands_242 : decode cL_hands 242 = .ok (.iconst 0, 1) := by decide +kernel
theorem dL_hands_243 : decode cL_hands 243 = .ok (.invokestatic 167, 3) := by decide +kernel
theorem dL_hands_246 : decode cL_hands 246 = .ok (.aload_n 2, 1) := by decide +kernel
theorem dL_hands_247 : decode cL_hands 247 = .ok (.iload 12, 2) := by decide +kernel
theorem dL_hands_249 : decode cL_hands 249 = .ok (.iaload, 1) := by decide +kernel
theorem dL_hands_250 : decode cL_hands 250 = .ok (.iconst 4, 1) := by decide +kernel
theorem dL_hands_251 : decode cL_hands 251 = .ok (.idiv, 1) := by decide +kernel
theorem dL_hands_252 : decode cL_hands 252 = .ok (.bipush 16, 2) := by decide +kernel
theorem dL_hands_254 : decode cL_hands 254 = .ok (.irem, 1) := by decide +kernel
theorem dL_hands_255 : decode cL_hands 255 = .ok (.if_icmp .ne 28, 3) := by decide +kernel
theorem dL_hands_258 : decode cL_hands 258 = .ok (.iload 14, 2) := by decide +kernel
theorem dL_hands_260 : decode cL_hands 260 = .ok (.iconst 2, 1) := by decide +kernel
theorem dL_hands_261 : decode cL_hands 261 = .ok (.if_icmp .lt 18, 3) := by decide +kernel
theorem dL_hands_264 : decode cL_hands 264 = .ok (.aload_n 0, 1) := by decide +kernel
theorem dL_hands_265 : decode cL_hands 265 = .ok (.iconst 1, 1) := by decide +kernel
theorem dL_hands_266 : decode cL_hands 266 = .ok (.invokestatic 167, 3) := by decide +kernel
theorem dL_hands_269 : decode cL_hands 269 = .ok (.aload_n 2, 1) := by decide +kernel
theorem dL_hands_270 : decode cL_hands 270 = .ok (.iload 12, 2) := by decide +kernel
theorem dL_hands_272 : decode cL_hands 272 = .ok (.iaload, 1) := by decide +kernel
theorem dL_hands_273 : decode cL_hands 273 = .ok (.bipush 64, 2) := by decide +kernel
theorem dL_hands_275 : decode cL_hands 275 = .ok (.idiv, 1) := by decide +kernel
theorem dL_hands_276 : decode cL_hands 276 = .ok (.if_icmp .ne 7, 3) := by decide +kernel
theorem dL_hands_279 : decode cL_hands 279 = .ok (.iconst 1, 1) := by decide +kernel
theorem dL_hands_280 : decode cL_hands 280 = .ok (.goto 4, 3) := by decide +kernel
theorem dL_hands_283 : decode cL_hands 283 = .ok (.iconst 0, 1) := by decide +kernel
theorem dL_hands_284 : decode cL_hands 284 = .ok (.istore 15, 2) := by decide +kernel
theorem dL_hands_286 : decode cL_hands 286 = .ok (.aload_n 0, 1) := by decide +kernel
theorem dL_hands_287 : decode cL_hands 287 = .ok (.iload 9, 2) := by decide +kernel
theorem dL_hands_289 : decode cL_hands 289 = .ok (.iload 11, 2) := by decide +kernel
theorem dL_hands_291 : decode cL_hands 291 = .ok (.invokestatic 190, 3) := by decide +kernel
theorem dL_hands_294 : decode cL_hands 294 = .ok (.iload 13, 2) := by decide +kernel
theorem dL_hands_296 : decode cL_hands 296 = .ok (.if_icmp .ne 28, 3) := by decide +kernel
theorem dL_hands_299 : decode cL_hands 299 = .ok (.aload_n 0, 1) := by decide +kernel
theorem dL_hands_300 : decode cL_hands 300 = .ok (.iload 9, 2) := by decide +kernel
theorem dL_hands_302 : decode cL_hands 302 = .ok (.iload 11, 2) := by decide +kernel
theorem dL_hands_304 : decode cL_hands 304 = .ok (.invokestatic 177, 3) := by decide +kernel
theorem dL_hands_307 : decode cL_hands 307 = .ok (.iload 15, 2) := by decide +kernel
theorem dL_hands_309 : decode cL_hands 309 = .ok (.ifCond .eq 7, 3) := by decide +kernel
theorem dL_hands_312 : decode cL_hands 312 = .ok (.iconst 1, 1) := by decide +kernel
theorem dL_hands_313 : decode cL_hands 313 = .ok (.goto 4, 3) := by decide +kernel
theorem dL_hands_316 : decode cL_hands 316 = .ok (.iconst 0, 1) := by decide +kernel
theorem dL_hands_317 : decode cL_hands 317 = .ok (.if_icmp .ne 7, 3) := by decide +kernel
theorem dL_hands_320 : decode cL_hands 320 = .ok (.iconst 1, 1) := by decide +kernel
theorem dL_hands_321 : decode cL_hands 321 = .ok (.goto 4, 3) := by decide +kernel
theorem dL_hands_324 : decode cL_hands 324 = .ok (.iconst 0, 1) := by decide +kernel
theorem dL_hands_325 : decode cL_hands 325 = .ok (.istore 10, 2) := by decide +kernel
theorem dL_hands_327 : decode cL_hands 327 = .ok (.iinc 11 1, 3) := by decide +kernel
theorem dL_hands_330 : decode cL_hands 330 = .ok (.goto (-171), 3) := by decide +kernel
theorem dL_hands_333 : decode cL_hands 333 = .ok (.iload 10, 2) := by decide +kernel
theorem dL_hands_335 : decode cL_hands 335 = .ok (.ifCond .eq 36, 3) := by decide +kernel
theorem dL_hands_338 : decode cL_hands 338 = .ok (.aload_n 0, 1) := by decide +kernel
theorem dL_hands_339 : decode cL_hands 339 = .ok (.iload 9, 2) := by decide +kernel
theorem dL_hands_341 : decode cL_hands 341 = .ok (.aload_n 3, 1) := by decide +kernel
theorem dL_hands_342 : decode cL_hands 342 = .ok (.iconst 4, 1) := by decide +kernel
theorem dL_hands_343 : decode cL_hands 343 = .ok (.iload 8, 2) := by decide +kernel
theorem dL_hands_345 : decode cL_hands 345 = .ok (.iadd, 1) := by decide +kernel
theorem dL_hands_346 : decode cL_hands 346 = .ok (.iaload, 1) := by decide +kernel
theorem dL_hands_347 : decode cL_hands 347 = .ok (.invokestatic 190, 3) := by decide +kernel
theorem dL_hands_350 : decode cL_hands 350 = .ok (.ldc 29, 2) := by decide +kernel
theorem dL_hands_352 : decode cL_hands 352 = .ok (.if_icmp .ne 19, 3) := by decide +kernel
theorem dL_hands_355 : decode cL_hands 355 = .ok (.aload_n 0, 1) := by decide +kernel
theorem dL_hands_356 : decode cL_hands 356 = .ok (.iload 9, 2) := by decide +kernel
theorem dL_hands_358 : decode cL_hands 358 = .ok (.iconst (-1), 1) := by decide +kernel
theorem dL_hands_359 : decode cL_hands 359 = .ok (.invokestatic 177, 3) := by decide +kernel
theorem dL_hands_362 : decode cL_hands 362 = .ok (.ldc 29, 2) := by decide +kernel
theorem dL_hands_364 : decode cL_hands 364 = .ok (.if_icmp .ne 7, 3) := by decide +kernel
theorem dL_hands_367 : decode cL_hands 367 = .ok (.iconst 1, 1) := by decide +kernel
theorem dL_hands_368 : decode cL_hands 368 = .ok (.goto 4, 3) := by decide +kernel
theorem dL_hands_371 : decode cL_hands 371 = .ok (.iconst 0, 1) := by decide +kernel
theorem dL_hands_372 : decode cL_hands 372 = .ok (.ireturn, 1) := by decide +kernel
theorem dL_accuses_0 : decode cL_accuses 0 = .ok (.iload 5, 2) := by decide +kernel
theorem dL_accuses_2 : decode cL_accuses 2 = .ok (.aload 4, 2) := by decide +kernel
theorem dL_accuses_4 : decode cL_accuses 4 = .ok (.iconst 1, 1) := by decide +kernel
theorem dL_accuses_5 : decode cL_accuses 5 = .ok (.iaload, 1) := by decide +kernel
theorem dL_accuses_6 : decode cL_accuses 6 = .ok (.invokestatic 118, 3) := by decide +kernel
theorem dL_accuses_9 : decode cL_accuses 9 = .ok (.istore 6, 2) := by decide +kernel
theorem dL_accuses_11 : decode cL_accuses 11 = .ok (.iload 5, 2) := by decide +kernel
theorem dL_accuses_13 : decode cL_accuses 13 = .ok (.iconst 5, 1) := by decide +kernel
theorem dL_accuses_14 : decode cL_accuses 14 = .ok (.ishr, 1) := by decide +kernel
theorem dL_accuses_15 : decode cL_accuses 15 = .ok (.aload 4, 2) := by decide +kernel
theorem dL_accuses_17 : decode cL_accuses 17 = .ok (.iconst 1, 1) := by decide +kernel
theorem dL_accuses_18 : decode cL_accuses 18 = .ok (.iaload, 1) := by decide +kernel
theorem dL_accuses_19 : decode cL_accuses 19 = .ok (.invokestatic 118, 3) := by decide +kernel
theorem dL_accuses_22 : decode cL_accuses 22 = .ok (.istore 7, 2) := by decide +kernel
theorem dL_accuses_24 : decode cL_accuses 24 = .ok (.aload_n 0, 1) := by decide +kernel
theorem dL_accuses_25 : decode cL_accuses 25 = .ok (.iload 6, 2) := by decide +kernel
theorem dL_accuses_27 : decode cL_accuses 27 = .ok (.iload 7, 2) := by decide +kernel
theorem dL_accuses_29 : decode cL_accuses 29 = .ok (.invokestatic 204, 3) := by decide +kernel
theorem dL_accuses_32 : decode cL_accuses 32 = .ok (.istore 8, 2) := by decide +kernel
theorem dL_accuses_34 : decode cL_accuses 34 = .ok (.aload_n 0, 1) := by decide +kernel
theorem dL_accuses_35 : decode cL_accuses 35 = .ok (.iload 6, 2) := by decide +kernel
theorem dL_accuses_37 : decode cL_accuses 37 = .ok (.invokestatic 202, 3) := by decide +kernel
theorem dL_accuses_40 : decode cL_accuses 40 = .ok (.aload_n 0, 1) := by decide +kernel
theorem dL_accuses_41 : decode cL_accuses 41 = .ok (.iload 7, 2) := by decide +kernel
theorem dL_accuses_43 : decode cL_accuses 43 = .ok (.invokestatic 202, 3) := by decide +kernel
theorem dL_accuses_46 : decode cL_accuses 46 = .ok (.iadd, 1) := by decide +kernel
theorem dL_accuses_47 : decode cL_accuses 47 = .ok (.istore 9, 2) := by decide +kernel
theorem dL_accuses_49 : decode cL_accuses 49 = .ok (.iload 8, 2) := by decide +kernel
theorem dL_accuses_51 : decode cL_accuses 51 = .ok (.aload_n 0, 1) := by decide +kernel
theorem dL_accuses_52 : decode cL_accuses 52 = .ok (.iload 7, 2) := by decide +kernel
theorem dL_accuses_54 : decode cL_accuses 54 = .ok (.iload 6, 2) := by decide +kernel
theorem dL_accuses_56 : decode cL_accuses 56 = .ok (.invokestatic 204, 3) := by decide +kernel
theorem dL_accuses_59 : decode cL_accuses 59 = .ok (.if_icmp .ne 79, 3) := by decide +kernel
theorem dL_accuses_62 : decode cL_accuses 62 = .ok (.iconst 2, 1) := by decide +kernel
theorem dL_accuses_63 : decode cL_accuses 63 = .ok (.iload 8, 2) := by decide +kernel
theorem dL_accuses_65 : decode cL_accuses 65 = .ok (.imul, 1) := by decide +kernel
theorem dL_accuses_66 : decode cL_accuses 66 = .ok (.iload 9, 2) := by decide +kernel
theorem dL_accuses_68 : decode cL_accuses 68 = .ok (.if_icmp .gt 70, 3) := by decide +kernel
theorem dL_accuses_71 : decode cL_accuses 71 = .ok (.aload_n 0, 1) := by decide +kernel
theorem dL_accuses_72 : decode cL_accuses 72 = .ok (.iload 6, 2) := by decide +kernel
theorem dL_accuses_74 : decode cL_accuses 74 = .ok (.iload 7, 2) := by decide +kernel
theorem dL_accuses_76 : decode cL_accuses 76 = .ok (.invokestatic 206, 3) := by decide +kernel
theorem dL_accuses_79 : decode cL_accuses 79 = .ok (.iload 9, 2) := by decide +kernel
theorem dL_accuses_81 : decode cL_accuses 81 = .ok (.ifCond .ne 7, 3) := by decide +kernel
theorem dL_accuses_84 : decode cL_accuses 84 = .ok (.iconst 0, 1) := by decide +kernel
theorem dL_accuses_85 : decode cL_accuses 85 = .ok (.goto 12, 3) := by decide +kernel
theorem dL_accuses_88 : decode cL_accuses 88 = .ok (.sipush 200, 3) := by decide +kernel
theorem dL_accuses_91 : decode cL_accuses 91 = .ok (.iload 8, 2) := by decide +kernel
theorem dL_accuses_93 : decode cL_accuses 93 = .ok (.imul, 1) := by decide +kernel
theorem dL_accuses_94 : decode cL_accuses 94 = .ok (.iload 9, 2) := by decide +kernel
theorem dL_accuses_96 : decode cL_accuses 96 = .ok (.idiv, 1) := by decide +kernel
theorem dL_accuses_97 : decode cL_accuses 97 = .ok (.if_icmp .ne 41, 3) := by decide +kernel
theorem dL_accuses_100 : decode cL_accuses 100 = .ok (.aload_n 0, 1) := by decide +kernel
theorem dL_accuses_101 : decode cL_accuses 101 = .ok (.iload 6, 2) := by decide +kernel
theorem dL_accuses_103 : decode cL_accuses 103 = .ok (.iload 7, 2) := by decide +kernel
theorem dL_accuses_105 : decode cL_accuses 105 = .ok (.invokestatic 206, 3) := by decide +kernel
theorem dL_accuses_108 : decode cL_accuses 108 = .ok (.aload_n 0, 1) := by decide +kernel
theorem dL_accuses_109 : decode cL_accuses 109 = .ok (.iload 7, 2) := by decide +kernel
theorem dL_accuses_111 : decode cL_accuses 111 = .ok (.iload 6, 2) := by decide +kernel
theorem dL_accuses_113 : decode cL_accuses 113 = .ok (.invokestatic 206, 3) := by decide +kernel
theorem dL_accuses_116 : decode cL_accuses 116 = .ok (.if_icmp .ne 22, 3) := by decide +kernel
theorem dL_accuses_119 : decode cL_accuses 119 = .ok (.aload_n 0, 1) := by decide +kernel
theorem dL_accuses_120 : decode cL_accuses 120 = .ok (.iload 6, 2) := by decide +kernel
theorem dL_accuses_122 : decode cL_accuses 122 = .ok (.aload 4, 2) := by decide +kernel
theorem dL_accuses_124 : decode cL_accuses 124 = .ok (.iconst 1, 1) := by decide +kernel
theorem dL_accuses_125 : decode cL_accuses 125 = .ok (.iaload, 1) := by decide +kernel
theorem dL_accuses_126 : decode cL_accuses 126 = .ok (.invokestatic 204, 3) := by decide +kernel
theorem dL_accuses_129 : decode cL_accuses 129 = .ok (.ldc 29, 2) := by decide +kernel
theorem dL_accuses_131 : decode cL_accuses 131 = .ok (.if_icmp .ne 7, 3) := by decide +kernel
theorem dL_accuses_134 : decode cL_accuses 134 = .ok (.iconst 1, 1) := by decide +kernel
theorem dL_accuses_135 : decode cL_accuses 135 = .ok (.goto 4, 3) := by decide +kernel
theorem dL_accuses_138 : decode cL_accuses 138 = .ok (.iconst 0, 1) := by decide +kernel
theorem dL_accuses_139 : decode cL_accuses 139 = .ok (.istore 10, 2) := by decide +kernel
theorem dL_accuses_141 : decode cL_accuses 141 = .ok (.aload_n 0, 1) := by decide +kernel
theorem dL_accuses_142 : decode cL_accuses 142 = .ok (.aload_n 1, 1) := by decide +kernel
theorem dL_accuses_143 : decode cL_accuses 143 = .ok (.aload_n 2, 1) := by decide +kernel
theorem dL_accuses_144 : decode cL_accuses 144 = .ok (.aload_n 3, 1) := by decide +kernel
theorem dL_accuses_145 : decode cL_accuses 145 = .ok (.iload 6, 2) := by decide +kernel
theorem dL_accuses_147 : decode cL_accuses 147 = .ok (.iconst 0, 1) := by decide +kernel
theorem dL_accuses_148 : decode cL_accuses 148 = .ok (.invokestatic 180, 3) := by decide +kernel
theorem dL_accuses_151 : decode cL_accuses 151 = .ok (.istore 11, 2) := by decide +kernel
theorem dL_accuses_153 : decode cL_accuses 153 = .ok (.aload_n 3, 1) := by decide +kernel
theorem dL_accuses_154 : decode cL_accuses 154 = .ok (.iload 6, 2) := by decide +kernel
theorem dL_accuses_156 : decode cL_accuses 156 = .ok (.iaload, 1) := by decide +kernel
theorem dL_accuses_157 : decode cL_accuses 157 = .ok (.ldc 179, 2) := by decide +kernel
theorem dL_accuses_159 : decode cL_accuses 159 = .ok (.if_icmp .le 65, 3) := by decide +kernel
theorem dL_accuses_162 : decode cL_accuses 162 = .ok (.iload 5, 2) := by decide +kernel
theorem dL_accuses_164 : decode cL_accuses 164 = .ok (.bipush 10, 2) := by decide +kernel
theorem dL_accuses_166 : decode cL_accuses 166 = .ok (.ishr, 1) := by decide +kernel
theorem dL_accuses_167 : decode cL_accuses 167 = .ok (.iconst 2, 1) := by decide +kernel
theorem dL_accuses_168 : decode cL_accuses 168 = .ok (.invokestatic 118, 3) := by decide +kernel
theorem dL_accuses_171 : decode cL_accuses 171 = .ok (.ifCond .ne 53, 3) := by decide +kernel
theorem dL_accuses_174 : decode cL_accuses 174 = .ok (.aload_n 3, 1) := by decide +kernel
theorem dL_accuses_175 : decode cL_accuses 175 = .ok (.iload 6, 2) := by decide +kernel
theorem dL_accuses_177 : decode cL_accuses 177 = .ok (.dup2, 1) := by decide +kernel
theorem dL_accuses_178 : decode cL_accuses 178 = .ok (.iaload, 1) := by decide +kernel
theorem dL_accuses_179 : decode cL_accuses 179 = .ok (.ldc 208, 2) := by decide +kernel
theorem dL_accuses_181 : decode cL_accuses 181 = .ok (.isub, 1) := by decide +kernel
theorem dL_accuses_182 : decode cL_accuses 182 = .ok (.iastore, 1) := by decide +kernel
theorem dL_accuses_183 : decode cL_accuses 183 = .ok (.iload 10, 2) := by decide +kernel
theorem dL_accuses_185 : decode cL_accuses 185 = .ok (.ifCond .eq 37, 3) := by decide +kernel
theorem dL_accuses_188 : decode cL_accuses 188 = .ok (.aload_n 0, 1) := by decide +kernel
theorem dL_accuses_189 : decode cL_accuses 189 = .ok (.iload 6, 2) := by decide +kernel
theorem dL_accuses_191 : decode cL_accuses 191 = .ok (.invokestatic 209, 3) := by decide +kernel
theorem dL_accuses_194 : decode cL_accuses 194 = .ok (.aload_n 0, 1) := by decide +kernel
theorem dL_accuses_195 : decode cL_accuses 195 = .ok (.aload_n 1, 1) := by decide +kernel
theorem dL_accuses_196 : decode cL_accuses 196 = .ok (.aload_n 2, 1) := by decide +kernel
theorem dL_accuses_197 : decode cL_accuses 197 = .ok (.aload_n 3, 1) := by decide +kernel
theorem dL_accuses_198 : decode cL_accuses 198 = .ok (.iload 6, 2) := by decide +kernel
theorem dL_accuses_200 : decode cL_accuses 200 = .ok (.iconst 0, 1) := by decide +kernel
theorem dL_accuses_201 : decode cL_accuses 201 = .ok (.invokestatic 180, 3) := by decide +kernel
theorem dL_accuses_204 : decode cL_accuses 204 = .ok (.if_icmp .ne 18, 3) := by decide +kernel
theorem dL_accuses_207 : decode cL_accuses 207 = .ok (.aload_n 0, 1) := by decide +kernel
theorem dL_accuses_208 : decode cL_accuses 208 = .ok (.iload 6, 2) := by decide +kernel
theorem dL_accuses_210 : decode cL_accuses 210 = .ok (.invokestatic 209, 3) := by decide +kernel
theorem dL_accuses_213 : decode cL_accuses 213 = .ok (.ldc 36, 2) := by decide +kernel
theorem dL_accuses_215 : decode cL_accuses 215 = .ok (.if_icmp .ne 7, 3) := by decide +kernel
theorem dL_accuses_218 : decode cL_accuses 218 = .ok (.iconst 1, 1) := by decide +kernel
theorem dL_accuses_219 : decode cL_accuses 219 = .ok (.goto 4, 3) := by decide +kernel
theorem dL_accuses_222 : decode cL_accuses 222 = .ok (.iconst 0, 1) := by decide +kernel
theorem dL_accuses_223 : decode cL_accuses 223 = .ok (.ireturn, 1) := by decide +kernel
theorem dL_accuses_224 : decode cL_accuses 224 = .ok (.aload_n 0, 1) := by decide +kernel
theorem dL_accuses_225 : decode cL_accuses 225 = .ok (.iload 6, 2) := by decide +kernel
theorem dL_accuses_227 : decode cL_accuses 227 = .ok (.invokestatic 211, 3) := by decide +kernel
theorem dL_accuses_230 : decode cL_accuses 230 = .ok (.istore 12, 2) := by decide +kernel
theorem dL_accuses_232 : decode cL_accuses 232 = .ok (.iload 7, 2) := by decide +kernel
theorem dL_accuses_234 : decode cL_accuses 234 = .ok (.iload 6, 2) := by decide +kernel
theorem dL_accuses_236 : decode cL_accuses 236 = .ok (.if_icmp .ge 64, 3) := by decide +kernel
theorem dL_accuses_239 : decode cL_accuses 239 = .ok (.aload_n 3, 1) := by decide +kernel
theorem dL_accuses_240 : decode cL_accuses 240 = .ok (.iload 6, 2) := by decide +kernel
theorem dL_accuses_242 : decode cL_accuses 242 = .ok (.iaload, 1) := by decide +kernel
theorem dL_accuses_243 : decode cL_accuses 243 = .ok (.bipush 8, 2) := by decide +kernel
theorem dL_accuses_245 : decode cL_accuses 245 = .ok (.irem, 1) := by decide +kernel
theorem dL_accuses_246 : decode cL_accuses 246 = .ok (.aload_n 3, 1) := by decide +kernel
theorem dL_accuses_247 : decode cL_accuses 247 = .ok (.iload 7, 2) := by decide +kernel
theorem dL_accuses_249 : decode cL_accuses 249 = .ok (.iaload, 1) := by decide +kernel
theorem dL_accuses_250 : decode cL_accuses 250 = .ok (.bipush 8, 2) := by decide +kernel
theorem dL_accuses_252 : decode cL_accuses 252 = .ok (.irem, 1) := by decide +kernel
theorem dL_accuses_253 : decode cL_accuses 253 = .ok (.if_icmp .eq 47, 3) := by decide +kernel
theorem dL_accuses_256 : decode cL_accuses 256 = .ok (.aload_n 3, 1) := by decide +kernel
theorem dL_accuses_257 : decode cL_accuses 257 = .ok (.iload 6, 2) := by decide +kernel
theorem dL_accuses_259 : decode cL_accuses 259 = .ok (.iaload, 1) := by decide +kernel
theorem dL_accuses_260 : decode cL_accuses 260 = .ok (.bipush 8, 2) := by decide +kernel
theorem dL_accuses_262 : decode cL_accuses 262 = .ok (.idiv, 1) := by decide +kernel
theorem dL_accuses_263 : decode cL_accuses 263 = .ok (.iconst 4, 1) := by decide +kernel
theorem dL_accuses_264 : decode cL_accuses 264 = .ok (.irem, 1) := by decide +kernel
theorem dL_accuses_265 : decode cL_accuses 265 = .ok (.aload_n 3, 1) := by decide +kernel
theorem dL_accuses_266 : decode cL_accuses 266 = .ok (.iload 7, 2) := by decide +kernel
theorem dL_accuses_268 : decode cL_accuses 268 = .ok (.iaload, 1) := by decide +kernel
theorem dL_accuses_269 : decode cL_accuses 269 = .ok (.bipush 8, 2) := by decide +kernel
theorem dL_accuses_271 : decode cL_accuses 271 = .ok (.idiv, 1) := by decide +kernel
theorem dL_accuses_272 : decode cL_accuses 272 = .ok (.iconst 4, 1) := by decide +kernel
theorem dL_accuses_273 : decode cL_accuses 273 = .ok (.irem, 1) := by decide +kernel
theorem dL_accuses_274 : decode cL_accuses 274 = .ok (.if_icmp .ne 26, 3) := by decide +kernel
theorem dL_accuses_277 : decode cL_accuses 277 = .ok (.iload 8, 2) := by decide +kernel
theorem dL_accuses_279 : decode cL_accuses 279 = .ok (.iconst 2, 1) := by decide +kernel
theorem dL_accuses_280 : decode cL_accuses 280 = .ok (.if_icmp .le 20, 3) := by decide +kernel
theorem dL_accuses_283 : decode cL_accuses 283 = .ok (.aload_n 0, 1) := by decide +kernel
theorem dL_accuses_284 : decode cL_accuses 284 = .ok (.iload 6, 2) := by decide +kernel
theorem dL_accuses_286 : decode cL_accuses 286 = .ok (.iload 7, 2) := by decide +kernel
theorem dL_accuses_288 : decode cL_accuses 288 = .ok (.invokestatic 206, 3) := by decide +kernel
theorem dL_accuses_291 : decode cL_accuses 291 = .ok (.bipush 79, 2) := by decide +kernel
theorem dL_accuses_293 : decode cL_accuses 293 = .ok (.if_icmp .le 7, 3) := by decide +kernel
theorem dL_accuses_296 : decode cL_accuses 296 = .ok (.iconst 1, 1) := by decide +kernel
theorem dL_accuses_297 : decode cL_accuses 297 = .ok (.goto 4, 3) := by decide +kernel
theorem dL_accuses_300 : decode cL_accuses 300 = .ok (.iconst 0, 1) := by decide +kernel
theorem dL_accuses_301 : decode cL_accuses 301 = .ok (.istore 13, 2) := by decide +kernel
theorem dL_accuses_303 : decode cL_accuses 303 = .ok (.iload 13, 2) := by decide +kernel
theorem dL_accuses_305 : decode cL_accuses 305 = .ok (.ifCond .eq 16, 3) := by decide +kernel
theorem dL_accuses_308 : decode cL_accuses 308 = .ok (.aload_n 3, 1) := by decide +kernel
theorem dL_accuses_309 : decode cL_accuses 309 = .ok (.iload 6, 2) := by decide +kernel
theorem dL_accuses_311 : decode cL_accuses 311 = .ok (.iaload, 1) := by decide +kernel
theorem dL_accuses_312 : decode cL_accuses 312 = .ok (.ldc 208, 2) := by decide +kernel
theorem dL_accuses_314 : decode cL_accuses 314 = .ok (.if_icmp .ge 7, 3) := by decide +kernel
theorem dL_accuses_317 : decode cL_accuses 317 = .ok (.iconst 1, 1) := by decide +kernel
theorem dL_accuses_318 : decode cL_accuses 318 = .ok (.goto 4, 3) := by decide +kernel
theorem dL_accuses_321 : decode cL_accuses 321 = .ok (.iconst 0, 1) := by decide +kernel
theorem dL_accuses_322 : decode cL_accuses 322 = .ok (.istore 14, 2) := by decide +kernel
theorem dL_accuses_324 : decode cL_accuses 324 = .ok (.aload_n 3, 1) := by decide +kernel
theorem dL_accuses_325 : decode cL_accuses 325 = .ok (.iload 6, 2) := by decide +kernel
theorem dL_accuses_327 : decode cL_accuses 327 = .ok (.dup2, 1) := by decide +kernel
theorem dL_accuses_328 : decode cL_accuses 328 = .ok (.iaload, 1) := by decide +kernel
theorem dL_accuses_329 : decode cL_accuses 329 = .ok (.iload 14, 2) := by decide +kernel
theorem dL_accuses_331 : decode cL_accuses 331 = .ok (.ifCond .eq 8, 3) := by decide +kernel
theorem dL_accuses_334 : decode cL_accuses 334 = .ok (.ldc 208, 2) := by decide +kernel
theorem dL_accuses_336 : decode cL_accuses 336 = .ok (.goto 4, 3) := by decide +kernel
theorem dL_accuses_339 : decode cL_accuses 339 = .ok (.iconst 0, 1) := by decide +kernel
theorem dL_accuses_340 : decode cL_accuses 340 = .ok (.iadd, 1) := by decide +kernel
theorem dL_accuses_341 : decode cL_accuses 341 = .ok (.iastore, 1) := by decide +kernel
theorem dL_accuses_342 : decode cL_accuses 342 = .ok (.iload 10, 2) := by decide +kernel
theorem dL_accuses_344 : decode cL_accuses 344 = .ok (.ifCond .eq 88, 3) := by decide +kernel
theorem dL_accuses_347 : decode cL_accuses 347 = .ok (.iload 12, 2) := by decide +kernel
theorem dL_accuses_349 : decode cL_accuses 349 = .ok (.iload 6, 2) := by decide +kernel
theorem dL_accuses_351 : decode cL_accuses 351 = .ok (.if_icmp .ge 81, 3) := by decide +kernel
theorem dL_accuses_354 : decode cL_accuses 354 = .ok (.iload 12, 2) := by decide +kernel
theorem dL_accuses_356 : decode cL_accuses 356 = .ok (.iconst (-1), 1) := by decide +kernel
theorem dL_accuses_357 : decode cL_accuses 357 = .ok (.if_icmp .lt 75, 3) := by decide +kernel
theorem dL_accuses_360 : decode cL_accuses 360 = .ok (.iload 13, 2) := by decide +kernel
theorem dL_accuses_362 : decode cL_accuses 362 = .ok (.ifCond .eq 15, 3) := by decide +kernel
theorem dL_accuses_365 : decode cL_accuses 365 = .ok (.iload 12, 2) := by decide +kernel
theorem dL_accuses_367 : decode cL_accuses 367 = .ok (.ifCond .lt 65, 3) := by decide +kernel
theorem dL_accuses_370 : decode cL_accuses 370 = .ok (.iload 12, 2) := by decide +kernel
theorem dL_accuses_372 : decode cL_accuses 372 = .ok (.iload 7, 2) := by decide +kernel
theorem dL_accuses_374 : decode cL_accuses 374 = .ok (.if_icmp .gt 58, 3) := by decide +kernel
theorem dL_accuses_377 : decode cL_accuses 377 = .ok (.aload_n 0, 1) := by decide +kernel
theorem dL_accuses_378 : decode cL_accuses 378 = .ok (.iload 6, 2) := by decide +kernel
theorem dL_accuses_380 : decode cL_accuses 380 = .ok (.iload 7, 2) := by decide +kernel
theorem dL_accuses_382 : decode cL_accuses 382 = .ok (.invokestatic 213, 3) := by decide +kernel
theorem dL_accuses_385 : decode cL_accuses 385 = .ok (.iload 14, 2) := by decide +kernel
theorem dL_accuses_387 : decode cL_accuses 387 = .ok (.ifCond .eq 8, 3) := by decide +kernel
theorem dL_accuses_390 : decode cL_accuses 390 = .ok (.iload 11, 2) := by decide +kernel
theorem dL_accuses_392 : decode cL_accuses 392 = .ok (.goto 5, 3) := by decide +kernel
theorem dL_accuses_395 : decode cL_accuses 395 = .ok (.ldc 36, 2) := by decide +kernel
theorem dL_accuses_397 : decode cL_accuses 397 = .ok (.if_icmp .ne 35, 3) := by decide +kernel
theorem dL_accuses_400 : decode cL_accuses 400 = .ok (.iload 14, 2) := by decide +kernel
theorem dL_accuses_402 : decode cL_accuses 402 = .ok (.ifCond .eq 12, 3) := by decide +kernel
theorem dL_accuses_405 : decode cL_accuses 405 = .ok (.aload_n 0, 1) := by decide +kernel
theorem dL_accuses_406 : decode cL_accuses 406 = .ok (.iload 6, 2) := by decide +kernel
theorem dL_accuses_408 : decode cL_accuses 408 = .ok (.invokestatic 184, 3) := by decide +kernel
theorem dL_accuses_411 : decode cL_accuses 411 = .ok (.ifCond .ne 21, 3) := by decide +kernel
theorem dL_accuses_414 : decode cL_accuses 414 = .ok (.aload_n 0, 1) := by decide +kernel
theorem dL_accuses_415 : decode cL_accuses 415 = .ok (.aload 4, 2) := by decide +kernel
theorem dL_accuses_417 : decode cL_accuses 417 = .ok (.iconst 1, 1) := by decide +kernel
theorem dL_accuses_418 : decode cL_accuses 418 = .ok (.iaload, 1) := by decide +kernel
theorem dL_accuses_419 : decode cL_accuses 419 = .ok (.iconst 0, 1) := by decide +kernel
theorem dL_accuses_420 : decode cL_accuses 420 = .ok (.invokestatic 213, 3) := by decide +kernel
theorem dL_accuses_423 : decode cL_accuses 423 = .ok (.ldc 29, 2) := by decide +kernel
theorem dL_accuses_425 : decode cL_accuses 425 = .ok (.if_icmp .ne 7, 3) := by decide +kernel
theorem dL_accuses_428 : decode cL_accuses 428 = .ok (.iconst 1, 1) := by decide +kernel
theorem dL_accuses_429 : decode cL_accuses 429 = .ok (.goto 4, 3) := by decide +kernel
theorem dL_accuses_432 : decode cL_accuses 432 = .ok (.iconst 0, 1) := by decide +kernel
theorem dL_accuses_433 : decode cL_accuses 433 = .ok (.ireturn, 1) := by decide +kernel
theorem dL_schools_0 : decode cL_schools 0 = .ok (.iload 7, 2) := by decide +kernel
theorem dL_schools_2 : decode cL_schools 2 = .ok (.bipush 12, 2) := by decide +kernel
theorem dL_schools_4 : decode cL_schools 4 = .ok (.invokestatic 118, 3) := by decide +kernel
theorem dL_schools_7 : decode cL_schools 7 = .ok (.istore 9, 2) := by decide +kernel
theorem dL_schools_9 : decode cL_schools 9 = .ok (.aload 6, 2) := by decide +kernel
theorem dL_schools_11 : decode cL_schools 11 = .ok (.iconst 0, 1) := by decide +kernel
theorem dL_schools_12 : decode cL_schools 12 = .ok (.iaload, 1) := by decide +kernel
theorem dL_schools_13 : decode cL_schools 13 = .ok (.ifCond .eq 8, 3) := by decide +kernel
theorem dL_schools_16 : decode cL_schools 16 = .ok (.iload 9, 2) := by decide +kernel
theorem dL_schools_18 : decode cL_schools 18 = .ok (.ifCond .ne 141, 3) := by decide +kernel
theorem dL_schools_21 : decode cL_schools 21 = .ok (.iconst 1, 1) := by decide +kernel
theorem dL_schools_22 : decode cL_schools 22 = .ok (.iload 8, 2) := by decide +kernel
theorem dL_schools_24 : decode cL_schools 24 = .ok (.sipush 300, 3) := by decide +kernel
theorem dL_schools_27 : decode cL_schools 27 = .ok (.invokestatic 118, 3) := by decide +kernel
theorem dL_schools_30 : decode cL_schools 30 = .ok (.iadd, 1) := by decide +kernel
theorem dL_schools_31 : decode cL_schools 31 = .ok (.istore 10, 2) := by decide +kernel
theorem dL_schools_33 : decode cL_schools 33 = .ok (.aload 6, 2) := by decide +kernel
theorem dL_schools_35 : decode cL_schools 35 = .ok (.iconst 2, 1) := by decide +kernel
theorem dL_schools_36 : decode cL_schools 36 = .ok (.iaload, 1) := by decide +kernel
theorem dL_schools_37 : decode cL_schools 37 = .ok (.iload 8, 2) := by decide +kernel
theorem dL_schools_39 : decode cL_schools 39 = .ok (.bipush 9, 2) := by decide +kernel
theorem dL_schools_41 : decode cL_schools 41 = .ok (.ishr, 1) := by decide +kernel
theorem dL_schools_42 : decode cL_schools 42 = .ok (.bipush 9, 2) := by decide +kernel
theorem dL_schools_44 : decode cL_schools 44 = .ok (.invokestatic 118, 3) := by decide +kernel
theorem dL_schools_47 : decode cL_schools 47 = .ok (.iadd, 1) := by decide +kernel
theorem dL_schools_48 : decode cL_schools 48 = .ok (.istore 11, 2) := by decide +kernel
theorem dL_schools_50 : decode cL_schools 50 = .ok (.aload 6, 2) := by decide +kernel
theorem dL_schools_52 : decode cL_schools 52 = .ok (.iconst 0, 1) := by decide +kernel
theorem dL_schools_53 : decode cL_schools 53 = .ok (.iaload, 1) := by decide +kernel
theorem dL_schools_54 : decode cL_schools 54 = .ok (.iconst 4, 1) := by decide +kernel
theorem dL_schools_55 : decode cL_schools 55 = .ok (.if_icmp .ge 7, 3) := by decide +kernel
theorem dL_schools_58 : decode cL_schools 58 = .ok (.iconst 1, 1) := by decide +kernel
theorem dL_schools_59 : decode cL_schools 59 = .ok (.goto 4, 3) := by decide +kernel
theorem dL_schools_62 : decode cL_schools 62 = .ok (.iconst 0, 1) := by decide +kernel
theorem dL_schools_63 : decode cL_schools 63 = .ok (.istore 12, 2) := by decide +kernel
theorem dL_schools_65 : decode cL_schools 65 = .ok (.aload_n 0, 1) := by decide +kernel
theorem dL_schools_66 : decode cL_schools 66 = .ok (.iload 10, 2) := by decide +kernel
theorem dL_schools_68 : decode cL_schools 68 = .ok (.iload 11, 2) := by decide +kernel
theorem dL_schools_70 : decode cL_schools 70 = .ok (.invokestatic 215, 3) := by decide +kernel
theorem dL_schools_73 : decode cL_schools 73 = .ok (.istore 13, 2) := by decide +kernel
theorem dL_schools_75 : decode cL_schools 75 = .ok (.iload 12, 2) := by decide +kernel
theorem dL_schools_77 : decode cL_schools 77 = .ok (.ifCond .eq 27, 3) := by decide +kernel
theorem dL_schools_80 : decode cL_schools 80 = .ok (.aload 4, 2) := by decide +kernel
theorem dL_schools_82 : decode cL_schools 82 = .ok (.aload 6, 2) := by decide +kernel
theorem dL_schools_84 : decode cL_schools 84 = .ok (.iconst 0, 1) := by decide +kernel
theorem dL_schools_85 : decode cL_schools 85 = .ok (.iaload, 1) := by decide +kernel
theorem dL_schools_86 : decode cL_schools 86 = .ok (.iload 10, 2) := by decide +kernel
theorem dL_schools_88 : decode cL_schools 88 = .ok (.sipush 4096, 3) := by decide +kernel
theorem dL_schools_91 : decode cL_schools 91 = .ok (.iload 11, 2) := by decide +kernel
theorem dL_schools_93 : decode cL_schools 93 = .ok (.imul, 1) := by decide +kernel
theorem dL_schools_94 : decode cL_schools 94 = .ok (.iadd, 1) := by decide +kernel
theorem dL_schools_95 : decode cL_schools 95 = .ok (.iastore, 1) := by decide +kernel
theorem dL_schools_96 : decode cL_schools 96 = .ok (.aload 6, 2) := by decide +kernel
theorem dL_schools_98 : decode cL_schools 98 = .ok (.iconst 0, 1) := by decide +kernel
theorem dL_schools_99 : decode cL_schools 99 = .ok (.dup2, 1) := by decide +kernel
theorem dL_schools_100 : decode cL_schools 100 = .ok (.iaload, 1) := by decide +kernel
theorem dL_schools_101 : decode cL_schools 101 = .ok (.iconst 1, 1) := by decide +kernel
theorem dL_schools_102 : decode cL_schools 102 = .ok (.iadd, 1) := by decide +kernel
theorem dL_schools_103 : decode cL_schools 103 = .ok (.iastore, 1) := by decide +kernel
theorem dL_schools_104 : decode cL_schools 104 = .ok (.iload 13, 2) := by decide +kernel
theorem dL_schools_106 : decode cL_schools 106 = .ok (.iload 12, 2) := by decide +kernel
theorem dL_schools_108 : decode cL_schools 108 = .ok (.ifCond .eq 12, 3) := by decide +kernel
theorem dL_schools_111 : decode cL_schools 111 = .ok (.aload 6, 2) := by decide +kernel
theorem dL_schools_113 : decode cL_schools 113 = .ok (.iconst 0, 1) := by decide +kernel
theorem dL_schools_114 : decode cL_schools 114 = .ok (.iaload, 1) := by decide +kernel
theorem dL_schools_115 : decode cL_schools 115 = .ok (.iconst 1, 1) := by decide +kernel
theorem dL_schools_116 : decode cL_schools 116 = .ok (.isub, 1) := by decide +kernel
theorem dL_schools_117 : decode cL_schools 117 = .ok (.goto 5, 3) := by decide +kernel
theorem dL_schools_120 : decode cL_schools 120 = .ok (.ldc 36, 2) := by decide +kernel
theorem dL_schools_122 : decode cL_schools 122 = .ok (.if_icmp .ne 35, 3) := by decide +kernel
theorem dL_schools_125 : decode cL_schools 125 = .ok (.aload_n 0, 1) := by decide +kernel
theorem dL_schools_126 : decode cL_schools 126 = .ok (.iconst 0, 1) := by decide +kernel
theorem dL_schools_127 : decode cL_schools 127 = .ok (.iload 11, 2) := by decide +kernel
theorem dL_schools_129 : decode cL_schools 129 = .ok (.invokestatic 215, 3) := by decide +kernel
theorem dL_schools_132 : decode cL_schools 132 = .ok (.ldc 18, 2) := by decide +kernel
theorem dL_schools_134 : decode cL_schools 134 = .ok (.if_icmp .ne 23, 3) := by decide +kernel
theorem dL_schools_137 : decode cL_schools 137 = .ok (.aload_n 0, 1) := by decide +kernel
theorem dL_schools_138 : decode cL_schools 138 = .ok (.iconst 1, 1) := by decide +kernel
theorem dL_schools_139 : decode cL_schools 139 = .ok (.aload 6, 2) := by decide +kernel
theorem dL_schools_141 : decode cL_schools 141 = .ok (.iconst 2, 1) := by decide +kernel
theorem dL_schools_142 : decode cL_schools 142 = .ok (.iaload, 1) := by decide +kernel
theorem dL_schools_143 : decode cL_schools 143 = .ok (.iconst 1, 1) := by decide +kernel
theorem dL_schools_144 : decode cL_schools 144 = .ok (.isub, 1) := by decide +kernel
theorem dL_schools_145 : decode cL_schools 145 = .ok (.invokestatic 215, 3) := by decide +kernel
theorem dL_schools_148 : decode cL_schools 148 = .ok (.ldc 18, 2) := by decide +kernel
theorem dL_schools_150 : decode cL_schools 150 = .ok (.if_icmp .ne 7, 3) := by decide +kernel
theorem dL_schools_153 : decode cL_schools 153 = .ok (.iconst 1, 1) := by decide +kernel
theorem dL_schools_154 : decode cL_schools 154 = .ok (.goto 4, 3) := by decide +kernel
theorem dL_schools_157 : decode cL_schools 157 = .ok (.iconst 0, 1) := by decide +kernel
theorem dL_schools_158 : decode cL_schools 158 = .ok (.ireturn, 1) := by decide +kernel
theorem dL_schools_159 : decode cL_schools 159 = .ok (.iload 7, 2) := by decide +kernel
theorem dL_schools_161 : decode cL_schools 161 = .ok (.iconst 4, 1) := by decide +kernel
theorem dL_schools_162 : decode cL_schools 162 = .ok (.ishr, 1) := by decide +kernel
theorem dL_schools_163 : decode cL_schools 163 = .ok (.aload 6, 2) := by decide +kernel
theorem dL_schools_165 : decode cL_schools 165 = .ok (.iconst 0, 1) := by decide +kernel
theorem dL_schools_166 : decode cL_schools 166 = .ok (.iaload, 1) := by decide +kernel
theorem dL_schools_167 : decode cL_schools 167 = .ok (.invokestatic 118, 3) := by decide +kernel
theorem dL_schools_170 : decode cL_schools 170 = .ok (.istore 10, 2) := by decide +kernel
theorem dL_schools_172 : decode cL_schools 172 = .ok (.iload 9, 2) := by decide +kernel
theorem dL_schools_174 : decode cL_schools 174 = .ok (.iconst 4, 1) := by decide +kernel
theorem dL_schools_175 : decode cL_schools 175 = .ok (.if_icmp .ge 244, 3) := by decide +kernel
theorem dL_schools_178 : decode cL_schools 178 = .ok (.aload 4, 2) := by decide +kernel
theorem dL_schools_180 : decode cL_schools 180 = .ok (.iconst 4, 1) := by decide +kernel
theorem dL_schools_181 : decode cL_schools 181 = .ok (.iload 10, 2) := by decide +kernel
theorem dL_schools_183 : decode cL_schools 183 = .ok (.iadd, 1) := by decide +kernel
theorem dL_schools_184 : decode cL_schools 184 = .ok (.iaload, 1) := by decide +kernel
theorem dL_schools_185 : decode cL_schools 185 = .ok (.istore 11, 2) := by decide +kernel
theorem dL_schools_187 : decode cL_schools 187 = .ok (.iload 8, 2) := by decide +kernel
theorem dL_schools_189 : decode cL_schools 189 = .ok (.iconst 3, 1) := by decide +kernel
theorem dL_schools_190 : decode cL_schools 190 = .ok (.invokestatic 118, 3) := by decide +kernel
theorem dL_schools_193 : decode cL_schools 193 = .ok (.istore 12, 2) := by decide +kernel
theorem dL_schools_195 : decode cL_schools 195 = .ok (.iload 8, 2) := by decide +kernel
theorem dL_schools_197 : decode cL_schools 197 = .ok (.iconst 2, 1) := by decide +kernel
theorem dL_schools_198 : decode cL_schools 198 = .ok (.ishr, 1) := by decide +kernel
theorem dL_schools_199 : decode cL_schools 199 = .ok (.bipush 10, 2) := by decide +kernel
theorem dL_schools_201 : decode cL_schools 201 = .ok (.invokestatic 118, 3) := by decide +kernel
theorem dL_schools_204 : decode cL_schools 204 = .ok (.istore 13, 2) := by decide +kernel
theorem dL_schools_206 : decode cL_schools 206 = .ok (.iload 8, 2) := by decide +kernel
theorem dL_schools_208 : decode cL_schools 208 = .ok (.iconst 5, 1) := by decide +kernel
theorem dL_schools_209 : decode cL_schools 209 = .ok (.ishr, 1) := by decide +kernel
theorem dL_schools_210 : decode cL_schools 210 = .ok (.bipush 10, 2) := by decide +kernel
theorem dL_schools_212 : decode cL_schools 212 = .ok (.invokestatic 118, 3) := by decide +kernel
theorem dL_schools_215 : decode cL_schools 215 = .ok (.istore 14, 2) := by decide +kernel
theorem dL_schools_217 : decode cL_schools 217 = .ok (.bipush 8, 2) := by decide +kernel
theorem dL_schools_219 : decode cL_schools 219 = .ok (.iload 10, 2) := by decide +kernel
theorem dL_schools_221 : decode cL_schools 221 = .ok (.imul, 1) := by decide +kernel
theorem dL_schools_222 : decode cL_schools 222 = .ok (.iload 11, 2) := by decide +kernel
theorem dL_schools_224 : decode cL_schools 224 = .ok (.iadd, 1) := by decide +kernel
theorem dL_schools_225 : decode cL_schools 225 = .ok (.istore 15, 2) := by decide +kernel
theorem dL_schools_227 : decode cL_schools 227 = .ok (.iload 8, 2) := by decide +kernel
theorem dL_schools_229 : decode cL_schools 229 = .ok (.bipush 8, 2) := by decide +kernel
theorem dL_schools_231 : decode cL_schools 231 = .ok (.ishr, 1) := by decide +kernel
theorem dL_schools_232 : decode cL_schools 232 = .ok (.bipush 12, 2) := by decide +kernel
theorem dL_schools_234 : decode cL_schools 234 = .ok (.invokestatic 118, 3) := by decide +kernel
theorem dL_schools_237 : decode cL_schools 237 = .ok (.iconst 2, 1) := by decide +kernel
theorem dL_schools_238 : decode cL_schools 238 = .ok (.isub, 1) := by decide +kernel
theorem dL_schools_239 : decode cL_schools 239 = .ok (.istore 16, 2) := by decide +kernel
theorem dL_schools_241 : decode cL_schools 241 = .ok (.aload_n 0, 1) := by decide +kernel
theorem dL_schools_242 : decode cL_schools 242 = .ok (.iload 10, 2) := by decide +kernel
theorem dL_schools_244 : decode cL_schools 244 = .ok (.iconst 1, 1) := by decide +kernel
theorem dL_schools_245 : decode cL_schools 245 = .ok (.iload 8, 2) := by decide +kernel
theorem dL_schools_247 : decode cL_schools 247 = .ok (.bipush 11, 2) := by decide +kernel
theorem dL_schools_249 : decode cL_schools 249 = .ok (.ishr, 1) := by decide +kernel
theorem dL_schools_250 : decode cL_schools 250 = .ok (.bipush 10, 2) := by decide +kernel
theorem dL_schools_252 : decode cL_schools 252 = .ok (.invokestatic 118, 3) := by decide +kernel
theorem dL_schools_255 : decode cL_schools 255 = .ok (.iadd, 1) := by decide +kernel
theorem dL_schools_256 : decode cL_schools 256 = .ok (.iload 16, 2) := by decide +kernel
theorem dL_schools_258 : decode cL_schools 258 = .ok (.iload 13, 2) := by decide +kernel
theorem dL_schools_260 : decode cL_schools 260 = .ok (.iload 12, 2) := by decide +kernel
theorem dL_schools_262 : decode cL_schools 262 = .ok (.iload 13, 2) := by decide +kernel
theorem dL_schools_264 : decode cL_schools 264 = .ok (.iload 14, 2) := by decide +kernel
theorem dL_schools_266 : decode cL_schools 266 = .ok (.invokestatic 217, 3) := by decide +kernel
theorem dL_schools_269 : decode cL_schools 269 = .ok (.istore 17, 2) := by decide +kernel
theorem dL_schools_271 : decode cL_schools 271 = .ok (.iload 11, 2) := by decide +kernel
theorem dL_schools_273 : decode cL_schools 273 = .ok (.bipush 8, 2) := by decide +kernel
theorem dL_schools_275 : decode cL_schools 275 = .ok (.if_icmp .ne 16, 3) := by decide +kernel
theorem dL_schools_278 : decode cL_schools 278 = .ok (.iload 17, 2) := by decide +kernel
theorem dL_schools_280 : decode cL_schools 280 = .ok (.ldc 36, 2) := by decide +kernel
theorem dL_schools_282 : decode cL_schools 282 = .ok (.if_icmp .ne 7, 3) := by decide +kernel
theorem dL_schools_285 : decode cL_schools 285 = .ok (.iconst 1, 1) := by decide +kernel
theorem dL_schools_286 : decode cL_schools 286 = .ok (.goto 4, 3) := by decide +kernel
theorem dL_schools_289 : decode cL_schools 289 = .ok (.iconst 0, 1) := by decide +kernel
theorem dL_schools_290 : decode cL_schools 290 = .ok (.ireturn, 1) := by decide +kernel
theorem dL_schools_291 : decode cL_schools 291 = .ok (.aload_n 1, 1) := by decide +kernel
theorem dL_schools_292 : decode cL_schools 292 = .ok (.iload 15, 2) := by decide +kernel
theorem dL_schools_294 : decode cL_schools 294 = .ok (.iconst 1, 1) := by decide +kernel
theorem dL_schools_295 : decode cL_schools 295 = .ok (.iload 8, 2) := by decide +kernel
theorem dL_schools_297 : decode cL_schools 297 = .ok (.bipush 11, 2) := by decide +kernel
theorem dL_schools_299 : decode cL_schools 299 = .ok (.ishr, 1) := by decide +kernel
theorem dL_schools_300 : decode cL_schools 300 = .ok (.bipush 10, 2) := by decide +kernel
theorem dL_schools_302 : decode cL_schools 302 = .ok (.invokestatic 118, 3) := by decide +kernel
theorem dL_schools_305 : decode cL_schools 305 = .ok (.iadd, 1) := by decide +kernel
theorem dL_schools_306 : decode cL_schools 306 = .ok (.iastore, 1) := by decide +kernel
theorem dL_schools_307 : decode cL_schools 307 = .ok (.aload_n 2, 1) := by decide +kernel
theorem dL_schools_308 : decode cL_schools 308 = .ok (.iconst 2, 1) := by decide +kernel
theorem dL_schools_309 : decode cL_schools 309 = .ok (.iload 15, 2) := by decide +kernel
theorem dL_schools_311 : decode cL_schools 311 = .ok (.imul, 1) := by decide +kernel
theorem dL_schools_312 : decode cL_schools 312 = .ok (.iload 16, 2) := by decide +kernel
theorem dL_schools_314 : decode cL_schools 314 = .ok (.iastore, 1) := by decide +kernel
theorem dL_schools_315 : decode cL_schools 315 = .ok (.aload_n 2, 1) := by decide +kernel
theorem dL_schools_316 : decode cL_schools 316 = .ok (.iconst 2, 1) := by decide +kernel
theorem dL_schools_317 : decode cL_schools 317 = .ok (.iload 15, 2) := by decide +kernel
theorem dL_schools_319 : decode cL_schools 319 = .ok (.imul, 1) := by decide +kernel
theorem dL_schools_320 : decode cL_schools 320 = .ok (.iconst 1, 1) := by decide +kernel
theorem dL_schools_321 : decode cL_schools 321 = .ok (.iadd, 1) := by decide +kernel
theorem dL_schools_322 : decode cL_schools 322 = .ok (.iload 13, 2) := by decide +kernel
theorem dL_schools_324 : decode cL_schools 324 = .ok (.iastore, 1) := by decide +kernel
theorem dL_schools_325 : decode cL_schools 325 = .ok (.aload_n 3, 1) := by decide +kernel
theorem dL_schools_326 : decode cL_schools 326 = .ok (.iload 15, 2) := by decide +kernel
theorem dL_schools_328 : decode cL_schools 328 = .ok (.iload 12, 2) := by decide +kernel
theorem dL_schools_330 : decode cL_schools 330 = .ok (.iconst 4, 1) := by decide +kernel
theorem dL_schools_331 : decode cL_schools 331 = .ok (.iload 13, 2) := by decide +kernel
theorem dL_schools_333 : decode cL_schools 333 = .ok (.imul, 1) := by decide +kernel
theorem dL_schools_334 : decode cL_schools 334 = .ok (.iadd, 1) := by decide +kernel
theorem dL_schools_335 : decode cL_schools 335 = .ok (.bipush 64, 2) := by decide +kernel
theorem dL_schools_337 : decode cL_schools 337 = .ok (.iload 14, 2) := by decide +kernel
theorem dL_schools_339 : decode cL_schools 339 = .ok (.imul, 1) := by decide +kernel
theorem dL_schools_340 : decode cL_schools 340 = .ok (.iadd, 1) := by decide +kernel
theorem dL_schools_341 : decode cL_schools 341 = .ok (.iastore, 1) := by decide +kernel
theorem dL_schools_342 : decode cL_schools 342 = .ok (.aload 4, 2) := by decide +kernel
theorem dL_schools_344 : decode cL_schools 344 = .ok (.iconst 4, 1) := by decide +kernel
theorem dL_schools_345 : decode cL_schools 345 = .ok (.iload 10, 2) := by decide +kernel
theorem dL_schools_347 : decode cL_schools 347 = .ok (.iadd, 1) := by decide +kernel
theorem dL_schools_348 : decode cL_schools 348 = .ok (.dup2, 1) := by decide +kernel
theorem dL_schools_349 : decode cL_schools 349 = .ok (.iaload, 1) := by decide +kernel
theorem dL_schools_350 : decode cL_schools 350 = .ok (.iconst 1, 1) := by decide +kernel
theorem dL_schools_351 : decode cL_schools 351 = .ok (.iadd, 1) := by decide +kernel
theorem dL_schools_352 : decode cL_schools 352 = .ok (.iastore, 1) := by decide +kernel
theorem dL_schools_353 : decode cL_schools 353 = .ok (.iload 17, 2) := by decide +kernel
theorem dL_schools_355 : decode cL_schools 355 = .ok (.iload 11, 2) := by decide +kernel
theorem dL_schools_357 : decode cL_schools 357 = .ok (.if_icmp .ne 60, 3) := by decide +kernel
theorem dL_schools_360 : decode cL_schools 360 = .ok (.aload_n 0, 1) := by decide +kernel
theorem dL_schools_361 : decode cL_schools 361 = .ok (.iload 10, 2) := by decide +kernel
theorem dL_schools_363 : decode cL_schools 363 = .ok (.iconst 0, 1) := by decide +kernel
theorem dL_schools_364 : decode cL_schools 364 = .ok (.iconst 0, 1) := by decide +kernel
theorem dL_schools_365 : decode cL_schools 365 = .ok (.iconst 0, 1) := by decide +kernel
theorem dL_schools_366 : decode cL_schools 366 = .ok (.iconst 0, 1) := by decide +kernel
theorem dL_schools_367 : decode cL_schools 367 = .ok (.iconst 0, 1) := by decide +kernel
theorem dL_schools_368 : decode cL_schools 368 = .ok (.iconst 0, 1) := by decide +kernel
theorem dL_schools_369 : decode cL_schools 369 = .ok (.invokestatic 217, 3) := by decide +kernel
theorem dL_schools_372 : decode cL_schools 372 = .ok (.ldc 18, 2) := by decide +kernel
theorem dL_schools_374 : decode cL_schools 374 = .ok (.if_icmp .ne 43, 3) := by decide +kernel
theorem dL_schools_377 : decode cL_schools 377 = .ok (.aload_n 0, 1) := by decide +kernel
theorem dL_schools_378 : decode cL_schools 378 = .ok (.iload 10, 2) := by decide +kernel
theorem dL_schools_380 : decode cL_schools 380 = .ok (.iconst 1, 1) := by decide +kernel
theorem dL_schools_381 : decode cL_schools 381 = .ok (.iconst 0, 1) := by decide +kernel
theorem dL_schools_382 : decode cL_schools 382 = .ok (.iconst 0, 1) := by decide +kernel
theorem dL_schools_383 : decode cL_schools 383 = .ok (.iconst 3, 1) := by decide +kernel
theorem dL_schools_384 : decode cL_schools 384 = .ok (.iconst 0, 1) := by decide +kernel
theorem dL_schools_385 : decode cL_schools 385 = .ok (.iconst 0, 1) := by decide +kernel
theorem dL_schools_386 : decode cL_schools 386 = .ok (.invokestatic 217, 3) := by decide +kernel
theorem dL_schools_389 : decode cL_schools 389 = .ok (.ldc 18, 2) := by decide +kernel
theorem dL_schools_391 : decode cL_schools 391 = .ok (.if_icmp .ne 26, 3) := by decide +kernel
theorem dL_schools_394 : decode cL_schools 394 = .ok (.aload_n 0, 1) := by decide +kernel
theorem dL_schools_395 : decode cL_schools 395 = .ok (.aload 6, 2) := by decide +kernel
theorem dL_schools_397 : decode cL_schools 397 = .ok (.iconst 0, 1) := by decide +kernel
theorem dL_schools_398 : decode cL_schools 398 = .ok (.iaload, 1) := by decide +kernel
theorem dL_schools_399 : decode cL_schools 399 = .ok (.iconst 0, 1) := by decide +kernel
theorem dL_schools_400 : decode cL_schools 400 = .ok (.iconst 0, 1) := by decide +kernel
theorem dL_schools_401 : decode cL_schools 401 = .ok (.iconst 0, 1) := by decide +kernel
theorem dL_schools_402 : decode cL_schools 402 = .ok (.iconst 0, 1) := by decide +kernel
theorem dL_schools_403 : decode cL_schools 403 = .ok (.iconst 0, 1) := by decide +kernel
theorem dL_schools_404 : decode cL_schools 404 = .ok (.iconst 0, 1) := by decide +kernel
theorem dL_schools_405 : decode cL_schools 405 = .ok (.invokestatic 217, 3) := by decide +kernel
theorem dL_schools_408 : decode cL_schools 408 = .ok (.ldc 29, 2) := by decide +kernel
theorem dL_schools_410 : decode cL_schools 410 = .ok (.if_icmp .ne 7, 3) := by decide +kernel
theorem dL_schools_413 : decode cL_schools 413 = .ok (.iconst 1, 1) := by decide +kernel
theorem dL_schools_414 : decode cL_schools 414 = .ok (.goto 4, 3) := by decide +kernel
theorem dL_schools_417 : decode cL_schools 417 = .ok (.iconst 0, 1) := by decide +kernel
theorem dL_schools_418 : decode cL_schools 418 = .ok (.ireturn, 1) := by decide +kernel
theorem dL_schools_419 : decode cL_schools 419 = .ok (.iload 9, 2) := by decide +kernel
theorem dL_schools_421 : decode cL_schools 421 = .ok (.iconst 4, 1) := by decide +kernel
theorem dL_schools_422 : decode cL_schools 422 = .ok (.if_icmp .ne 225, 3) := by decide +kernel
theorem dL_schools_425 : decode cL_schools 425 = .ok (.aload 4, 2) := by decide +kernel
theorem dL_schools_427 : decode cL_schools 427 = .ok (.iconst 4, 1) := by decide +kernel
theorem dL_schools_428 : decode cL_schools 428 = .ok (.iload 10, 2) := by decide +kernel
theorem dL_schools_430 : decode cL_schools 430 = .ok (.iadd, 1) := by decide +kernel
theorem dL_schools_431 : decode cL_schools 431 = .ok (.iaload, 1) := by decide +kernel
theorem dL_schools_432 : decode cL_schools 432 = .ok (.ifCond .ne 7, 3) := by decide +kernel
theorem dL_schools_435 : decode cL_schools 435 = .ok (.iconst 0, 1) := by decide +kernel
theorem dL_schools_436 : decode cL_schools 436 = .ok (.goto 15, 3) := by decide +kernel
theorem dL_schools_439 : decode cL_schools 439 = .ok (.iload 8, 2) := by decide +kernel
theorem dL_schools_441 : decode cL_schools 441 = .ok (.aload 4, 2) := by decide +kernel
theorem dL_schools_443 : decode cL_schools 443 = .ok (.iconst 4, 1) := by decide +kernel
theorem dL_schools_444 : decode cL_schools 444 = .ok (.iload 10, 2) := by decide +kernel
theorem dL_schools_446 : decode cL_schools 446 = .ok (.iadd, 1) := by decide +kernel
theorem dL_schools_447 : decode cL_schools 447 = .ok (.iaload, 1) := by decide +kernel
theorem dL_schools_448 : decode cL_schools 448 = .ok (.invokestatic 118, 3) := by decide +kernel
theorem dL_schools_451 : decode cL_schools 451 = .ok (.istore 11, 2) := by decide +kernel
theorem dL_schools_453 : decode cL_schools 453 = .ok (.bipush 8, 2) := by decide +kernel
theorem dL_schools_455 : decode cL_schools 455 = .ok (.iload 10, 2) := by decide +kernel
theorem dL_schools_457 : decode cL_schools 457 = .ok (.imul, 1) := by decide +kernel
theorem dL_schools_458 : decode cL_schools 458 = .ok (.iload 11, 2) := by decide +kernel
theorem dL_schools_460 : decode cL_schools 460 = .ok (.iadd, 1) := by decide +kernel
theorem dL_schools_461 : decode cL_schools 461 = .ok (.istore 12, 2) := by decide +kernel
theorem dL_schools_463 : decode cL_schools 463 = .ok (.iconst 0, 1) := by decide +kernel
theorem dL_schools_464 : decode cL_schools 464 = .ok (.istore 13, 2) := by decide +kernel
theorem dL_schools_466 : decode cL_schools 466 = .ok (.bipush 30, 2) := by decide +kernel
theorem dL_schools_468 : decode cL_schools 468 = .ok (.newarray .int, 2) := by decide +kernel
theorem dL_schools_470 : decode cL_schools 470 = .ok (.astore 14, 2) := by decide +kernel
theorem dL_schools_472 : decode cL_schools 472 = .ok (.iconst 0, 1) := by decide +kernel
theorem dL_schools_473 : decode cL_schools 473 = .ok (.istore 15, 2) := by decide +kernel
theorem dL_schools_475 : decode cL_schools 475 = .ok (.iload 15, 2) := by decide +kernel
theorem dL_schools_477 : decode cL_schools 477 = .ok (.aload 6, 2) := by decide +kernel
theorem dL_schools_479 : decode cL_schools 479 = .ok (.iconst 1, 1) := by decide +kernel
theorem dL_schools_480 : decode cL_schools 480 = .ok (.iaload, 1) := by decide +kernel
theorem dL_schools_481 : decode cL_schools 481 = .ok (.if_icmp .ge 26, 3) := by decide +kernel
theorem dL_schools_484 : decode cL_schools 484 = .ok (.aload 14, 2) := by decide +kernel
theorem dL_schools_486 : decode cL_schools 486 = .ok (.iload 15, 2) := by decide +kernel
theorem dL_schools_488 : decode cL_schools 488 = .ok (.aload_n 0, 1) := by decide +kernel
theorem dL_schools_489 : decode cL_schools 489 = .ok (.aload_n 1, 1) := by decide +kernel
theorem dL_schools_490 : decode cL_schools 490 = .ok (.aload 4, 2) := by decide +kernel
theorem dL_schools_492 : decode cL_schools 492 = .ok (.aload 5, 2) := by decide +kernel
theorem dL_schools_494 : decode cL_schools 494 = .ok (.iload 15, 2) := by decide +kernel
theorem dL_schools_496 : decode cL_schools 496 = .ok (.iconst 0, 1) := by decide +kernel
theorem dL_schools_497 : decode cL_schools 497 = .ok (.invokestatic 180, 3) := by decide +kernel
theorem dL_schools_500 : decode cL_schools 500 = .ok (.iastore, 1) := by decide +kernel
theorem dL_schools_501 : decode cL_schools 501 = .ok (.iinc 15 1, 3) := by decide +kernel
theorem dL_schools_504 : decode cL_schools 504 = .ok (.goto (-29), 3) := by decide +kernel
theorem dL_schools_507 : decode cL_schools 507 = .ok (.aload_n 0, 1) := by decide +kernel
theorem dL_schools_508 : decode cL_schools 508 = .ok (.iload 10, 2) := by decide +kernel
theorem dL_schools_510 : decode cL_schools 510 = .ok (.iload 11, 2) := by decide +kernel
theorem dL_schools_512 : decode cL_schools 512 = .ok (.invokestatic 220, 3) := by decide +kernel
theorem dL_schools_515 : decode cL_schools 515 = .ok (.istore 15, 2) := by decide +kernel
theorem dL_schools_517 : decode cL_schools 517 = .ok (.aload 4, 2) := by decide +kernel
theorem dL_schools_519 : decode cL_schools 519 = .ok (.iconst 4, 1) := by decide +kernel
theorem dL_schools_520 : decode cL_schools 520 = .ok (.iload 10, 2) := by decide +kernel
theorem dL_schools_522 : decode cL_schools 522 = .ok (.iadd, 1) := by decide +kernel
theorem dL_schools_523 : decode cL_schools 523 = .ok (.iaload, 1) := by decide +kernel
theorem dL_schools_524 : decode cL_schools 524 = .ok (.ifCond .eq 12, 3) := by decide +kernel
theorem dL_schools_527 : decode cL_schools 527 = .ok (.aload_n 1, 1) := by decide +kernel
theorem dL_schools_528 : decode cL_schools 528 = .ok (.iload 12, 2) := by decide +kernel
theorem dL_schools_530 : decode cL_schools 530 = .ok (.iaload, 1) := by decide +kernel
theorem dL_schools_531 : decode cL_schools 531 = .ok (.bipush 15, 2) := by decide +kernel
theorem dL_schools_533 : decode cL_schools 533 = .ok (.if_icmp .le 31, 3) := by decide +kernel
theorem dL_schools_536 : decode cL_schools 536 = .ok (.iload 15, 2) := by decide +kernel
theorem dL_schools_538 : decode cL_schools 538 = .ok (.aload 4, 2) := by decide +kernel
theorem dL_schools_540 : decode cL_schools 540 = .ok (.iconst 4, 1) := by decide +kernel
theorem dL_schools_541 : decode cL_schools 541 = .ok (.iload 10, 2) := by decide +kernel
theorem dL_schools_543 : decode cL_schools 543 = .ok (.iadd, 1) := by decide +kernel
theorem dL_schools_544 : decode cL_schools 544 = .ok (.iaload, 1) := by decide +kernel
theorem dL_schools_545 : decode cL_schools 545 = .ok (.ifCond .ne 8, 3) := by decide +kernel
theorem dL_schools_548 : decode cL_schools 548 = .ok (.ldc 29, 2) := by decide +kernel
theorem dL_schools_550 : decode cL_schools 550 = .ok (.goto 5, 3) := by decide +kernel
theorem dL_schools_553 : decode cL_schools 553 = .ok (.ldc 36, 2) := by decide +kernel
theorem dL_schools_555 : decode cL_schools 555 = .ok (.if_icmp .ne 7, 3) := by decide +kernel
theorem dL_schools_558 : decode cL_schools 558 = .ok (.iconst 1, 1) := by decide +kernel
theorem dL_schools_559 : decode cL_schools 559 = .ok (.goto 4, 3) := by decide +kernel
theorem dL_schools_562 : decode cL_schools 562 = .ok (.iconst 0, 1) := by decide +kernel
theorem dL_schools_563 : decode cL_schools 563 = .ok (.ireturn, 1) := by decide +kernel
theorem dL_schools_564 : decode cL_schools 564 = .ok (.aload_n 1, 1) := by decide +kernel
theorem dL_schools_565 : decode cL_schools 565 = .ok (.iload 12, 2) := by decide +kernel
theorem dL_schools_567 : decode cL_schools 567 = .ok (.dup2, 1) := by decide +kernel
theorem dL_schools_568 : decode cL_schools 568 = .ok (.iaload, 1) := by decide +kernel
theorem dL_schools_569 : decode cL_schools 569 = .ok (.bipush 16, 2) := by decide +kernel
theorem dL_schools_571 : decode cL_schools 571 = .ok (.iadd, 1) := by decide +kernel
theorem dL_schools_572 : decode cL_schools 572 = .ok (.iastore, 1) := by decide +kernel
theorem dL_schools_573 : decode cL_schools 573 = .ok (.iconst 0, 1) := by decide +kernel
theorem dL_schools_574 : decode cL_schools 574 = .ok (.istore 16, 2) := by decide +kernel
theorem dL_schools_576 : decode cL_schools 576 = .ok (.iload 16, 2) := by decide +kernel
theorem dL_schools_578 : decode cL_schools 578 = .ok (.aload 6, 2) := by decide +kernel
theorem dL_schools_580 : decode cL_schools 580 = .ok (.iconst 1, 1) := by decide +kernel
theorem dL_schools_581 : decode cL_schools 581 = .ok (.iaload, 1) := by decide +kernel
theorem dL_schools_582 : decode cL_schools 582 = .ok (.if_icmp .ge 39, 3) := by decide +kernel
theorem dL_schools_585 : decode cL_schools 585 = .ok (.iload 13, 2) := by decide +kernel
theorem dL_schools_587 : decode cL_schools 587 = .ok (.aload_n 0, 1) := by decide +kernel
theorem dL_schools_588 : decode cL_schools 588 = .ok (.aload_n 1, 1) := by decide +kernel
theorem dL_schools_589 : decode cL_schools 589 = .ok (.aload 4, 2) := by decide +kernel
theorem dL_schools_591 : decode cL_schools 591 = .ok (.aload 5, 2) := by decide +kernel
theorem dL_schools_593 : decode cL_schools 593 = .ok (.iload 16, 2) := by decide +kernel
theorem dL_schools_595 : decode cL_schools 595 = .ok (.iconst 0, 1) := by decide +kernel
theorem dL_schools_596 : decode cL_schools 596 = .ok (.invokestatic 180, 3) := by decide +kernel
theorem dL_schools_599 : decode cL_schools 599 = .ok (.aload 14, 2) := by decide +kernel
theorem dL_schools_601 : decode cL_schools 601 = .ok (.iload 16, 2) := by decide +kernel
theorem dL_schools_603 : decode cL_schools 603 = .ok (.iaload, 1) := by decide +kernel
theorem dL_schools_604 : decode cL_schools 604 = .ok (.if_icmp .eq 7, 3) := by decide +kernel
theorem dL_schools_607 : decode cL_schools 607 = .ok (.iconst 1, 1) := by decide +kernel
theorem dL_schools_608 : decode cL_schools 608 = .ok (.goto 4, 3) := by decide +kernel
theorem dL_schools_611 : decode cL_schools 611 = .ok (.iconst 0, 1) := by decide +kernel
theorem dL_schools_612 : decode cL_schools 612 = .ok (.iadd, 1) := by decide +kernel
theorem dL_schools_613 : decode cL_schools 613 = .ok (.istore 13, 2) := by decide +kernel
theorem dL_schools_615 : decode cL_schools 615 = .ok (.iinc 16 1, 3) := by decide +kernel
theorem dL_schools_618 : decode cL_schools 618 = .ok (.goto (-42), 3) := by decide +kernel
theorem dL_schools_621 : decode cL_schools 621 = .ok (.iload 15, 2) := by decide +kernel
theorem dL_schools_623 : decode cL_schools 623 = .ok (.iload 13, 2) := by decide +kernel
theorem dL_schools_625 : decode cL_schools 625 = .ok (.if_icmp .ne 20, 3) := by decide +kernel
theorem dL_schools_628 : decode cL_schools 628 = .ok (.aload_n 0, 1) := by decide +kernel
theorem dL_schools_629 : decode cL_schools 629 = .ok (.iload 10, 2) := by decide +kernel
theorem dL_schools_631 : decode cL_schools 631 = .ok (.iload 11, 2) := by decide +kernel
theorem dL_schools_633 : decode cL_schools 633 = .ok (.invokestatic 220, 3) := by decide +kernel
theorem dL_schools_636 : decode cL_schools 636 = .ok (.ldc 36, 2) := by decide +kernel
theorem dL_schools_638 : decode cL_schools 638 = .ok (.if_icmp .ne 7, 3) := by decide +kernel
theorem dL_schools_641 : decode cL_schools 641 = .ok (.iconst 1, 1) := by decide +kernel
theorem dL_schools_642 : decode cL_schools 642 = .ok (.goto 4, 3) := by decide +kernel
theorem dL_schools_645 : decode cL_schools 645 = .ok (.iconst 0, 1) := by decide +kernel
theorem dL_schools_646 : decode cL_schools 646 = .ok (.ireturn, 1) := by decide +kernel
theorem dL_schools_647 : decode cL_schools 647 = .ok (.iload 9, 2) := by decide +kernel
theorem dL_schools_649 : decode cL_schools 649 = .ok (.iconst 5, 1) := by decide +kernel
theorem dL_schools_650 : decode cL_schools 650 = .ok (.if_icmp .ne 62, 3) := by decide +kernel
theorem dL_schools_653 : decode cL_schools 653 = .ok (.iconst 1, 1) := by decide +kernel
theorem dL_schools_654 : decode cL_schools 654 = .ok (.iload 8, 2) := by decide +kernel
theorem dL_schools_656 : decode cL_schools 656 = .ok (.iconst 4, 1) := by decide +kernel
theorem dL_schools_657 : decode cL_schools 657 = .ok (.invokestatic 118, 3) := by decide +kernel
theorem dL_schools_660 : decode cL_schools 660 = .ok (.iadd, 1) := by decide +kernel
theorem dL_schools_661 : decode cL_schools 661 = .ok (.istore 11, 2) := by decide +kernel
theorem dL_schools_663 : decode cL_schools 663 = .ok (.aload 6, 2) := by decide +kernel
theorem dL_schools_665 : decode cL_schools 665 = .ok (.iconst 2, 1) := by decide +kernel
theorem dL_schools_666 : decode cL_schools 666 = .ok (.dup2, 1) := by decide +kernel
theorem dL_schools_667 : decode cL_schools 667 = .ok (.iaload, 1) := by decide +kernel
theorem dL_schools_668 : decode cL_schools 668 = .ok (.iload 11, 2) := by decide +kernel
theorem dL_schools_670 : decode cL_schools 670 = .ok (.iadd, 1) := by decide +kernel
theorem dL_schools_671 : decode cL_schools 671 = .ok (.iastore, 1) := by decide +kernel
theorem dL_schools_672 : decode cL_schools 672 = .ok (.aload_n 0, 1) := by decide +kernel
theorem dL_schools_673 : decode cL_schools 673 = .ok (.iload 11, 2) := by decide +kernel
theorem dL_schools_675 : decode cL_schools 675 = .ok (.invokestatic 222, 3) := by decide +kernel
theorem dL_schools_678 : decode cL_schools 678 = .ok (.aload 6, 2) := by decide +kernel
theorem dL_schools_680 : decode cL_schools 680 = .ok (.iconst 2, 1) := by decide +kernel
theorem dL_schools_681 : decode cL_schools 681 = .ok (.iaload, 1) := by decide +kernel
theorem dL_schools_682 : decode cL_schools 682 = .ok (.if_icmp .ne 28, 3) := by decide +kernel
theorem dL_schools_685 : decode cL_schools 685 = .ok (.aload_n 0, 1) := by decide +kernel
theorem dL_schools_686 : decode cL_schools 686 = .ok (.iconst 0, 1) := by decide +kernel
theorem dL_schools_687 : decode cL_schools 687 = .ok (.invokestatic 222, 3) := by decide +kernel
theorem dL_schools_690 : decode cL_schools 690 = .ok (.ldc 18, 2) := by decide +kernel
theorem dL_schools_692 : decode cL_schools 692 = .ok (.if_icmp .ne 18, 3) := by decide +kernel
theorem dL_schools_695 : decode cL_schools 695 = .ok (.aload_n 0, 1) := by decide +kernel
theorem dL_schools_696 : decode cL_schools 696 = .ok (.bipush 101, 2) := by decide +kernel
theorem dL_schools_698 : decode cL_schools 698 = .ok (.invokestatic 222, 3) := by decide +kernel
theorem dL_schools_701 : decode cL_schools 701 = .ok (.ldc 18, 2) := by decide +kernel
theorem dL_schools_703 : decode cL_schools 703 = .ok (.if_icmp .ne 7, 3) := by decide +kernel
theorem dL_schools_706 : decode cL_schools 706 = .ok (.iconst 1, 1) := by decide +kernel
theorem dL_schools_707 : decode cL_schools 707 = .ok (.goto 4, 3) := by decide +kernel
theorem dL_schools_710 : decode cL_schools 710 = .ok (.iconst 0, 1) := by decide +kernel
theorem dL_schools_711 : decode cL_schools 711 = .ok (.ireturn, 1) := by decide +kernel
theorem dL_schools_712 : decode cL_schools 712 = .ok (.iload 9, 2) := by decide +kernel
theorem dL_schools_714 : decode cL_schools 714 = .ok (.bipush 10, 2) := by decide +kernel
theorem dL_schools_716 : decode cL_schools 716 = .ok (.if_icmp .ge 18, 3) := by decide +kernel
theorem dL_schools_719 : decode cL_schools 719 = .ok (.aload_n 0, 1) := by decide +kernel
theorem dL_schools_720 : decode cL_schools 720 = .ok (.aload_n 2, 1) := by decide +kernel
theorem dL_schools_721 : decode cL_schools 721 = .ok (.aload_n 3, 1) := by decide +kernel
theorem dL_schools_722 : decode cL_schools 722 = .ok (.aload 4, 2) := by decide +kernel
theorem dL_schools_724 : decode cL_schools 724 = .ok (.aload 5, 2) := by decide +kernel
theorem dL_schools_726 : decode cL_schools 726 = .ok (.aload 6, 2) := by decide +kernel
theorem dL_schools_728 : decode cL_schools 728 = .ok (.iload 8, 2) := by decide +kernel
theorem dL_schools_730 : decode cL_schools 730 = .ok (.invokestatic 224, 3) := by decide +kernel
theorem dL_schools_733 : decode cL_schools 733 = .ok (.ireturn, 1) := by decide +kernel
theorem dL_schools_734 : decode cL_schools 734 = .ok (.aload 6, 2) := by decide +kernel
theorem dL_schools_736 : decode cL_schools 736 = .ok (.iconst 4, 1) := by decide +kernel
theorem dL_schools_737 : decode cL_schools 737 = .ok (.dup2, 1) := by decide +kernel
theorem dL_schools_738 : decode cL_schools 738 = .ok (.iaload, 1) := by decide +kernel
theorem dL_schools_739 : decode cL_schools 739 = .ok (.iconst 1, 1) := by decide +kernel
theorem dL_schools_740 : decode cL_schools 740 = .ok (.iadd, 1) := by decide +kernel
theorem dL_schools_741 : decode cL_schools 741 = .ok (.iastore, 1) := by decide +kernel
theorem dL_schools_742 : decode cL_schools 742 = .ok (.aload 6, 2) := by decide +kernel
theorem dL_schools_744 : decode cL_schools 744 = .ok (.iconst 1, 1) := by decide +kernel
theorem dL_schools_745 : decode cL_schools 745 = .ok (.iaload, 1) := by decide +kernel
theorem dL_schools_746 : decode cL_schools 746 = .ok (.ifCond .ne 22, 3) := by decide +kernel
theorem dL_schools_749 : decode cL_schools 749 = .ok (.aload_n 0, 1) := by decide +kernel
theorem dL_schools_750 : decode cL_schools 750 = .ok (.iconst 0, 1) := by decide +kernel
theorem dL_schools_751 : decode cL_schools 751 = .ok (.iconst 0, 1) := by decide +kernel
theorem dL_schools_752 : decode cL_schools 752 = .ok (.invokestatic 213, 3) := by decide +kernel
theorem dL_schools_755 : decode cL_schools 755 = .ok (.ldc 29, 2) := by decide +kernel
theorem dL_schools_757 : decode cL_schools 757 = .ok (.if_icmp .ne 7, 3) := by decide +kernel
theorem dL_schools_760 : decode cL_schools 760 = .ok (.iconst 1, 1) := by decide +kernel
theorem dL_schools_761 : decode cL_schools 761 = .ok (.goto 37, 3) := by decide +kernel
theorem dL_schools_764 : decode cL_schools 764 = .ok (.iconst 0, 1) := by decide +kernel
theorem dL_schools_765 : decode cL_schools 765 = .ok (.goto 33, 3) := by decide +kernel
theorem dL_schools_768 : decode cL_schools 768 = .ok (.aload 6, 2) := by decide +kernel
theorem dL_schools_770 : decode cL_schools 770 = .ok (.iconst 4, 1) := by decide +kernel
theorem dL_schools_771 : decode cL_schools 771 = .ok (.iaload, 1) := by decide +kernel
theorem dL_schools_772 : decode cL_schools 772 = .ok (.bipush 12, 2) := by decide +kernel
theorem dL_schools_774 : decode cL_schools 774 = .ok (.if_icmp .gt 19, 3) := by decide +kernel
theorem dL_schools_777 : decode cL_schools 777 = .ok (.aload_n 0, 1) := by decide +kernel
theorem dL_schools_778 : decode cL_schools 778 = .ok (.aload_n 1, 1) := by decide +kernel
theorem dL_schools_779 : decode cL_schools 779 = .ok (.aload 4, 2) := by decide +kernel
theorem dL_schools_781 : decode cL_schools 781 = .ok (.aload 5, 2) := by decide +kernel
theorem dL_schools_783 : decode cL_schools 783 = .ok (.aload 6, 2) := by decide +kernel
theorem dL_schools_785 : decode cL_schools 785 = .ok (.iload 8, 2) := by decide +kernel
theorem dL_schools_787 : decode cL_schools 787 = .ok (.invokestatic 228, 3) := by decide +kernel
theorem dL_schools_790 : decode cL_schools 790 = .ok (.ifCond .eq 7, 3) := by decide +kernel
theorem dL_schools_793 : decode cL_schools 793 = .ok (.iconst 1, 1) := by decide +kernel
theorem dL_schools_794 : decode cL_schools 794 = .ok (.goto 4, 3) := by decide +kernel
theorem dL_schools_797 : decode cL_schools 797 = .ok (.iconst 0, 1) := by decide +kernel
theorem dL_schools_798 : decode cL_schools 798 = .ok (.ireturn, 1) := by decide +kernel
theorem dL_acts_0 : decode cL_acts 0 = .ok (.iload 7, 2) := by decide +kernel
theorem dL_acts_2 : decode cL_acts 2 = .ok (.bipush 20, 2) := by decide +kernel
theorem dL_acts_4 : decode cL_acts 4 = .ok (.invokestatic 118, 3) := by decide +kernel
theorem dL_acts_7 : decode cL_acts 7 = .ok (.istore 9, 2) := by decide +kernel
theorem dL_acts_9 : decode cL_acts 9 = .ok (.aload_n 0, 1) := by decide +kernel
theorem dL_acts_10 : decode cL_acts 10 = .ok (.invokevirtual 107, 3) := by decide +kernel
theorem dL_acts_13 : decode cL_acts 13 = .ok (.ifCond .eq 9, 3) := by decide +kernel
theorem dL_acts_16 : decode cL_acts 16 = .ok (.iload 9, 2) := by decide +kernel
theorem dL_acts_18 : decode cL_acts 18 = .ok (.iconst 2, 1) := by decide +kernel
theorem dL_acts_19 : decode cL_acts 19 = .ok (.if_icmp .ge 12, 3) := by decide +kernel
theorem dL_acts_22 : decode cL_acts 22 = .ok (.aload_n 0, 1) := by decide +kernel
theorem dL_acts_23 : decode cL_acts 23 = .ok (.aload 6, 2) := by decide +kernel
theorem dL_acts_25 : decode cL_acts 25 = .ok (.iload 8, 2) := by decide +kernel
theorem dL_acts_27 : decode cL_acts 27 = .ok (.invokestatic 232, 3) := by decide +kernel
theorem dL_acts_30 : decode cL_acts 30 = .ok (.ireturn, 1) := by decide +kernel
theorem dL_acts_31 : decode cL_acts 31 = .ok (.iload 9, 2) := by decide +kernel
theorem dL_acts_33 : decode cL_acts 33 = .ok (.bipush 7, 2) := by decide +kernel
theorem dL_acts_35 : decode cL_acts 35 = .ok (.if_icmp .ge 16, 3) := by decide +kernel
theorem dL_acts_38 : decode cL_acts 38 = .ok (.aload_n 0, 1) := by decide +kernel
theorem dL_acts_39 : decode cL_acts 39 = .ok (.aload 6, 2) := by decide +kernel
theorem dL_acts_41 : decode cL_acts 41 = .ok (.iload 7, 2) := by decide +kernel
theorem dL_acts_43 : decode cL_acts 43 = .ok (.iconst 5, 1) := by decide +kernel
theorem dL_acts_44 : decode cL_acts 44 = .ok (.ishr, 1) := by decide +kernel
theorem dL_acts_45 : decode cL_acts 45 = .ok (.iload 8, 2) := by decide +kernel
theorem dL_acts_47 : decode cL_acts 47 = .ok (.invokestatic 236, 3) := by decide +kernel
theorem dL_acts_50 : decode cL_acts 50 = .ok (.ireturn, 1) := by decide +kernel
theorem dL_acts_51 : decode cL_acts 51 = .ok (.iload 9, 2) := by decide +kernel
theorem dL_acts_53 : decode cL_acts 53 = .ok (.bipush 10, 2) := by decide +kernel
theorem dL_acts_55 : decode cL_acts 55 = .ok (.if_icmp .ge 79, 3) := by decide +kernel
theorem dL_acts_58 : decode cL_acts 58 = .ok (.aload 6, 2) := by decide +kernel
theorem dL_acts_60 : decode cL_acts 60 = .ok (.iconst 5, 1) := by decide +kernel
theorem dL_acts_61 : decode cL_acts 61 = .ok (.dup2, 1) := by decide +kernel
theorem dL_acts_62 : decode cL_acts 62 = .ok (.iaload, 1) := by decide +kernel
theorem dL_acts_63 : decode cL_acts 63 = .ok (.iconst 1, 1) := by decide +kernel
theorem dL_acts_64 : decode cL_acts 64 = .ok (.iadd, 1) := by decide +kernel
theorem dL_acts_65 : decode cL_acts 65 = .ok (.iastore, 1) := by decide +kernel
theorem dL_acts_66 : decode cL_acts 66 = .ok (.aload 6, 2) := by decide +kernel
theorem dL_acts_68 : decode cL_acts 68 = .ok (.iconst 5, 1) := by decide +kernel
theorem dL_acts_69 : decode cL_acts 69 = .ok (.iaload, 1) := by decide +kernel
theorem dL_acts_70 : decode cL_acts 70 = .ok (.bipush 30, 2) := by decide +kernel
theorem dL_acts_72 : decode cL_acts 72 = .ok (.if_icmp .gt 56, 3) := by decide +kernel
theorem dL_acts_75 : decode cL_acts 75 = .ok (.aload_n 0, 1) := by decide +kernel
theorem dL_acts_76 : decode cL_acts 76 = .ok (.iload 8, 2) := by decide +kernel
theorem dL_acts_78 : decode cL_acts 78 = .ok (.iconst 3, 1) := by decide +kernel
theorem dL_acts_79 : decode cL_acts 79 = .ok (.invokestatic 118, 3) := by decide +kernel
theorem dL_acts_82 : decode cL_acts 82 = .ok (.ifCond .ne 9, 3) := by decide +kernel
theorem dL_acts_85 : decode cL_acts 85 = .ok (.sipush 200, 3) := by decide +kernel
theorem dL_acts_88 : decode cL_acts 88 = .ok (.goto 12, 3) := by decide +kernel
theorem dL_acts_91 : decode cL_acts 91 = .ok (.iload 8, 2) := by decide +kernel
theorem dL_acts_93 : decode cL_acts 93 = .ok (.iconst 2, 1) := by decide +kernel
theorem dL_acts_94 : decode cL_acts 94 = .ok (.ishr, 1) := by decide +kernel
theorem dL_acts_95 : decode cL_acts 95 = .ok (.bipush 60, 2) := by decide +kernel
theorem dL_acts_97 : decode cL_acts 97 = .ok (.invokestatic 118, 3) := by decide +kernel
theorem dL_acts_100 : decode cL_acts 100 = .ok (.iload 8, 2) := by decide +kernel
theorem dL_acts_102 : decode cL_acts 102 = .ok (.bipush 8, 2) := by decide +kernel
theorem dL_acts_104 : decode cL_acts 104 = .ok (.ishr, 1) := by decide +kernel
theorem dL_acts_105 : decode cL_acts 105 = .ok (.bipush 12, 2) := by decide +kernel
theorem dL_acts_107 : decode cL_acts 107 = .ok (.invokestatic 118, 3) := by decide +kernel
theorem dL_acts_110 : decode cL_acts 110 = .ok (.iconst 2, 1) := by decide +kernel
theorem dL_acts_111 : decode cL_acts 111 = .ok (.isub, 1) := by decide +kernel
theorem dL_acts_112 : decode cL_acts 112 = .ok (.iload 7, 2) := by decide +kernel
theorem dL_acts_114 : decode cL_acts 114 = .ok (.bipush 6, 2) := by decide +kernel
theorem dL_acts_116 : decode cL_acts 116 = .ok (.ishr, 1) := by decide +kernel
theorem dL_acts_117 : decode cL_acts 117 = .ok (.bipush 9, 2) := by decide +kernel
theorem dL_acts_119 : decode cL_acts 119 = .ok (.invokestatic 118, 3) := by decide +kernel
theorem dL_acts_122 : decode cL_acts 122 = .ok (.invokestatic 240, 3) := by decide +kernel
theorem dL_acts_125 : decode cL_acts 125 = .ok (.ifCond .eq 7, 3) := by decide +kernel
theorem dL_acts_128 : decode cL_acts 128 = .ok (.iconst 1, 1) := by decide +kernel
theorem dL_acts_129 : decode cL_acts 129 = .ok (.goto 4, 3) := by decide +kernel
theorem dL_acts_132 : decode cL_acts 132 = .ok (.iconst 0, 1) := by decide +kernel
theorem dL_acts_133 : decode cL_acts 133 = .ok (.ireturn, 1) := by decide +kernel
theorem dL_acts_134 : decode cL_acts 134 = .ok (.iload 9, 2) := by decide +kernel
theorem dL_acts_136 : decode cL_acts 136 = .ok (.bipush 10, 2) := by decide +kernel
theorem dL_acts_138 : decode cL_acts 138 = .ok (.if_icmp .ne 18, 3) := by decide +kernel
theorem dL_acts_141 : decode cL_acts 141 = .ok (.aload_n 0, 1) := by decide +kernel
theorem dL_acts_142 : decode cL_acts 142 = .ok (.aload 6, 2) := by decide +kernel
theorem dL_acts_144 : decode cL_acts 144 = .ok (.iload 7, 2) := by decide +kernel
theorem dL_acts_146 : decode cL_acts 146 = .ok (.iconst 5, 1) := by decide +kernel
theorem dL_acts_147 : decode cL_acts 147 = .ok (.ishr, 1) := by decide +kernel
theorem dL_acts_148 : decode cL_acts 148 = .ok (.iload 8, 2) := by decide +kernel
theorem dL_acts_150 : decode cL_acts 150 = .ok (.invokestatic 244, 3) := by decide +kernel
theorem dL_acts_153 : decode cL_acts 153 = .ok (.goto 22, 3) := by decide +kernel
theorem dL_acts_156 : decode cL_acts 156 = .ok (.aload_n 0, 1) := by decide +kernel
theorem dL_acts_157 : decode cL_acts 157 = .ok (.aload_n 1, 1) := by decide +kernel
theorem dL_acts_158 : decode cL_acts 158 = .ok (.aload_n 2, 1) := by decide +kernel
theorem dL_acts_159 : decode cL_acts 159 = .ok (.aload_n 3, 1) := by decide +kernel
theorem dL_acts_160 : decode cL_acts 160 = .ok (.aload 4, 2) := by decide +kernel
theorem dL_acts_162 : decode cL_acts 162 = .ok (.aload 5, 2) := by decide +kernel
theorem dL_acts_164 : decode cL_acts 164 = .ok (.aload 6, 2) := by decide +kernel
theorem dL_acts_166 : decode cL_acts 166 = .ok (.iload 7, 2) := by decide +kernel
theorem dL_acts_168 : decode cL_acts 168 = .ok (.iconst 5, 1) := by decide +kernel
theorem dL_acts_169 : decode cL_acts 169 = .ok (.ishr, 1) := by decide +kernel
theorem dL_acts_170 : decode cL_acts 170 = .ok (.iload 8, 2) := by decide +kernel
theorem dL_acts_172 : decode cL_acts 172 = .ok (.invokestatic 247, 3) := by decide +kernel
theorem dL_acts_175 : decode cL_acts 175 = .ok (.ireturn, 1) := by decide +kernel
theorem dL_law_0 : decode cL_law 0 = .ok (.new 11, 3) := by decide +kernel
theorem dL_law_3 : decode cL_law 3 = .ok (.dup, 1) := by decide +kernel
theorem dL_law_4 : decode cL_law 4 = .ok (.invokespecial 251, 3) := by decide +kernel
theorem dL_law_7 : decode cL_law 7 = .ok (.astore_n 1, 1) := by decide +kernel
theorem dL_law_8 : decode cL_law 8 = .ok (.bipush 32, 2) := by decide +kernel
theorem dL_law_10 : decode cL_law 10 = .ok (.newarray .int, 2) := by decide +kernel
theorem dL_law_12 : decode cL_law 12 = .ok (.astore_n 2, 1) := by decide +kernel
theorem dL_law_13 : decode cL_law 13 = .ok (.bipush 64, 2) := by decide +kernel
theorem dL_law_15 : decode cL_law 15 = .ok (.newarray .int, 2) := by decide +kernel
theorem dL_law_17 : decode cL_law 17 = .ok (.astore_n 3, 1) := by decide +kernel
theorem dL_law_18 : decode cL_law 18 = .ok (.bipush 32, 2) := by decide +kernel
theorem dL_law_20 : decode cL_law 20 = .ok (.newarray .int, 2) := by decide +kernel
theorem dL_law_22 : decode cL_law 22 = .ok (.astore 4, 2) := by decide +kernel
theorem dL_law_24 : decode cL_law 24 = .ok (.bipush 8, 2) := by decide +kernel
theorem dL_law_26 : decode cL_law 26 = .ok (.newarray .int, 2) := by decide +kernel
theorem dL_law_28 : decode cL_law 28 = .ok (.astore 5, 2) := by decide +kernel
theorem dL_law_30 : decode cL_law 30 = .ok (.bipush 30, 2) := by decide +kernel
theorem dL_law_32 : decode cL_law 32 = .ok (.newarray .int, 2) := by decide +kernel
theorem dL_law_34 : decode cL_law 34 = .ok (.astore 6, 2) := by decide +kernel
theorem dL_law_36 : decode cL_law 36 = .ok (.bipush 6, 2) := by decide +kernel
theorem dL_law_38 : decode cL_law 38 = .ok (.newarray .int, 2) := by decide +kernel
theorem dL_law_40 : decode cL_law 40 = .ok (.astore 7, 2) := by decide +kernel
theorem dL_law_42 : decode cL_law 42 = .ok (.aload_n 1, 1) := by decide +kernel
theorem dL_law_43 : decode cL_law 43 = .ok (.invokevirtual 196, 3) := by decide +kernel
theorem dL_law_46 : decode cL_law 46 = .ok (.ifCond .ne 14, 3) := by decide +kernel
theorem dL_law_49 : decode cL_law 49 = .ok (.aload_n 1, 1) := by decide +kernel
theorem dL_law_50 : decode cL_law 50 = .ok (.invokevirtual 199, 3) := by decide +kernel
theorem dL_law_53 : decode cL_law 53 = .ok (.ifCond .ne 7, 3) := by decide +kernel
theorem dL_law_56 : decode cL_law 56 = .ok (.iconst 1, 1) := by decide +kernel
theorem dL_law_57 : decode cL_law 57 = .ok (.goto 4, 3) := by decide +kernel
theorem dL_law_60 : decode cL_law 60 = .ok (.iconst 0, 1) := by decide +kernel
theorem dL_law_61 : decode cL_law 61 = .ok (.istore 8, 2) := by decide +kernel
theorem dL_law_63 : decode cL_law 63 = .ok (.iconst 0, 1) := by decide +kernel
theorem dL_law_64 : decode cL_law 64 = .ok (.istore 9, 2) := by decide +kernel
theorem dL_law_66 : decode cL_law 66 = .ok (.iload 9, 2) := by decide +kernel
theorem dL_law_68 : decode cL_law 68 = .ok (.bipush 120, 2) := by decide +kernel
theorem dL_law_70 : decode cL_law 70 = .ok (.if_icmp .ge 95, 3) := by decide +kernel
theorem dL_law_73 : decode cL_law 73 = .ok (.iload 8, 2) := by decide +kernel
theorem dL_law_75 : decode cL_law 75 = .ok (.ifCond .eq 90, 3) := by decide +kernel
theorem dL_law_78 : decode cL_law 78 = .ok (.aload_n 0, 1) := by decide +kernel
theorem dL_law_79 : decode cL_law 79 = .ok (.iconst 2, 1) := by decide +kernel
theorem dL_law_80 : decode cL_law 80 = .ok (.iload 9, 2) := by decide +kernel
theorem dL_law_82 : decode cL_law 82 = .ok (.imul, 1) := by decide +kernel
theorem dL_law_83 : decode cL_law 83 = .ok (.invokestatic 252, 3) := by decide +kernel
theorem dL_law_86 : decode cL_law 86 = .ok (.istore 10, 2) := by decide +kernel
theorem dL_law_88 : decode cL_law 88 = .ok (.aload_n 1, 1) := by decide +kernel
theorem dL_law_89 : decode cL_law 89 = .ok (.aload_n 2, 1) := by decide +kernel
theorem dL_law_90 : decode cL_law 90 = .ok (.aload_n 3, 1) := by decide +kernel
theorem dL_law_91 : decode cL_law 91 = .ok (.aload 4, 2) := by decide +kernel
theorem dL_law_93 : decode cL_law 93 = .ok (.aload 5, 2) := by decide +kernel
theorem dL_law_95 : decode cL_law 95 = .ok (.aload 6, 2) := by decide +kernel
theorem dL_law_97 : decode cL_law 97 = .ok (.aload 7, 2) := by decide +kernel
theorem dL_law_99 : decode cL_law 99 = .ok (.iload 10, 2) := by decide +kernel
theorem dL_law_101 : decode cL_law 101 = .ok (.aload_n 0, 1) := by decide +kernel
theorem dL_law_102 : decode cL_law 102 = .ok (.iconst 2, 1) := by decide +kernel
theorem dL_law_103 : decode cL_law 103 = .ok (.iload 9, 2) := by decide +kernel
theorem dL_law_105 : decode cL_law 105 = .ok (.imul, 1) := by decide +kernel
theorem dL_law_106 : decode cL_law 106 = .ok (.iconst 1, 1) := by decide +kernel
theorem dL_law_107 : decode cL_law 107 = .ok (.iadd, 1) := by decide +kernel
theorem dL_law_108 : decode cL_law 108 = .ok (.invokestatic 252, 3) := by decide +kernel
theorem dL_law_111 : decode cL_law 111 = .ok (.invokestatic 256, 3) := by decide +kernel
theorem dL_law_114 : decode cL_law 114 = .ok (.ifCond .eq 42, 3) := by decide +kernel
theorem dL_law_117 : decode cL_law 117 = .ok (.iload 9, 2) := by decide +kernel
theorem dL_law_119 : decode cL_law 119 = .ok (.bipush 20, 2) := by decide +kernel
theorem dL_law_121 : decode cL_law 121 = .ok (.irem, 1) := by decide +kernel
theorem dL_law_122 : decode cL_law 122 = .ok (.bipush 19, 2) := by decide +kernel
theorem dL_law_124 : decode cL_law 124 = .ok (.if_icmp .lt 28, 3) := by decide +kernel
theorem dL_law_127 : decode cL_law 127 = .ok (.aload 7, 2) := by decide +kernel
theorem dL_law_129 : decode cL_law 129 = .ok (.iconst 0, 1) := by decide +kernel
theorem dL_law_130 : decode cL_law 130 = .ok (.iaload, 1) := by decide +kernel
theorem dL_law_131 : decode cL_law 131 = .ok (.ifCond .eq 21, 3) := by decide +kernel
theorem dL_law_134 : decode cL_law 134 = .ok (.aload_n 1, 1) := by decide +kernel
theorem dL_law_135 : decode cL_law 135 = .ok (.aload_n 2, 1) := by decide +kernel
theorem dL_law_136 : decode cL_law 136 = .ok (.aload 5, 2) := by decide +kernel
theorem dL_law_138 : decode cL_law 138 = .ok (.aload 6, 2) := by decide +kernel
theorem dL_law_140 : decode cL_law 140 = .ok (.aload 7, 2) := by decide +kernel
theorem dL_law_142 : decode cL_law 142 = .ok (.iload 10, 2) := by decide +kernel
theorem dL_law_144 : decode cL_law 144 = .ok (.iconst 4, 1) := by decide +kernel
theorem dL_law_145 : decode cL_law 145 = .ok (.ishr, 1) := by decide +kernel
theorem dL_law_146 : decode cL_law 146 = .ok (.invokestatic 259, 3) := by decide +kernel
theorem dL_law_149 : decode cL_law 149 = .ok (.ifCond .eq 7, 3) := by decide +kernel
theorem dL_law_152 : decode cL_law 152 = .ok (.iconst 1, 1) := by decide +kernel
theorem dL_law_153 : decode cL_law 153 = .ok (.goto 4, 3) := by decide +kernel
theorem dL_law_156 : decode cL_law 156 = .ok (.iconst 0, 1) := by decide +kernel
theorem dL_law_157 : decode cL_law 157 = .ok (.istore 8, 2) := by decide +kernel
theorem dL_law_159 : decode cL_law 159 = .ok (.iinc 9 1, 3) := by decide +kernel
theorem dL_law_162 : decode cL_law 162 = .ok (.goto (-96), 3) := by decide +kernel
theorem dL_law_165 : decode cL_law 165 = .ok (.iload 8, 2) := by decide +kernel
theorem dL_law_167 : decode cL_law 167 = .ok (.ireturn, 1) := by decide +kernel
