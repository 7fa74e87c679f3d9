theorem dX7_lift_66 : decode cX7_lift 66 = .ok (.athrow, 1) := by decide +kernel
theorem dX7_lift_67 : decode cX7_lift 67 = .ok (.aload_n 0, 1) := by decide +kernel
theorem dX7_lift_68 : decode cX7_lift 68 = .ok (.getfield 19, 3) := by decide +kernel
theorem dX7_lift_71 : decode cX7_lift 71 = .ok (.aload_n 0, 1) := by decide +kernel
theorem dX7_lift_72 : decode cX7_lift 72 = .ok (.getfield 10, 3) := by decide +kernel
theorem dX7_lift_75 : decode cX7_lift 75 = .ok (.invokevirtual 76, 3) := by decide +kernel
theorem dX7_lift_78 : decode cX7_lift 78 = .ok (.aload_n 0, 1) := by decide +kernel
theorem dX7_lift_79 : decode cX7_lift 79 = .ok (.getfield 10, 3) := by decide +kernel
theorem dX7_lift_82 : decode cX7_lift 82 = .ok (.iload_n 1, 1) := by decide +kernel
theorem dX7_lift_83 : decode cX7_lift 83 = .ok (.iconst 1, 1) := by decide +kernel
theorem dX7_lift_84 : decode cX7_lift 84 = .ok (.iload_n 3, 1) := by decide +kernel
theorem dX7_lift_85 : decode cX7_lift 85 = .ok (.invokevirtual 111, 3) := by decide +kernel
theorem dX7_lift_88 : decode cX7_lift 88 = .ok (.iload_n 3, 1) := by decide +kernel
theorem dX7_lift_89 : decode cX7_lift 89 = .ok (.ireturn, 1) := by decide +kernel
theorem dX7_turn_0 : decode cX7_turn 0 = .ok (.aload_n 0, 1) := by decide +kernel
theorem dX7_turn_1 : decode cX7_turn 1 = .ok (.getfield 10, 3) := by decide +kernel
theorem dX7_turn_4 : decode cX7_turn 4 = .ok (.iload_n 1, 1) := by decide +kernel
theorem dX7_turn_5 : decode cX7_turn 5 = .ok (.invokevirtual 83, 3) := by decide +kernel
theorem dX7_turn_8 : decode cX7_turn 8 = .ok (.ifCond .ne 13, 3) := by decide +kernel
theorem dX7_turn_11 : decode cX7_turn 11 = .ok (.new 86, 3) := by decide +kernel
theorem dX7_turn_14 : decode cX7_turn 14 = .ok (.dup, 1) := by decide +kernel
theorem dX7_turn_15 : decode cX7_turn 15 = .ok (.ldc 88, 2) := by decide +kernel
theorem dX7_turn_17 : decode cX7_turn 17 = .ok (.invokespecial 90, 3) := by decide +kernel
theorem dX7_turn_20 : decode cX7_turn 20 = .ok (.athrow, 1) := by decide +kernel
theorem dX7_turn_21 : decode cX7_turn 21 = .ok (.iload_n 2, 1) := by decide +kernel
theorem dX7_turn_22 : decode cX7_turn 22 = .ok (.invokestatic 115, 3) := by decide +kernel
theorem dX7_turn_25 : decode cX7_turn 25 = .ok (.ifCond .eq 10, 3) := by decide +kernel
theorem dX7_turn_28 : decode cX7_turn 28 = .ok (.iload_n 3, 1) := by decide +kernel
theorem dX7_turn_29 : decode cX7_turn 29 = .ok (.invokestatic 53, 3) := by decide +kernel
theorem dX7_turn_32 : decode cX7_turn 32 = .ok (.ifCond .ne 13, 3) := by decide +kernel
theorem dX7_turn_35 : decode cX7_turn 35 = .ok (.new 60, 3) := by decide +kernel
theorem dX7_turn_38 : decode cX7_turn 38 = .ok (.dup, 1) := by decide +kernel
theorem dX7_turn_39 : decode cX7_turn 39 = .ok (.ldc 118, 2) := by decide +kernel
theorem dX7_turn_41 : decode cX7_turn 41 = .ok (.invokespecial 64, 3) := by decide +kernel
theorem dX7_turn_44 : decode cX7_turn 44 = .ok (.athrow, 1) := by decide +kernel
theorem dX7_turn_45 : decode cX7_turn 45 = .ok (.aload_n 0, 1) := by decide +kernel
theorem dX7_turn_46 : decode cX7_turn 46 = .ok (.getfield 10, 3) := by decide +kernel
theorem dX7_turn_49 : decode cX7_turn 49 = .ok (.iload_n 1, 1) := by decide +kernel
theorem dX7_turn_50 : decode cX7_turn 50 = .ok (.iload_n 2, 1) := by decide +kernel
theorem dX7_turn_51 : decode cX7_turn 51 = .ok (.invokevirtual 120, 3) := by decide +kernel
theorem dX7_turn_54 : decode cX7_turn 54 = .ok (.iload_n 3, 1) := by decide +kernel
theorem dX7_turn_55 : decode cX7_turn 55 = .ok (.iload_n 2, 1) := by decide +kernel
theorem dX7_turn_56 : decode cX7_turn 56 = .ok (.imul, 1) := by decide +kernel
theorem dX7_turn_57 : decode cX7_turn 57 = .ok (.isub, 1) := by decide +kernel
theorem dX7_turn_58 : decode cX7_turn 58 = .ok (.istore 4, 2) := by decide +kernel
theorem dX7_turn_60 : decode cX7_turn 60 = .ok (.iload 4, 2) := by decide +kernel
theorem dX7_turn_62 : decode cX7_turn 62 = .ok (.invokestatic 57, 3) := by decide +kernel
theorem dX7_turn_65 : decode cX7_turn 65 = .ok (.ifCond .ne 13, 3) := by decide +kernel
theorem dX7_turn_68 : decode cX7_turn 68 = .ok (.new 71, 3) := by decide +kernel
theorem dX7_turn_71 : decode cX7_turn 71 = .ok (.dup, 1) := by decide +kernel
theorem dX7_turn_72 : decode cX7_turn 72 = .ok (.ldc 109, 2) := by decide +kernel
theorem dX7_turn_74 : decode cX7_turn 74 = .ok (.invokespecial 75, 3) := by decide +kernel
theorem dX7_turn_77 : decode cX7_turn 77 = .ok (.athrow, 1) := by decide +kernel
theorem dX7_turn_78 : decode cX7_turn 78 = .ok (.aload_n 0, 1) := by decide +kernel
theorem dX7_turn_79 : decode cX7_turn 79 = .ok (.getfield 19, 3) := by decide +kernel
theorem dX7_turn_82 : decode cX7_turn 82 = .ok (.aload_n 0, 1) := by decide +kernel
theorem dX7_turn_83 : decode cX7_turn 83 = .ok (.getfield 10, 3) := by decide +kernel
theorem dX7_turn_86 : decode cX7_turn 86 = .ok (.invokevirtual 76, 3) := by decide +kernel
theorem dX7_turn_89 : decode cX7_turn 89 = .ok (.aload_n 0, 1) := by decide +kernel
theorem dX7_turn_90 : decode cX7_turn 90 = .ok (.getfield 10, 3) := by decide +kernel
theorem dX7_turn_93 : decode cX7_turn 93 = .ok (.iload_n 1, 1) := by decide +kernel
theorem dX7_turn_94 : decode cX7_turn 94 = .ok (.iconst 0, 1) := by decide +kernel
theorem dX7_turn_95 : decode cX7_turn 95 = .ok (.iload_n 3, 1) := by decide +kernel
theorem dX7_turn_96 : decode cX7_turn 96 = .ok (.invokevirtual 111, 3) := by decide +kernel
theorem dX7_turn_99 : decode cX7_turn 99 = .ok (.aload_n 0, 1) := by decide +kernel
theorem dX7_turn_100 : decode cX7_turn 100 = .ok (.getfield 10, 3) := by decide +kernel
theorem dX7_turn_103 : decode cX7_turn 103 = .ok (.iload_n 1, 1) := by decide +kernel
theorem dX7_turn_104 : decode cX7_turn 104 = .ok (.iconst 1, 1) := by decide +kernel
theorem dX7_turn_105 : decode cX7_turn 105 = .ok (.iload 4, 2) := by decide +kernel
theorem dX7_turn_107 : decode cX7_turn 107 = .ok (.invokevirtual 111, 3) := by decide +kernel
theorem dX7_turn_110 : decode cX7_turn 110 = .ok (.iload 4, 2) := by decide +kernel
theorem dX7_turn_112 : decode cX7_turn 112 = .ok (.ireturn, 1) := by decide +kernel
theorem dX7_remove_0 : decode cX7_remove 0 = .ok (.aload_n 0, 1) := by decide +kernel
theorem dX7_remove_1 : decode cX7_remove 1 = .ok (.getfield 10, 3) := by decide +kernel
theorem dX7_remove_4 : decode cX7_remove 4 = .ok (.iload_n 1, 1) := by decide +kernel
theorem dX7_remove_5 : decode cX7_remove 5 = .ok (.invokevirtual 83, 3) := by decide +kernel
theorem dX7_remove_8 : decode cX7_remove 8 = .ok (.ifCond .ne 13, 3) := by decide +kernel
theorem dX7_remove_11 : decode cX7_remove 11 = .ok (.new 86, 3) := by decide +kernel
theorem dX7_remove_14 : decode cX7_remove 14 = .ok (.dup, 1) := by decide +kernel
theorem dX7_remove_15 : decode cX7_remove 15 = .ok (.ldc 88, 2) := by decide +kernel
theorem dX7_remove_17 : decode cX7_remove 17 = .ok (.invokespecial 90, 3) := by decide +kernel
theorem dX7_remove_20 : decode cX7_remove 20 = .ok (.athrow, 1) := by decide +kernel
theorem dX7_remove_21 : decode cX7_remove 21 = .ok (.aload_n 0, 1) := by decide +kernel
theorem dX7_remove_22 : decode cX7_remove 22 = .ok (.getfield 19, 3) := by decide +kernel
theorem dX7_remove_25 : decode cX7_remove 25 = .ok (.aload_n 0, 1) := by decide +kernel
theorem dX7_remove_26 : decode cX7_remove 26 = .ok (.getfield 10, 3) := by decide +kernel
theorem dX7_remove_29 : decode cX7_remove 29 = .ok (.invokevirtual 76, 3) := by decide +kernel
theorem dX7_remove_32 : decode cX7_remove 32 = .ok (.aload_n 0, 1) := by decide +kernel
theorem dX7_remove_33 : decode cX7_remove 33 = .ok (.getfield 10, 3) := by decide +kernel
theorem dX7_remove_36 : decode cX7_remove 36 = .ok (.iload_n 1, 1) := by decide +kernel
theorem dX7_remove_37 : decode cX7_remove 37 = .ok (.invokevirtual 123, 3) := by decide +kernel
theorem dX7_remove_40 : decode cX7_remove 40 = .ok (.aload_n 0, 1) := by decide +kernel
theorem dX7_remove_41 : decode cX7_remove 41 = .ok (.getfield 10, 3) := by decide +kernel
theorem dX7_remove_44 : decode cX7_remove 44 = .ok (.invokevirtual 67, 3) := by decide +kernel
theorem dX7_remove_47 : decode cX7_remove 47 = .ok (.ireturn, 1) := by decide +kernel
theorem dX7_prune_0 : decode cX7_prune 0 = .ok (.aload_n 0, 1) := by decide +kernel
theorem dX7_prune_1 : decode cX7_prune 1 = .ok (.getfield 49, 3) := by decide +kernel
theorem dX7_prune_4 : decode cX7_prune 4 = .ok (.invokevirtual 127, 3) := by decide +kernel
theorem dX7_prune_7 : decode cX7_prune 7 = .ok (.istore_n 1, 1) := by decide +kernel
theorem dX7_prune_8 : decode cX7_prune 8 = .ok (.aload_n 0, 1) := by decide +kernel
theorem dX7_prune_9 : decode cX7_prune 9 = .ok (.getfield 19, 3) := by decide +kernel
theorem dX7_prune_12 : decode cX7_prune 12 = .ok (.aload_n 0, 1) := by decide +kernel
theorem dX7_prune_13 : decode cX7_prune 13 = .ok (.getfield 10, 3) := by decide +kernel
theorem dX7_prune_16 : decode cX7_prune 16 = .ok (.invokevirtual 76, 3) := by decide +kernel
theorem dX7_prune_19 : decode cX7_prune 19 = .ok (.aload_n 0, 1) := by decide +kernel
theorem dX7_prune_20 : decode cX7_prune 20 = .ok (.getfield 10, 3) := by decide +kernel
theorem dX7_prune_23 : decode cX7_prune 23 = .ok (.invokevirtual 67, 3) := by decide +kernel
theorem dX7_prune_26 : decode cX7_prune 26 = .ok (.iconst 1, 1) := by decide +kernel
theorem dX7_prune_27 : decode cX7_prune 27 = .ok (.isub, 1) := by decide +kernel
theorem dX7_prune_28 : decode cX7_prune 28 = .ok (.istore_n 2, 1) := by decide +kernel
theorem dX7_prune_29 : decode cX7_prune 29 = .ok (.iload_n 2, 1) := by decide +kernel
theorem dX7_prune_30 : decode cX7_prune 30 = .ok (.ifCond .lt 25, 3) := by decide +kernel
theorem dX7_prune_33 : decode cX7_prune 33 = .ok (.iload_n 1, 1) := by decide +kernel
theorem dX7_prune_34 : decode cX7_prune 34 = .ok (.iload_n 2, 1) := by decide +kernel
theorem dX7_prune_35 : decode cX7_prune 35 = .ok (.ishr, 1) := by decide +kernel
theorem dX7_prune_36 : decode cX7_prune 36 = .ok (.iconst 1, 1) := by decide +kernel
theorem dX7_prune_37 : decode cX7_prune 37 = .ok (.iand, 1) := by decide +kernel
theorem dX7_prune_38 : decode cX7_prune 38 = .ok (.ifCond .eq 11, 3) := by decide +kernel
theorem dX7_prune_41 : decode cX7_prune 41 = .ok (.aload_n 0, 1) := by decide +kernel
theorem dX7_prune_42 : decode cX7_prune 42 = .ok (.getfield 10, 3) := by decide +kernel
theorem dX7_prune_45 : decode cX7_prune 45 = .ok (.iload_n 2, 1) := by decide +kernel
theorem dX7_prune_46 : decode cX7_prune 46 = .ok (.invokevirtual 123, 3) := by decide +kernel
theorem dX7_prune_49 : decode cX7_prune 49 = .ok (.iinc 2 (-1), 3) := by decide +kernel
theorem dX7_prune_52 : decode cX7_prune 52 = .ok (.goto (-23), 3) := by decide +kernel
theorem dX7_prune_55 : decode cX7_prune 55 = .ok (.iload_n 1, 1) := by decide +kernel
theorem dX7_prune_56 : decode cX7_prune 56 = .ok (.invokestatic 130, 3) := by decide +kernel
theorem dX7_prune_59 : decode cX7_prune 59 = .ok (.ireturn, 1) := by decide +kernel
theorem dX7_go_0 : decode cX7_go 0 = .ok (.iload_n 1, 1) := by decide +kernel
theorem dX7_go_1 : decode cX7_go 1 = .ok (.invokestatic 136, 3) := by decide +kernel
theorem dX7_go_4 : decode cX7_go 4 = .ok (.ifCond .ne 13, 3) := by decide +kernel
theorem dX7_go_7 : decode cX7_go 7 = .ok (.new 60, 3) := by decide +kernel
theorem dX7_go_10 : decode cX7_go 10 = .ok (.dup, 1) := by decide +kernel
theorem dX7_go_11 : decode cX7_go 11 = .ok (.ldc 139, 2) := by decide +kernel
theorem dX7_go_13 : decode cX7_go 13 = .ok (.invokespecial 64, 3) := by decide +kernel
theorem dX7_go_16 : decode cX7_go 16 = .ok (.athrow, 1) := by decide +kernel
theorem dX7_go_17 : decode cX7_go 17 = .ok (.aload_n 0, 1) := by decide +kernel
theorem dX7_go_18 : decode cX7_go 18 = .ok (.getfield 10, 3) := by decide +kernel
theorem dX7_go_21 : decode cX7_go 21 = .ok (.invokevirtual 141, 3) := by decide +kernel
theorem dX7_go_24 : decode cX7_go 24 = .ok (.istore_n 2, 1) := by decide +kernel
theorem dX7_go_25 : decode cX7_go 25 = .ok (.aload_n 0, 1) := by decide +kernel
theorem dX7_go_26 : decode cX7_go 26 = .ok (.getfield 19, 3) := by decide +kernel
theorem dX7_go_29 : decode cX7_go 29 = .ok (.aload_n 0, 1) := by decide +kernel
theorem dX7_go_30 : decode cX7_go 30 = .ok (.getfield 10, 3) := by decide +kernel
theorem dX7_go_33 : decode cX7_go 33 = .ok (.invokevirtual 76, 3) := by decide +kernel
theorem dX7_go_36 : decode cX7_go 36 = .ok (.aload_n 0, 1) := by decide +kernel
theorem dX7_go_37 : decode cX7_go 37 = .ok (.getfield 10, 3) := by decide +kernel
theorem dX7_go_40 : decode cX7_go 40 = .ok (.iload_n 1, 1) := by decide +kernel
theorem dX7_go_41 : decode cX7_go 41 = .ok (.invokevirtual 144, 3) := by decide +kernel
theorem dX7_go_44 : decode cX7_go 44 = .ok (.iload_n 2, 1) := by decide +kernel
theorem dX7_go_45 : decode cX7_go 45 = .ok (.ireturn, 1) := by decide +kernel
theorem dX7_undo_0 : decode cX7_undo 0 = .ok (.aload_n 0, 1) := by decide +kernel
theorem dX7_undo_1 : decode cX7_undo 1 = .ok (.getfield 19, 3) := by decide +kernel
theorem dX7_undo_4 : decode cX7_undo 4 = .ok (.invokevirtual 177, 3) := by decide +kernel
theorem dX7_undo_7 : decode cX7_undo 7 = .ok (.ifCond .ne 13, 3) := by decide +kernel
theorem dX7_undo_10 : decode cX7_undo 10 = .ok (.new 71, 3) := by decide +kernel
theorem dX7_undo_13 : decode cX7_undo 13 = .ok (.dup, 1) := by decide +kernel
theorem dX7_undo_14 : decode cX7_undo 14 = .ok (.ldc 178, 2) := by decide +kernel
theorem dX7_undo_16 : decode cX7_undo 16 = .ok (.invokespecial 75, 3) := by decide +kernel
theorem dX7_undo_19 : decode cX7_undo 19 = .ok (.athrow, 1) := by decide +kernel
theorem dX7_undo_20 : decode cX7_undo 20 = .ok (.aload_n 0, 1) := by decide +kernel
theorem dX7_undo_21 : decode cX7_undo 21 = .ok (.getfield 19, 3) := by decide +kernel
theorem dX7_undo_24 : decode cX7_undo 24 = .ok (.aload_n 0, 1) := by decide +kernel
theorem dX7_undo_25 : decode cX7_undo 25 = .ok (.getfield 10, 3) := by decide +kernel
theorem dX7_undo_28 : decode cX7_undo 28 = .ok (.invokevirtual 180, 3) := by decide +kernel
theorem dX7_undo_31 : decode cX7_undo 31 = .ok (.aload_n 0, 1) := by decide +kernel
theorem dX7_undo_32 : decode cX7_undo 32 = .ok (.getfield 19, 3) := by decide +kernel
theorem dX7_undo_35 : decode cX7_undo 35 = .ok (.invokevirtual 177, 3) := by decide +kernel
theorem dX7_undo_38 : decode cX7_undo 38 = .ok (.ireturn, 1) := by decide +kernel
theorem dX7_line_0 : decode cX7_line 0 = .ok (.aload_n 0, 1) := by decide +kernel
theorem dX7_line_1 : decode cX7_line 1 = .ok (.getfield 10, 3) := by decide +kernel
theorem dX7_line_4 : decode cX7_line 4 = .ok (.iload_n 1, 1) := by decide +kernel
theorem dX7_line_5 : decode cX7_line 5 = .ok (.invokevirtual 83, 3) := by decide +kernel
theorem dX7_line_8 : decode cX7_line 8 = .ok (.ifCond .ne 13, 3) := by decide +kernel
theorem dX7_line_11 : decode cX7_line 11 = .ok (.new 86, 3) := by decide +kernel
theorem dX7_line_14 : decode cX7_line 14 = .ok (.dup, 1) := by decide +kernel
theorem dX7_line_15 : decode cX7_line 15 = .ok (.ldc 88, 2) := by decide +kernel
theorem dX7_line_17 : decode cX7_line 17 = .ok (.invokespecial 90, 3) := by decide +kernel
theorem dX7_line_20 : decode cX7_line 20 = .ok (.athrow, 1) := by decide +kernel
theorem dX7_line_21 : decode cX7_line 21 = .ok (.iload_n 2, 1) := by decide +kernel
theorem dX7_line_22 : decode cX7_line 22 = .ok (.ifCond .lt 9, 3) := by decide +kernel
theorem dX7_line_25 : decode cX7_line 25 = .ok (.iload_n 2, 1) := by decide +kernel
theorem dX7_line_26 : decode cX7_line 26 = .ok (.bipush 8, 2) := by decide +kernel
theorem dX7_line_28 : decode cX7_line 28 = .ok (.if_icmp .le 13, 3) := by decide +kernel
theorem dX7_line_31 : decode cX7_line 31 = .ok (.new 60, 3) := by decide +kernel
theorem dX7_line_34 : decode cX7_line 34 = .ok (.dup, 1) := by decide +kernel
theorem dX7_line_35 : decode cX7_line 35 = .ok (.ldc 183, 2) := by decide +kernel
theorem dX7_line_37 : decode cX7_line 37 = .ok (.invokespecial 64, 3) := by decide +kernel
theorem dX7_line_40 : decode cX7_line 40 = .ok (.athrow, 1) := by decide +kernel
theorem dX7_line_41 : decode cX7_line 41 = .ok (.iload_n 2, 1) := by decide +kernel
theorem dX7_line_42 : decode cX7_line 42 = .ok (.tableswitch 53 6 8 #[26, 35, 44], 26) := by decide +kernel
theorem dX7_line_68 : decode cX7_line 68 = .ok (.aload_n 0, 1) := by decide +kernel
theorem dX7_line_69 : decode cX7_line 69 = .ok (.getfield 35, 3) := by decide +kernel
theorem dX7_line_72 : decode cX7_line 72 = .ok (.iload_n 1, 1) := by decide +kernel
theorem dX7_line_73 : decode cX7_line 73 = .ok (.invokevirtual 185, 3) := by decide +kernel
theorem dX7_line_76 : decode cX7_line 76 = .ok (.ireturn, 1) := by decide +kernel
theorem dX7_line_77 : decode cX7_line 77 = .ok (.aload_n 0, 1) := by decide +kernel
theorem dX7_line_78 : decode cX7_line 78 = .ok (.getfield 42, 3) := by decide +kernel
theorem dX7_line_81 : decode cX7_line 81 = .ok (.iload_n 1, 1) := by decide +kernel
theorem dX7_line_82 : decode cX7_line 82 = .ok (.invokevirtual 188, 3) := by decide +kernel
theorem dX7_line_85 : decode cX7_line 85 = .ok (.ireturn, 1) := by decide +kernel
theorem dX7_line_86 : decode cX7_line 86 = .ok (.aload_n 0, 1) := by decide +kernel
theorem dX7_line_87 : decode cX7_line 87 = .ok (.getfield 49, 3) := by decide +kernel
theorem dX7_line_90 : decode cX7_line 90 = .ok (.iload_n 1, 1) := by decide +kernel
theorem dX7_line_91 : decode cX7_line 91 = .ok (.invokevirtual 191, 3) := by decide +kernel
theorem dX7_line_94 : decode cX7_line 94 = .ok (.ireturn, 1) := by decide +kernel
theorem dX7_line_95 : decode cX7_line 95 = .ok (.aload_n 0, 1) := by decide +kernel
theorem dX7_line_96 : decode cX7_line 96 = .ok (.getfield 10, 3) := by decide +kernel
theorem dX7_line_99 : decode cX7_line 99 = .ok (.iload_n 1, 1) := by decide +kernel
theorem dX7_line_100 : decode cX7_line 100 = .ok (.iload_n 2, 1) := by decide +kernel
theorem dX7_line_101 : decode cX7_line 101 = .ok (.invokevirtual 105, 3) := by decide +kernel
theorem dX7_line_104 : decode cX7_line 104 = .ok (.ireturn, 1) := by decide +kernel
theorem dX7_lowest_0 : decode cX7_lowest 0 = .ok (.iload_n 1, 1) := by decide +kernel
theorem dX7_lowest_1 : decode cX7_lowest 1 = .ok (.invokestatic 115, 3) := by decide +kernel
theorem dX7_lowest_4 : decode cX7_lowest 4 = .ok (.ifCond .eq 10, 3) := by decide +kernel
theorem dX7_lowest_7 : decode cX7_lowest 7 = .ok (.iload_n 2, 1) := by decide +kernel
theorem dX7_lowest_8 : decode cX7_lowest 8 = .ok (.invokestatic 136, 3) := by decide +kernel
theorem dX7_lowest_11 : decode cX7_lowest 11 = .ok (.ifCond .ne 13, 3) := by decide +kernel
theorem dX7_lowest_14 : decode cX7_lowest 14 = .ok (.new 60, 3) := by decide +kernel
theorem dX7_lowest_17 : decode cX7_lowest 17 = .ok (.dup, 1) := by decide +kernel
theorem dX7_lowest_18 : decode cX7_lowest 18 = .ok (.ldc 194, 2) := by decide +kernel
theorem dX7_lowest_20 : decode cX7_lowest 20 = .ok (.invokespecial 64, 3) := by decide +kernel
theorem dX7_lowest_23 : decode cX7_lowest 23 = .ok (.athrow, 1) := by decide +kernel
theorem dX7_lowest_24 : decode cX7_lowest 24 = .ok (.aload_n 0, 1) := by decide +kernel
theorem dX7_lowest_25 : decode cX7_lowest 25 = .ok (.getfield 10, 3) := by decide +kernel
theorem dX7_lowest_28 : decode cX7_lowest 28 = .ok (.iconst (-1), 1) := by decide +kernel
theorem dX7_lowest_29 : decode cX7_lowest 29 = .ok (.iload_n 1, 1) := by decide +kernel
theorem dX7_lowest_30 : decode cX7_lowest 30 = .ok (.iload_n 2, 1) := by decide +kernel
theorem dX7_lowest_31 : decode cX7_lowest 31 = .ok (.invokevirtual 196, 3) := by decide +kernel
theorem dX7_lowest_34 : decode cX7_lowest 34 = .ok (.ireturn, 1) := by decide +kernel
theorem dX7_value_0 : decode cX7_value 0 = .ok (.iload_n 1, 1) := by decide +kernel
theorem dX7_value_1 : decode cX7_value 1 = .ok (.invokestatic 115, 3) := by decide +kernel
theorem dX7_value_4 : decode cX7_value 4 = .ok (.ifCond .ne 13, 3) := by decide +kernel
theorem dX7_value_7 : decode cX7_value 7 = .ok (.new 60, 3) := by decide +kernel
theorem dX7_value_10 : decode cX7_value 10 = .ok (.dup, 1) := by decide +kernel
theorem dX7_value_11 : decode cX7_value 11 = .ok (.ldc 200, 2) := by decide +kernel
theorem dX7_value_13 : decode cX7_value 13 = .ok (.invokespecial 64, 3) := by decide +kernel
theorem dX7_value_16 : decode cX7_value 16 = .ok (.athrow, 1) := by decide +kernel
theorem dX7_value_17 : decode cX7_value 17 = .ok (.aload_n 0, 1) := by decide +kernel
theorem dX7_value_18 : decode cX7_value 18 = .ok (.getfield 35, 3) := by decide +kernel
theorem dX7_value_21 : decode cX7_value 21 = .ok (.iload_n 1, 1) := by decide +kernel
theorem dX7_value_22 : decode cX7_value 22 = .ok (.invokevirtual 202, 3) := by decide +kernel
theorem dX7_value_25 : decode cX7_value 25 = .ok (.istore_n 2, 1) := by decide +kernel
theorem dX7_value_26 : decode cX7_value 26 = .ok (.iload_n 2, 1) := by decide +kernel
theorem dX7_value_27 : decode cX7_value 27 = .ok (.iconst (-1), 1) := by decide +kernel
theorem dX7_value_28 : decode cX7_value 28 = .ok (.if_icmp .ne 13, 3) := by decide +kernel
theorem dX7_value_31 : decode cX7_value 31 = .ok (.new 71, 3) := by decide +kernel
theorem dX7_value_34 : decode cX7_value 34 = .ok (.dup, 1) := by decide +kernel
theorem dX7_value_35 : decode cX7_value 35 = .ok (.ldc 205, 2) := by decide +kernel
theorem dX7_value_37 : decode cX7_value 37 = .ok (.invokespecial 75, 3) := by decide +kernel
theorem dX7_value_40 : decode cX7_value 40 = .ok (.athrow, 1) := by decide +kernel
theorem dX7_value_41 : decode cX7_value 41 = .ok (.aload_n 0, 1) := by decide +kernel
theorem dX7_value_42 : decode cX7_value 42 = .ok (.getfield 10, 3) := by decide +kernel
theorem dX7_value_45 : decode cX7_value 45 = .ok (.iload_n 2, 1) := by decide +kernel
theorem dX7_value_46 : decode cX7_value 46 = .ok (.iload_n 1, 1) := by decide +kernel
theorem dX7_value_47 : decode cX7_value 47 = .ok (.invokevirtual 120, 3) := by decide +kernel
theorem dX7_value_50 : decode cX7_value 50 = .ok (.ireturn, 1) := by decide +kernel
theorem dX7_ranked_0 : decode cX7_ranked 0 = .ok (.iload_n 1, 1) := by decide +kernel
theorem dX7_ranked_1 : decode cX7_ranked 1 = .ok (.invokestatic 115, 3) := by decide +kernel
theorem dX7_ranked_4 : decode cX7_ranked 4 = .ok (.ifCond .eq 7, 3) := by decide +kernel
theorem dX7_ranked_7 : decode cX7_ranked 7 = .ok (.iload_n 2, 1) := by decide +kernel
theorem dX7_ranked_8 : decode cX7_ranked 8 = .ok (.ifCond .ge 13, 3) := by decide +kernel
theorem dX7_ranked_11 : decode cX7_ranked 11 = .ok (.new 60, 3) := by decide +kernel
theorem dX7_ranked_14 : decode cX7_ranked 14 = .ok (.dup, 1) := by decide +kernel
theorem dX7_ranked_15 : decode cX7_ranked 15 = .ok (.ldc 207, 2) := by decide +kernel
theorem dX7_ranked_17 : decode cX7_ranked 17 = .ok (.invokespecial 64, 3) := by decide +kernel
theorem dX7_ranked_20 : decode cX7_ranked 20 = .ok (.athrow, 1) := by decide +kernel
theorem dX7_ranked_21 : decode cX7_ranked 21 = .ok (.iconst 0, 1) := by decide +kernel
theorem dX7_ranked_22 : decode cX7_ranked 22 = .ok (.istore_n 3, 1) := by decide +kernel
theorem dX7_ranked_23 : decode cX7_ranked 23 = .ok (.iload_n 3, 1) := by decide +kernel
theorem dX7_ranked_24 : decode cX7_ranked 24 = .ok (.aload_n 0, 1) := by decide +kernel
theorem dX7_ranked_25 : decode cX7_ranked 25 = .ok (.getfield 10, 3) := by decide +kernel
theorem dX7_ranked_28 : decode cX7_ranked 28 = .ok (.invokevirtual 67, 3) := by decide +kernel
theorem dX7_ranked_31 : decode cX7_ranked 31 = .ok (.if_icmp .ge 43, 3) := by decide +kernel
theorem dX7_ranked_34 : decode cX7_ranked 34 = .ok (.aload_n 0, 1) := by decide +kernel
theorem dX7_ranked_35 : decode cX7_ranked 35 = .ok (.getfield 10, 3) := by decide +kernel
theorem dX7_ranked_38 : decode cX7_ranked 38 = .ok (.iload_n 3, 1) := by decide +kernel
theorem dX7_ranked_39 : decode cX7_ranked 39 = .ok (.iload_n 1, 1) := by decide +kernel
theorem dX7_ranked_40 : decode cX7_ranked 40 = .ok (.aload_n 0, 1) := by decide +kernel
theorem dX7_ranked_41 : decode cX7_ranked 41 = .ok (.getfield 10, 3) := by decide +kernel
theorem dX7_ranked_44 : decode cX7_ranked 44 = .ok (.invokevirtual 141, 3) := by decide +kernel
theorem dX7_ranked_47 : decode cX7_ranked 47 = .ok (.invokevirtual 209, 3) := by decide +kernel
theorem dX7_ranked_50 : decode cX7_ranked 50 = .ok (.ifCond .eq 18, 3) := by decide +kernel
theorem dX7_ranked_53 : decode cX7_ranked 53 = .ok (.aload_n 0, 1) := by decide +kernel
theorem dX7_ranked_54 : decode cX7_ranked 54 = .ok (.getfield 10, 3) := by decide +kernel
theorem dX7_ranked_57 : decode cX7_ranked 57 = .ok (.iload_n 3, 1) := by decide +kernel
theorem dX7_ranked_58 : decode cX7_ranked 58 = .ok (.iload_n 1, 1) := by decide +kernel
theorem dX7_ranked_59 : decode cX7_ranked 59 = .ok (.invokevirtual 212, 3) := by decide +kernel
theorem dX7_ranked_62 : decode cX7_ranked 62 = .ok (.iload_n 2, 1) := by decide +kernel
theorem dX7_ranked_63 : decode cX7_ranked 63 = .ok (.if_icmp .ne 5, 3) := by decide +kernel
theorem dX7_ranked_66 : decode cX7_ranked 66 = .ok (.iload_n 3, 1) := by decide +kernel
theorem dX7_ranked_67 : decode cX7_ranked 67 = .ok (.ireturn, 1) := by decide +kernel
theorem dX7_ranked_68 : decode cX7_ranked 68 = .ok (.iinc 3 1, 3) := by decide +kernel
theorem dX7_ranked_71 : decode cX7_ranked 71 = .ok (.goto (-48), 3) := by decide +kernel
theorem dX7_ranked_74 : decode cX7_ranked 74 = .ok (.iconst (-1), 1) := by decide +kernel
theorem dX7_ranked_75 : decode cX7_ranked 75 = .ok (.ireturn, 1) := by decide +kernel
theorem dX7_node_0 : decode cX7_node 0 = .ok (.iload_n 1, 1) := by decide +kernel
theorem dX7_node_1 : decode cX7_node 1 = .ok (.iconst 1, 1) := by decide +kernel
theorem dX7_node_2 : decode cX7_node 2 = .ok (.if_icmp .lt 9, 3) := by decide +kernel
theorem dX7_node_5 : decode cX7_node 5 = .ok (.iload_n 1, 1) := by decide +kernel
theorem dX7_node_6 : decode cX7_node 6 = .ok (.bipush 127, 2) := by decide +kernel
theorem dX7_node_8 : decode cX7_node 8 = .ok (.if_icmp .le 13, 3) := by decide +kernel
theorem dX7_node_11 : decode cX7_node 11 = .ok (.new 86, 3) := by decide +kernel
theorem dX7_node_14 : decode cX7_node 14 = .ok (.dup, 1) := by decide +kernel
theorem dX7_node_15 : decode cX7_node 15 = .ok (.ldc 215, 2) := by decide +kernel
theorem dX7_node_17 : decode cX7_node 17 = .ok (.invokespecial 90, 3) := by decide +kernel
theorem dX7_node_20 : decode cX7_node 20 = .ok (.athrow, 1) := by decide +kernel
theorem dX7_node_21 : decode cX7_node 21 = .ok (.iload_n 2, 1) := by decide +kernel
theorem dX7_node_22 : decode cX7_node 22 = .ok (.ifCond .lt 8, 3) := by decide +kernel
theorem dX7_node_25 : decode cX7_node 25 = .ok (.iload_n 2, 1) := by decide +kernel
theorem dX7_node_26 : decode cX7_node 26 = .ok (.iconst 4, 1) := by decide +kernel
theorem dX7_node_27 : decode cX7_node 27 = .ok (.if_icmp .le 13, 3) := by decide +kernel
theorem dX7_node_30 : decode cX7_node 30 = .ok (.new 60, 3) := by decide +kernel
theorem dX7_node_33 : decode cX7_node 33 = .ok (.dup, 1) := by decide +kernel
theorem dX7_node_34 : decode cX7_node 34 = .ok (.ldc 183, 2) := by decide +kernel
theorem dX7_node_36 : decode cX7_node 36 = .ok (.invokespecial 64, 3) := by decide +kernel
theorem dX7_node_39 : decode cX7_node 39 = .ok (.athrow, 1) := by decide +kernel
theorem dX7_node_40 : decode cX7_node 40 = .ok (.iload_n 2, 1) := by decide +kernel
theorem dX7_node_41 : decode cX7_node 41 = .ok (.tableswitch 67 0 3 #[31, 40, 49, 58], 31) := by decide +kernel
theorem dX7_node_72 : decode cX7_node 72 = .ok (.aload_n 0, 1) := by decide +kernel
theorem dX7_node_73 : decode cX7_node 73 = .ok (.getfield 42, 3) := by decide +kernel
theorem dX7_node_76 : decode cX7_node 76 = .ok (.iload_n 1, 1) := by decide +kernel
theorem dX7_node_77 : decode cX7_node 77 = .ok (.invokevirtual 217, 3) := by decide +kernel
theorem dX7_node_80 : decode cX7_node 80 = .ok (.ireturn, 1) := by decide +kernel
theorem dX7_node_81 : decode cX7_node 81 = .ok (.aload_n 0, 1) := by decide +kernel
theorem dX7_node_82 : decode cX7_node 82 = .ok (.getfield 42, 3) := by decide +kernel
theorem dX7_node_85 : decode cX7_node 85 = .ok (.iload_n 1, 1) := by decide +kernel
theorem dX7_node_86 : decode cX7_node 86 = .ok (.invokevirtual 220, 3) := by decide +kernel
theorem dX7_node_89 : decode cX7_node 89 = .ok (.ireturn, 1) := by decide +kernel
theorem dX7_node_90 : decode cX7_node 90 = .ok (.aload_n 0, 1) := by decide +kernel
theorem dX7_node_91 : decode cX7_node 91 = .ok (.getfield 42, 3) := by decide +kernel
theorem dX7_node_94 : decode cX7_node 94 = .ok (.iload_n 1, 1) := by decide +kernel
theorem dX7_node_95 : decode cX7_node 95 = .ok (.invokevirtual 223, 3) := by decide +kernel
theorem dX7_node_98 : decode cX7_node 98 = .ok (.ireturn, 1) := by decide +kernel
theorem dX7_node_99 : decode cX7_node 99 = .ok (.aload_n 0, 1) := by decide +kernel
theorem dX7_node_100 : decode cX7_node 100 = .ok (.getfield 42, 3) := by decide +kernel
theorem dX7_node_103 : decode cX7_node 103 = .ok (.iload_n 1, 1) := by decide +kernel
theorem dX7_node_104 : decode cX7_node 104 = .ok (.invokevirtual 226, 3) := by decide +kernel
theorem dX7_node_107 : decode cX7_node 107 = .ok (.ireturn, 1) := by decide +kernel
theorem dX7_node_108 : decode cX7_node 108 = .ok (.aload_n 0, 1) := by decide +kernel
theorem dX7_node_109 : decode cX7_node 109 = .ok (.getfield 42, 3) := by decide +kernel
theorem dX7_node_112 : decode cX7_node 112 = .ok (.iload_n 1, 1) := by decide +kernel
theorem dX7_node_113 : decode cX7_node 113 = .ok (.invokevirtual 229, 3) := by decide +kernel
theorem dX7_node_116 : decode cX7_node 116 = .ok (.ireturn, 1) := by decide +kernel
theorem dX7_row_0 : decode cX7_row 0 = .ok (.iload_n 1, 1) := by decide +kernel
theorem dX7_row_1 : decode cX7_row 1 = .ok (.ifCond .lt 12, 3) := by decide +kernel
theorem dX7_row_4 : decode cX7_row 4 = .ok (.iload_n 2, 1) := by decide +kernel
theorem dX7_row_5 : decode cX7_row 5 = .ok (.ifCond .lt 8, 3) := by decide +kernel
theorem dX7_row_8 : decode cX7_row 8 = .ok (.iload_n 2, 1) := by decide +kernel
theorem dX7_row_9 : decode cX7_row 9 = .ok (.iconst 2, 1) := by decide +kernel
theorem dX7_row_10 : decode cX7_row 10 = .ok (.if_icmp .le 13, 3) := by decide +kernel
theorem dX7_row_13 : decode cX7_row 13 = .ok (.new 60, 3) := by decide +kernel
theorem dX7_row_16 : decode cX7_row 16 = .ok (.dup, 1) := by decide +kernel
theorem dX7_row_17 : decode cX7_row 17 = .ok (.ldc 232, 2) := by decide +kernel
theorem dX7_row_19 : decode cX7_row 19 = .ok (.invokespecial 64, 3) := by decide +kernel
theorem dX7_row_22 : decode cX7_row 22 = .ok (.athrow, 1) := by decide +kernel
theorem dX7_row_23 : decode cX7_row 23 = .ok (.iload_n 1, 1) := by decide +kernel
theorem dX7_row_24 : decode cX7_row 24 = .ok (.aload_n 0, 1) := by decide +kernel
theorem dX7_row_25 : decode cX7_row 25 = .ok (.getfield 35, 3) := by decide +kernel
theorem dX7_row_28 : decode cX7_row 28 = .ok (.invokevirtual 234, 3) := by decide +kernel
theorem dX7_row_31 : decode cX7_row 31 = .ok (.if_icmp .lt 5, 3) := by decide +kernel
theorem dX7_row_34 : decode cX7_row 34 = .ok (.iconst (-1), 1) := by decide +kernel
theorem dX7_row_35 : decode cX7_row 35 = .ok (.ireturn, 1) := by decide +kernel
theorem dX7_row_36 : decode cX7_row 36 = .ok (.aload_n 0, 1) := by decide +kernel
theorem dX7_row_37 : decode cX7_row 37 = .ok (.getfield 35, 3) := by decide +kernel
theorem dX7_row_40 : decode cX7_row 40 = .ok (.iload_n 1, 1) := by decide +kernel
theorem dX7_row_41 : decode cX7_row 41 = .ok (.invokevirtual 237, 3) := by decide +kernel
theorem dX7_row_44 : decode cX7_row 44 = .ok (.istore_n 3, 1) := by decide +kernel
theorem dX7_row_45 : decode cX7_row 45 = .ok (.iload_n 2, 1) := by decide +kernel
theorem dX7_row_46 : decode cX7_row 46 = .ok (.lookupswitch 41 #[(0, 26), (1, 28)], 26) := by decide +kernel
theorem dX7_row_72 : decode cX7_row 72 = .ok (.iload_n 3, 1) := by decide +kernel
theorem dX7_row_73 : decode cX7_row 73 = .ok (.ireturn, 1) := by decide +kernel
theorem dX7_row_74 : decode cX7_row 74 = .ok (.aload_n 0, 1) := by decide +kernel
theorem dX7_row_75 : decode cX7_row 75 = .ok (.getfield 35, 3) := by decide +kernel
theorem dX7_row_78 : decode cX7_row 78 = .ok (.iload_n 1, 1) := by decide +kernel
theorem dX7_row_79 : decode cX7_row 79 = .ok (.iconst 1, 1) := by decide +kernel
theorem dX7_row_80 : decode cX7_row 80 = .ok (.iadd, 1) := by decide +kernel
theorem dX7_row_81 : decode cX7_row 81 = .ok (.invokevirtual 237, 3) := by decide +kernel
theorem dX7_row_84 : decode cX7_row 84 = .ok (.iload_n 3, 1) := by decide +kernel
theorem dX7_row_85 : decode cX7_row 85 = .ok (.isub, 1) := by decide +kernel
theorem dX7_row_86 : decode cX7_row 86 = .ok (.ireturn, 1) := by decide +kernel
theorem dX7_row_87 : decode cX7_row 87 = .ok (.aload_n 0, 1) := by decide +kernel
theorem dX7_row_88 : decode cX7_row 88 = .ok (.getfield 35, 3) := by decide +kernel
theorem dX7_row_91 : decode cX7_row 91 = .ok (.iload_n 3, 1) := by decide +kernel
theorem dX7_row_92 : decode cX7_row 92 = .ok (.invokevirtual 202, 3) := by decide +kernel
theorem dX7_row_95 : decode cX7_row 95 = .ok (.ireturn, 1) := by decide +kernel
theorem dX7_sum_0 : decode cX7_sum 0 = .ok (.iload_n 1, 1) := by decide +kernel
theorem dX7_sum_1 : decode cX7_sum 1 = .ok (.iload_n 2, 1) := by decide +kernel
theorem dX7_sum_2 : decode cX7_sum 2 = .ok (.bipush 64, 2) := by decide +kernel
theorem dX7_sum_4 : decode cX7_sum 4 = .ok (.invokestatic 91, 3) := by decide +kernel
theorem dX7_sum_7 : decode cX7_sum 7 = .ok (.ifCond .ne 13, 3) := by decide +kernel
theorem dX7_sum_10 : decode cX7_sum 10 = .ok (.new 60, 3) := by decide +kernel
theorem dX7_sum_13 : decode cX7_sum 13 = .ok (.dup, 1) := by decide +kernel
theorem dX7_sum_14 : decode cX7_sum 14 = .ok (.ldc 95, 2) := by decide +kernel
theorem dX7_sum_16 : decode cX7_sum 16 = .ok (.invokespecial 64, 3) := by decide +kernel
theorem dX7_sum_19 : decode cX7_sum 19 = .ok (.athrow, 1) := by decide +kernel
theorem dX7_sum_20 : decode cX7_sum 20 = .ok (.iconst 0, 1) := by decide +kernel
theorem dX7_sum_21 : decode cX7_sum 21 = .ok (.istore_n 3, 1) := by decide +kernel
theorem dX7_sum_22 : decode cX7_sum 22 = .ok (.iload_n 1, 1) := by decide +kernel
theorem dX7_sum_23 : decode cX7_sum 23 = .ok (.istore 4, 2) := by decide +kernel
theorem dX7_sum_25 : decode cX7_sum 25 = .ok (.iload 4, 2) := by decide +kernel
theorem dX7_sum_27 : decode cX7_sum 27 = .ok (.iload_n 2, 1) := by decide +kernel
theorem dX7_sum_28 : decode cX7_sum 28 = .ok (.if_icmp .gt 40, 3) := by decide +kernel
theorem dX7_sum_31 : decode cX7_sum 31 = .ok (.aload_n 0, 1) := by decide +kernel
theorem dX7_sum_32 : decode cX7_sum 32 = .ok (.getfield 35, 3) := by decide +kernel
theorem dX7_sum_35 : decode cX7_sum 35 = .ok (.iload 4, 2) := by decide +kernel
theorem dX7_sum_37 : decode cX7_sum 37 = .ok (.invokevirtual 202, 3) := by decide +kernel
theorem dX7_sum_40 : decode cX7_sum 40 = .ok (.istore 5, 2) := by decide +kernel
theorem dX7_sum_42 : decode cX7_sum 42 = .ok (.iload 5, 2) := by decide +kernel
theorem dX7_sum_44 : decode cX7_sum 44 = .ok (.iconst (-1), 1) := by decide +kernel
theorem dX7_sum_45 : decode cX7_sum 45 = .ok (.if_icmp .eq 17, 3) := by decide +kernel
theorem dX7_sum_48 : decode cX7_sum 48 = .ok (.iload_n 3, 1) := by decide +kernel
theorem dX7_sum_49 : decode cX7_sum 49 = .ok (.aload_n 0, 1) := by decide +kernel
theorem dX7_sum_50 : decode cX7_sum 50 = .ok (.getfield 10, 3) := by decide +kernel
theorem dX7_sum_53 : decode cX7_sum 53 = .ok (.iload 5, 2) := by decide +kernel
theorem dX7_sum_55 : decode cX7_sum 55 = .ok (.iload 4, 2) := by decide +kernel
theorem dX7_sum_57 : decode cX7_sum 57 = .ok (.invokevirtual 120, 3) := by decide +kernel
theorem dX7_sum_60 : decode cX7_sum 60 = .ok (.iadd, 1) := by decide +kernel
theorem dX7_sum_61 : decode cX7_sum 61 = .ok (.istore_n 3, 1) := by decide +kernel
theorem dX7_sum_62 : decode cX7_sum 62 = .ok (.iinc 4 1, 3) := by decide +kernel
theorem dX7_sum_65 : decode cX7_sum 65 = .ok (.goto (-40), 3) := by decide +kernel
theorem dX7_sum_68 : decode cX7_sum 68 = .ok (.iload_n 3, 1) := by decide +kernel
theorem dX7_sum_69 : decode cX7_sum 69 = .ok (.ireturn, 1) := by decide +kernel
theorem dX7_count_0 : decode cX7_count 0 = .ok (.iload_n 1, 1) := by decide +kernel
theorem dX7_count_1 : decode cX7_count 1 = .ok (.tableswitch 131 0 8 #[51, 59, 67, 75, 83, 92, 100, 112, 123], 51) := by decide +kernel
theorem dX7_count_52 : decode cX7_count 52 = .ok (.aload_n 0, 1) := by decide +kernel
theorem dX7_count_53 : decode cX7_count 53 = .ok (.getfield 10, 3) := by decide +kernel
theorem dX7_count_56 : decode cX7_count 56 = .ok (.invokevirtual 141, 3) := by decide +kernel
theorem dX7_count_59 : decode cX7_count 59 = .ok (.ireturn, 1) := by decide +kernel
theorem dX7_count_60 : decode cX7_count 60 = .ok (.aload_n 0, 1) := by decide +kernel
theorem dX7_count_61 : decode cX7_count 61 = .ok (.getfield 10, 3) := by decide +kernel
theorem dX7_count_64 : decode cX7_count 64 = .ok (.invokevirtual 67, 3) := by decide +kernel
theorem dX7_count_67 : decode cX7_count 67 = .ok (.ireturn, 1) := by decide +kernel
theorem dX7_count_68 : decode cX7_count 68 = .ok (.aload_n 0, 1) := by decide +kernel
theorem dX7_count_69 : decode cX7_count 69 = .ok (.getfield 10, 3) := by decide +kernel
theorem dX7_count_72 : decode cX7_count 72 = .ok (.invokevirtual 240, 3) := by decide +kernel
theorem dX7_count_75 : decode cX7_count 75 = .ok (.ireturn, 1) := by decide +kernel
theorem dX7_count_76 : decode cX7_count 76 = .ok (.aload_n 0, 1) := by decide +kernel
theorem dX7_count_77 : decode cX7_count 77 = .ok (.getfield 35, 3) := by decide +kernel
theorem dX7_count_80 : decode cX7_count 80 = .ok (.invokevirtual 234, 3) := by decide +kernel
theorem dX7_count_83 : decode cX7_count 83 = .ok (.ireturn, 1) := by decide +kernel
theorem dX7_count_84 : decode cX7_count 84 = .ok (.aload_n 0, 1) := by decide +kernel
theorem dX7_count_85 : decode cX7_count 85 = .ok (.getfield 35, 3) := by decide +kernel
theorem dX7_count_88 : decode cX7_count 88 = .ok (.iconst (-1), 1) := by decide +kernel
theorem dX7_count_89 : decode cX7_count 89 = .ok (.invokevirtual 185, 3) := by decide +kernel
theorem dX7_count_92 : decode cX7_count 92 = .ok (.ireturn, 1) := by decide +kernel
theorem dX7_count_93 : decode cX7_count 93 = .ok (.aload_n 0, 1) := by decide +kernel
theorem dX7_count_94 : decode cX7_count 94 = .ok (.getfield 42, 3) := by decide +kernel
theorem dX7_count_97 : decode cX7_count 97 = .ok (.invokevirtual 243, 3) := by decide +kernel
theorem dX7_count_100 : decode cX7_count 100 = .ok (.ireturn, 1) := by decide +kernel
theorem dX7_count_101 : decode cX7_count 101 = .ok (.bipush 127, 2) := by decide +kernel
theorem dX7_count_103 : decode cX7_count 103 = .ok (.aload_n 0, 1) := by decide +kernel
theorem dX7_count_104 : decode cX7_count 104 = .ok (.getfield 42, 3) := by decide +kernel
theorem dX7_count_107 : decode cX7_count 107 = .ok (.iconst (-1), 1) := by decide +kernel
theorem dX7_count_108 : decode cX7_count 108 = .ok (.invokevirtual 188, 3) := by decide +kernel
theorem dX7_count_111 : decode cX7_count 111 = .ok (.isub, 1) := by decide +kernel
theorem dX7_count_112 : decode cX7_count 112 = .ok (.ireturn, 1) := by decide +kernel
theorem dX7_count_113 : decode cX7_count 113 = .ok (.aload_n 0, 1) := by decide +kernel
theorem dX7_count_114 : decode cX7_count 114 = .ok (.getfield 49, 3) := by decide +kernel
theorem dX7_count_117 : decode cX7_count 117 = .ok (.invokevirtual 127, 3) := by decide +kernel
theorem dX7_count_120 : decode cX7_count 120 = .ok (.invokestatic 130, 3) := by decide +kernel
theorem dX7_count_123 : decode cX7_count 123 = .ok (.ireturn, 1) := by decide +kernel
theorem dX7_count_124 : decode cX7_count 124 = .ok (.aload_n 0, 1) := by decide +kernel
theorem dX7_count_125 : decode cX7_count 125 = .ok (.getfield 19, 3) := by decide +kernel
theorem dX7_count_128 : decode cX7_count 128 = .ok (.invokevirtual 177, 3) := by decide +kernel
theorem dX7_count_131 : decode cX7_count 131 = .ok (.ireturn, 1) := by decide +kernel
theorem dX7_count_132 : decode cX7_count 132 = .ok (.new 60, 3) := by decide +kernel
theorem dX7_count_135 : decode cX7_count 135 = .ok (.dup, 1) := by decide +kernel
theorem dX7_count_136 : decode cX7_count 136 = .ok (.ldc 246, 2) := by decide +kernel
theorem dX7_count_138 : decode cX7_count 138 = .ok (.invokespecial 64, 3) := by decide +kernel
theorem dX7_count_141 : decode cX7_count 141 = .ok (.athrow, 1) := by decide +kernel
theorem dX7_worth_0 : decode cX7_worth 0 = .ok (.aload_n 0, 1) := by decide +kernel
theorem dX7_worth_1 : decode cX7_worth 1 = .ok (.getfield 10, 3) := by decide +kernel
theorem dX7_worth_4 : decode cX7_worth 4 = .ok (.iload_n 1, 1) := by decide +kernel
theorem dX7_worth_5 : decode cX7_worth 5 = .ok (.invokevirtual 83, 3) := by decide +kernel
theorem dX7_worth_8 : decode cX7_worth 8 = .ok (.ifCond .ne 13, 3) := by decide +kernel
theorem dX7_worth_11 : decode cX7_worth 11 = .ok (.new 86, 3) := by decide +kernel
theorem dX7_worth_14 : decode cX7_worth 14 = .ok (.dup, 1) := by decide +kernel
theorem dX7_worth_15 : decode cX7_worth 15 = .ok (.ldc 88, 2) := by decide +kernel
theorem dX7_worth_17 : decode cX7_worth 17 = .ok (.invokespecial 90, 3) := by decide +kernel
theorem dX7_worth_20 : decode cX7_worth 20 = .ok (.athrow, 1) := by decide +kernel
theorem dX7_worth_21 : decode cX7_worth 21 = .ok (.iconst 0, 1) := by decide +kernel
theorem dX7_worth_22 : decode cX7_worth 22 = .ok (.istore_n 2, 1) := by decide +kernel
theorem dX7_worth_23 : decode cX7_worth 23 = .ok (.iconst 0, 1) := by decide +kernel
theorem dX7_worth_24 : decode cX7_worth 24 = .ok (.istore_n 3, 1) := by decide +kernel
theorem dX7_worth_25 : decode cX7_worth 25 = .ok (.iload_n 3, 1) := by decide +kernel
theorem dX7_worth_26 : decode cX7_worth 26 = .ok (.bipush 64, 2) := by decide +kernel
theorem dX7_worth_28 : decode cX7_worth 28 = .ok (.if_icmp .ge 70, 3) := by decide +kernel
theorem dX7_worth_31 : decode cX7_worth 31 = .ok (.aload_n 0, 1) := by decide +kernel
theorem dX7_worth_32 : decode cX7_worth 32 = .ok (.getfield 35, 3) := by decide +kernel
theorem dX7_worth_35 : decode cX7_worth 35 = .ok (.iload_n 3, 1) := by decide +kernel
theorem dX7_worth_36 : decode cX7_worth 36 = .ok (.invokevirtual 202, 3) := by decide +kernel
theorem dX7_worth_39 : decode cX7_worth 39 = .ok (.iload_n 1, 1) := by decide +kernel
theorem dX7_worth_40 : decode cX7_worth 40 = .ok (.if_icmp .ne 52, 3) := by decide +kernel
theorem dX7_worth_43 : decode cX7_worth 43 = .ok (.aload_n 0, 1) := by decide +kernel
theorem dX7_worth_44 : decode cX7_worth 44 = .ok (.getfield 10, 3) := by decide +kernel
theorem dX7_worth_47 : decode cX7_worth 47 = .ok (.iload_n 1, 1) := by decide +kernel
theorem dX7_worth_48 : decode cX7_worth 48 = .ok (.iload_n 3, 1) := by decide +kernel
theorem dX7_worth_49 : decode cX7_worth 49 = .ok (.aload_n 0, 1) := by decide +kernel
theorem dX7_worth_50 : decode cX7_worth 50 = .ok (.getfield 10, 3) := by decide +kernel
theorem dX7_worth_53 : decode cX7_worth 53 = .ok (.invokevirtual 141, 3) := by decide +kernel
theorem dX7_worth_56 : decode cX7_worth 56 = .ok (.invokevirtual 196, 3) := by decide +kernel
theorem dX7_worth_59 : decode cX7_worth 59 = .ok (.istore 4, 2) := by decide +kernel
theorem dX7_worth_61 : decode cX7_worth 61 = .ok (.iload 4, 2) := by decide +kernel
theorem dX7_worth_63 : decode cX7_worth 63 = .ok (.iconst (-1), 1) := by decide +kernel
theorem dX7_worth_64 : decode cX7_worth 64 = .ok (.if_icmp .ne 5, 3) := by decide +kernel
theorem dX7_worth_67 : decode cX7_worth 67 = .ok (.iconst (-1), 1) := by decide +kernel
theorem dX7_worth_68 : decode cX7_worth 68 = .ok (.ireturn, 1) := by decide +kernel
theorem dX7_worth_69 : decode cX7_worth 69 = .ok (.iload_n 2, 1) := by decide +kernel
theorem dX7_worth_70 : decode cX7_worth 70 = .ok (.aload_n 0, 1) := by decide +kernel
theorem dX7_worth_71 : decode cX7_worth 71 = .ok (.getfield 10, 3) := by decide +kernel
theorem dX7_worth_74 : decode cX7_worth 74 = .ok (.iload 4, 2) := by decide +kernel
theorem dX7_worth_76 : decode cX7_worth 76 = .ok (.iload_n 3, 1) := by decide +kernel
theorem dX7_worth_77 : decode cX7_worth 77 = .ok (.invokevirtual 120, 3) := by decide +kernel
theorem dX7_worth_80 : decode cX7_worth 80 = .ok (.aload_n 0, 1) := by decide +kernel
theorem dX7_worth_81 : decode cX7_worth 81 = .ok (.getfield 10, 3) := by decide +kernel
theorem dX7_worth_84 : decode cX7_worth 84 = .ok (.iload_n 1, 1) := by decide +kernel
theorem dX7_worth_85 : decode cX7_worth 85 = .ok (.iload_n 3, 1) := by decide +kernel
theorem dX7_worth_86 : decode cX7_worth 86 = .ok (.invokevirtual 120, 3) := by decide +kernel
theorem dX7_worth_89 : decode cX7_worth 89 = .ok (.isub, 1) := by decide +kernel
theorem dX7_worth_90 : decode cX7_worth 90 = .ok (.iadd, 1) := by decide +kernel
theorem dX7_worth_91 : decode cX7_worth 91 = .ok (.istore_n 2, 1) := by decide +kernel
theorem dX7_worth_92 : decode cX7_worth 92 = .ok (.iinc 3 1, 3) := by decide +kernel
theorem dX7_worth_95 : decode cX7_worth 95 = .ok (.goto (-70), 3) := by decide +kernel
theorem dX7_worth_98 : decode cX7_worth 98 = .ok (.iload_n 2, 1) := by decide +kernel
theorem dX7_worth_99 : decode cX7_worth 99 = .ok (.ireturn, 1) := by decide +kernel
theorem dX7_mean_0 : decode cX7_mean 0 = .ok (.bipush 64, 2) := by decide +kernel
theorem dX7_mean_2 : decode cX7_mean 2 = .ok (.aload_n 0, 1) := by decide +kernel
theorem dX7_mean_3 : decode cX7_mean 3 = .ok (.getfield 35, 3) := by decide +kernel
theorem dX7_mean_6 : decode cX7_mean 6 = .ok (.iconst (-1), 1) := by decide +kernel
theorem dX7_mean_7 : decode cX7_mean 7 = .ok (.invokevirtual 185, 3) := by decide +kernel
theorem dX7_mean_10 : decode cX7_mean 10 = .ok (.isub, 1) := by decide +kernel
theorem dX7_mean_11 : decode cX7_mean 11 = .ok (.istore_n 1, 1) := by decide +kernel
theorem dX7_mean_12 : decode cX7_mean 12 = .ok (.iload_n 1, 1) := by decide +kernel
theorem dX7_mean_13 : decode cX7_mean 13 = .ok (.ifCond .ne 5, 3) := by decide +kernel
theorem dX7_mean_16 : decode cX7_mean 16 = .ok (.dconst 0, 1) := by decide +kernel
theorem dX7_mean_17 : decode cX7_mean 17 = .ok (.dreturn, 1) := by decide +kernel
theorem dX7_mean_18 : decode cX7_mean 18 = .ok (.aload_n 0, 1) := by decide +kernel
theorem dX7_mean_19 : decode cX7_mean 19 = .ok (.iconst 0, 1) := by decide +kernel
theorem dX7_mean_20 : decode cX7_mean 20 = .ok (.bipush 63, 2) := by decide +kernel
theorem dX7_mean_22 : decode cX7_mean 22 = .ok (.invokevirtual 267, 3) := by decide +kernel
theorem dX7_mean_25 : decode cX7_mean 25 = .ok (.i2d, 1) := by decide +kernel
theorem dX7_mean_26 : decode cX7_mean 26 = .ok (.iload_n 1, 1) := by decide +kernel
theorem dX7_mean_27 : decode cX7_mean 27 = .ok (.i2d, 1) := by decide +kernel
theorem dX7_mean_28 : decode cX7_mean 28 = .ok (.ddiv, 1) := by decide +kernel
theorem dX7_mean_29 : decode cX7_mean 29 = .ok (.dreturn, 1) := by decide +kernel
theorem dX7_isPlace_0 : decode cX7_isPlace 0 = .ok (.iload_n 0, 1) := by decide +kernel
theorem dX7_isPlace_1 : decode cX7_isPlace 1 = .ok (.ifCond .lt 13, 3) := by decide +kernel
theorem dX7_isPlace_4 : decode cX7_isPlace 4 = .ok (.iload_n 0, 1) := by decide +kernel
theorem dX7_isPlace_5 : decode cX7_isPlace 5 = .ok (.bipush 64, 2) := by decide +kernel
theorem dX7_isPlace_7 : decode cX7_isPlace 7 = .ok (.if_icmp .ge 7, 3) := by decide +kernel
theorem dX7_isPlace_10 : decode cX7_isPlace 10 = .ok (.iconst 1, 1) := by decide +kernel
theorem dX7_isPlace_11 : decode cX7_isPlace 11 = .ok (.goto 4, 3) := by decide +kernel
theorem dX7_isPlace_14 : decode cX7_isPlace 14 = .ok (.iconst 0, 1) := by decide +kernel
theorem dX7_isPlace_15 : decode cX7_isPlace 15 = .ok (.ireturn, 1) := by decide +kernel
theorem dX7_isMoment_0 : decode cX7_isMoment 0 = .ok (.iload_n 0, 1) := by decide +kernel
theorem dX7_isMoment_1 : decode cX7_isMoment 1 = .ok (.ifCond .lt 13, 3) := by decide +kernel
theorem dX7_isMoment_4 : decode cX7_isMoment 4 = .ok (.iload_n 0, 1) := by decide +kernel
theorem dX7_isMoment_5 : decode cX7_isMoment 5 = .ok (.bipush 100, 2) := by decide +kernel
theorem dX7_isMoment_7 : decode cX7_isMoment 7 = .ok (.if_icmp .ge 7, 3) := by decide +kernel
theorem dX7_isMoment_10 : decode cX7_isMoment 10 = .ok (.iconst 1, 1) := by decide +kernel
theorem dX7_isMoment_11 : decode cX7_isMoment 11 = .ok (.goto 4, 3) := by decide +kernel
theorem dX7_isMoment_14 : decode cX7_isMoment 14 = .ok (.iconst 0, 1) := by decide +kernel
theorem dX7_isMoment_15 : decode cX7_isMoment 15 = .ok (.ireturn, 1) := by decide +kernel
theorem dX7_isSlope_0 : decode cX7_isSlope 0 = .ok (.iload_n 0, 1) := by decide +kernel
theorem dX7_isSlope_1 : decode cX7_isSlope 1 = .ok (.bipush (-99), 2) := by decide +kernel
theorem dX7_isSlope_3 : decode cX7_isSlope 3 = .ok (.if_icmp .lt 13, 3) := by decide +kernel
theorem dX7_isSlope_6 : decode cX7_isSlope 6 = .ok (.iload_n 0, 1) := by decide +kernel
theorem dX7_isSlope_7 : decode cX7_isSlope 7 = .ok (.bipush 99, 2) := by decide +kernel
theorem dX7_isSlope_9 : decode cX7_isSlope 9 = .ok (.if_icmp .gt 7, 3) := by decide +kernel
theorem dX7_isSlope_12 : decode cX7_isSlope 12 = .ok (.iconst 1, 1) := by decide +kernel
theorem dX7_isSlope_13 : decode cX7_isSlope 13 = .ok (.goto 4, 3) := by decide +kernel
theorem dX7_isSlope_16 : decode cX7_isSlope 16 = .ok (.iconst 0, 1) := by decide +kernel
theorem dX7_isSlope_17 : decode cX7_isSlope 17 = .ok (.ireturn, 1) := by decide +kernel
theorem dX7_isOffset_0 : decode cX7_isOffset 0 = .ok (.iload_n 0, 1) := by decide +kernel
theorem dX7_isOffset_1 : decode cX7_isOffset 1 = .ok (.sipush (-9999), 3) := by decide +kernel
theorem dX7_isOffset_4 : decode cX7_isOffset 4 = .ok (.if_icmp .lt 14, 3) := by decide +kernel
theorem dX7_isOffset_7 : decode cX7_isOffset 7 = .ok (.iload_n 0, 1) := by decide +kernel
theorem dX7_isOffset_8 : decode cX7_isOffset 8 = .ok (.sipush 9999, 3) := by decide +kernel
theorem dX7_isOffset_11 : decode cX7_isOffset 11 = .ok (.if_icmp .gt 7, 3) := by decide +kernel
theorem dX7_isOffset_14 : decode cX7_isOffset 14 = .ok (.iconst 1, 1) := by decide +kernel
theorem dX7_isOffset_15 : decode cX7_isOffset 15 = .ok (.goto 4, 3) := by decide +kernel
theorem dX7_isOffset_18 : decode cX7_isOffset 18 = .ok (.iconst 0, 1) := by decide +kernel
theorem dX7_isOffset_19 : decode cX7_isOffset 19 = .ok (.ireturn, 1) := by decide +kernel
theorem dX7_isStretch_0 : decode cX7_isStretch 0 = .ok (.iload_n 0, 1) := by decide +kernel
theorem dX7_isStretch_1 : decode cX7_isStretch 1 = .ok (.ifCond .lt 17, 3) := by decide +kernel
theorem dX7_isStretch_4 : decode cX7_isStretch 4 = .ok (.iload_n 0, 1) := by decide +kernel
theorem dX7_isStretch_5 : decode cX7_isStretch 5 = .ok (.iload_n 1, 1) := by decide +kernel
theorem dX7_isStretch_6 : decode cX7_isStretch 6 = .ok (.if_icmp .gt 12, 3) := by decide +kernel
theorem dX7_isStretch_9 : decode cX7_isStretch 9 = .ok (.iload_n 1, 1) := by decide +kernel
theorem dX7_isStretch_10 : decode cX7_isStretch 10 = .ok (.iload_n 2, 1) := by decide +kernel
theorem dX7_isStretch_11 : decode cX7_isStretch 11 = .ok (.if_icmp .ge 7, 3) := by decide +kernel
theorem dX7_isStretch_14 : decode cX7_isStretch 14 = .ok (.iconst 1, 1) := by decide +kernel
theorem dX7_isStretch_15 : decode cX7_isStretch 15 = .ok (.goto 4, 3) := by decide +kernel
theorem dX7_isStretch_18 : decode cX7_isStretch 18 = .ok (.iconst 0, 1) := by decide +kernel
theorem dX7_isStretch_19 : decode cX7_isStretch 19 = .ok (.ireturn, 1) := by decide +kernel
theorem dX7_changeStretch_0 : decode cX7_changeStretch 0 = .ok (.aload_n 0, 1) := by decide +kernel
theorem dX7_changeStretch_1 : decode cX7_changeStretch 1 = .ok (.getfield 10, 3) := by decide +kernel
theorem dX7_changeStretch_4 : decode cX7_changeStretch 4 = .ok (.iload_n 1, 1) := by decide +kernel
theorem dX7_changeStretch_5 : decode cX7_changeStretch 5 = .ok (.iload 4, 2) := by decide +kernel
theorem dX7_changeStretch_7 : decode cX7_changeStretch 7 = .ok (.invokevirtual 105, 3) := by decide +kernel
theorem dX7_changeStretch_10 : decode cX7_changeStretch 10 = .ok (.aload_n 0, 1) := by decide +kernel
theorem dX7_changeStretch_11 : decode cX7_changeStretch 11 = .ok (.getfield 10, 3) := by decide +kernel
theorem dX7_changeStretch_14 : decode cX7_changeStretch 14 = .ok (.iload_n 1, 1) := by decide +kernel
theorem dX7_changeStretch_15 : decode cX7_changeStretch 15 = .ok (.iload_n 2, 1) := by decide +kernel
theorem dX7_changeStretch_16 : decode cX7_changeStretch 16 = .ok (.invokevirtual 105, 3) := by decide +kernel
theorem dX7_changeStretch_19 : decode cX7_changeStretch 19 = .ok (.isub, 1) := by decide +kernel
theorem dX7_changeStretch_20 : decode cX7_changeStretch 20 = .ok (.iconst 1, 1) := by decide +kernel
theorem dX7_changeStretch_21 : decode cX7_changeStretch 21 = .ok (.iadd, 1) := by decide +kernel
theorem dX7_changeStretch_22 : decode cX7_changeStretch 22 = .ok (.istore 6, 2) := by decide +kernel
theorem dX7_changeStretch_24 : decode cX7_changeStretch 24 = .ok (.aload_n 0, 1) := by decide +kernel
theorem dX7_changeStretch_25 : decode cX7_changeStretch 25 = .ok (.getfield 19, 3) := by decide +kernel
theorem dX7_changeStretch_28 : decode cX7_changeStretch 28 = .ok (.aload_n 0, 1) := by decide +kernel
theorem dX7_changeStretch_29 : decode cX7_changeStretch 29 = .ok (.getfield 10, 3) := by decide +kernel
theorem dX7_changeStretch_32 : decode cX7_changeStretch 32 = .ok (.invokevirtual 76, 3) := by decide +kernel
theorem dX7_changeStretch_35 : decode cX7_changeStretch 35 = .ok (.aload_n 0, 1) := by decide +kernel
theorem dX7_changeStretch_36 : decode cX7_changeStretch 36 = .ok (.getfield 10, 3) := by decide +kernel
theorem dX7_changeStretch_39 : decode cX7_changeStretch 39 = .ok (.iload_n 1, 1) := by decide +kernel
theorem dX7_changeStretch_40 : decode cX7_changeStretch 40 = .ok (.iload_n 2, 1) := by decide +kernel
theorem dX7_changeStretch_41 : decode cX7_changeStretch 41 = .ok (.iload_n 3, 1) := by decide +kernel
theorem dX7_changeStretch_42 : decode cX7_changeStretch 42 = .ok (.invokevirtual 111, 3) := by decide +kernel
theorem dX7_changeStretch_45 : decode cX7_changeStretch 45 = .ok (.aload_n 0, 1) := by decide +kernel
theorem dX7_changeStretch_46 : decode cX7_changeStretch 46 = .ok (.getfield 10, 3) := by decide +kernel
theorem dX7_changeStretch_49 : decode cX7_changeStretch 49 = .ok (.iload_n 1, 1) := by decide +kernel
theorem dX7_changeStretch_50 : decode cX7_changeStretch 50 = .ok (.iload 4, 2) := by decide +kernel
theorem dX7_changeStretch_52 : decode cX7_changeStretch 52 = .ok (.iload 5, 2) := by decide +kernel
theorem dX7_changeStretch_54 : decode cX7_changeStretch 54 = .ok (.invokevirtual 111, 3) := by decide +kernel
theorem dX7_changeStretch_57 : decode cX7_changeStretch 57 = .ok (.iload 6, 2) := by decide +kernel
theorem dX7_changeStretch_59 : decode cX7_changeStretch 59 = .ok (.ireturn, 1) := by decide +kernel
theorem dJ6_bitCount_0f7a4_0 : decode cJ6_bitCount_0f7a4 0 = .ok (.iload_n 0, 1) := by decide +kernel
theorem dJ6_bitCount_0f7a4_1 : decode cJ6_bitCount_0f7a4 1 = .ok (.iload_n 0, 1) := by decide +kernel
theorem dJ6_bitCount_0f7a4_2 : decode cJ6_bitCount_0f7a4 2 = .ok (.iconst 1, 1) := by decide +kernel
theorem dJ6_bitCount_0f7a4_3 : decode cJ6_bitCount_0f7a4 3 = .ok (.iushr, 1) := by decide +kernel
theorem dJ6_bitCount_0f7a4_4 : decode cJ6_bitCount_0f7a4 4 = .ok (.ldc_w 265, 3) := by decide +kernel
theorem dJ6_bitCount_0f7a4_7 : decode cJ6_bitCount_0f7a4 7 = .ok (.iand, 1) := by decide +kernel
theorem dJ6_bitCount_0f7a4_8 : decode cJ6_bitCount_0f7a4 8 = .ok (.isub, 1) := by decide +kernel
theorem dJ6_bitCount_0f7a4_9 : decode cJ6_bitCount_0f7a4 9 = .ok (.istore_n 0, 1) := by decide +kernel
theorem dJ6_bitCount_0f7a4_10 : decode cJ6_bitCount_0f7a4 10 = .ok (.iload_n 0, 1) := by decide +kernel
theorem dJ6_bitCount_0f7a4_11 : decode cJ6_bitCount_0f7a4 11 = .ok (.ldc_w 266, 3) := by decide +kernel
theorem dJ6_bitCount_0f7a4_14 : decode cJ6_bitCount_0f7a4 14 = .ok (.iand, 1) := by decide +kernel
theorem dJ6_bitCount_0f7a4_15 : decode cJ6_bitCount_0f7a4 15 = .ok (.iload_n 0, 1) := by decide +kernel
theorem dJ6_bitCount_0f7a4_16 : decode cJ6_bitCount_0f7a4 16 = .ok (.iconst 2, 1) := by decide +kernel
theorem dJ6_bitCount_0f7a4_17 : decode cJ6_bitCount_0f7a4 17 = .ok (.iushr, 1) := by decide +kernel
theorem dJ6_bitCount_0f7a4_18 : decode cJ6_bitCount_0f7a4 18 = .ok (.ldc_w 266, 3) := by decide +kernel
theorem dJ6_bitCount_0f7a4_21 : decode cJ6_bitCount_0f7a4 21 = .ok (.iand, 1) := by decide +kernel
theorem dJ6_bitCount_0f7a4_22 : decode cJ6_bitCount_0f7a4 22 = .ok (.iadd, 1) := by decide +kernel
theorem dJ6_bitCount_0f7a4_23 : decode cJ6_bitCount_0f7a4 23 = .ok (.istore_n 0, 1) := by decide +kernel
theorem dJ6_bitCount_0f7a4_24 : decode cJ6_bitCount_0f7a4 24 = .ok (.iload_n 0, 1) := by decide +kernel
theorem dJ6_bitCount_0f7a4_25 : decode cJ6_bitCount_0f7a4 25 = .ok (.iload_n 0, 1) := by decide +kernel
theorem dJ6_bitCount_0f7a4_26 : decode cJ6_bitCount_0f7a4 26 = .ok (.iconst 4, 1) := by decide +kernel
theorem dJ6_bitCount_0f7a4_27 : decode cJ6_bitCount_0f7a4 27 = .ok (.iushr, 1) := by decide +kernel
theorem dJ6_bitCount_0f7a4_28 : decode cJ6_bitCount_0f7a4 28 = .ok (.iadd, 1) := by decide +kernel
theorem dJ6_bitCount_0f7a4_29 : decode cJ6_bitCount_0f7a4 29 = .ok (.ldc_w 267, 3) := by decide +kernel
theorem dJ6_bitCount_0f7a4_32 : decode cJ6_bitCount_0f7a4 32 = .ok (.iand, 1) := by decide +kernel
theorem dJ6_bitCount_0f7a4_33 : decode cJ6_bitCount_0f7a4 33 = .ok (.istore_n 0, 1) := by decide +kernel
theorem dJ6_bitCount_0f7a4_34 : decode cJ6_bitCount_0f7a4 34 = .ok (.iload_n 0, 1) := by decide +kernel
theorem dJ6_bitCount_0f7a4_35 : decode cJ6_bitCount_0f7a4 35 = .ok (.iload_n 0, 1) := by decide +kernel
theorem dJ6_bitCount_0f7a4_36 : decode cJ6_bitCount_0f7a4 36 = .ok (.bipush 8, 2) := by decide +kernel
theorem dJ6_bitCount_0f7a4_38 : decode cJ6_bitCount_0f7a4 38 = .ok (.iushr, 1) := by decide +kernel
theorem dJ6_bitCount_0f7a4_39 : decode cJ6_bitCount_0f7a4 39 = .ok (.iadd, 1) := by decide +kernel
theorem dJ6_bitCount_0f7a4_40 : decode cJ6_bitCount_0f7a4 40 = .ok (.istore_n 0, 1) := by decide +kernel
theorem dJ6_bitCount_0f7a4_41 : decode cJ6_bitCount_0f7a4 41 = .ok (.iload_n 0, 1) := by decide +kernel
theorem dJ6_bitCount_0f7a4_42 : decode cJ6_bitCount_0f7a4 42 = .ok (.iload_n 0, 1) := by decide +kernel
theorem dJ6_bitCount_0f7a4_43 : decode cJ6_bitCount_0f7a4 43 = .ok (.bipush 16, 2) := by decide +kernel
theorem dJ6_bitCount_0f7a4_45 : decode cJ6_bitCount_0f7a4 45 = .ok (.iushr, 1) := by decide +kernel
theorem dJ6_bitCount_0f7a4_46 : decode cJ6_bitCount_0f7a4 46 = .ok (.iadd, 1) := by decide +kernel
theorem dJ6_bitCount_0f7a4_47 : decode cJ6_bitCount_0f7a4 47 = .ok (.istore_n 0, 1) := by decide +kernel
theorem dJ6_bitCount_0f7a4_48 : decode cJ6_bitCount_0f7a4 48 = .ok (.iload_n 0, 1) := by decide +kernel
theorem dJ6_bitCount_0f7a4_49 : decode cJ6_bitCount_0f7a4 49 = .ok (.bipush 63, 2) := by decide +kernel
theorem dJ6_bitCount_0f7a4_51 : decode cJ6_bitCount_0f7a4 51 = .ok (.iand, 1) := by decide +kernel
theorem dJ6_bitCount_0f7a4_52 : decode cJ6_bitCount_0f7a4 52 = .ok (.ireturn, 1) := by decide +kernel
theorem dJ7_fill_53178_0 : decode cJ7_fill_53178 0 = .ok (.iconst 0, 1) := by decide +kernel
theorem dJ7_fill_53178_1 : decode cJ7_fill_53178 1 = .ok (.istore_n 2, 1) := by decide +kernel
theorem dJ7_fill_53178_2 : decode cJ7_fill_53178 2 = .ok (.aload_n 0, 1) := by decide +kernel
theorem dJ7_fill_53178_3 : decode cJ7_fill_53178 3 = .ok (.arraylength, 1) := by decide +kernel
theorem dJ7_fill_53178_4 : decode cJ7_fill_53178 4 = .ok (.istore_n 3, 1) := by decide +kernel
theorem dJ7_fill_53178_5 : decode cJ7_fill_53178 5 = .ok (.iload_n 2, 1) := by decide +kernel
theorem dJ7_fill_53178_6 : decode cJ7_fill_53178 6 = .ok (.iload_n 3, 1) := by decide +kernel
theorem dJ7_fill_53178_7 : decode cJ7_fill_53178 7 = .ok (.if_icmp .ge 13, 3) := by decide +kernel
theorem dJ7_fill_53178_10 : decode cJ7_fill_53178 10 = .ok (.aload_n 0, 1) := by decide +kernel
theorem dJ7_fill_53178_11 : decode cJ7_fill_53178 11 = .ok (.iload_n 2, 1) := by decide +kernel
theorem dJ7_fill_53178_12 : decode cJ7_fill_53178 12 = .ok (.iload_n 1, 1) := by decide +kernel
theorem dJ7_fill_53178_13 : decode cJ7_fill_53178 13 = .ok (.iastore, 1) := by decide +kernel
theorem dJ7_fill_53178_14 : decode cJ7_fill_53178 14 = .ok (.iinc 2 1, 3) := by decide +kernel
theorem dJ7_fill_53178_17 : decode cJ7_fill_53178 17 = .ok (.goto (-12), 3) := by decide +kernel
theorem dJ7_fill_53178_20 : decode cJ7_fill_53178 20 = .ok (.return_, 1) := by decide +kernel
theorem dL_low_0 : decode cL_low 0 = .ok (.iload_n 0, 1) := by decide +kernel
theorem dL_low_1 : decode cL_low 1 = .ok (.ldc 7, 2) := by decide +kernel
theorem dL_low_3 : decode cL_low 3 = .ok (.iand, 1) := by decide +kernel
theorem dL_low_4 : decode cL_low 4 = .ok (.iload_n 1, 1) := by decide +kernel
theorem dL_low_5 : decode cL_low 5 = .ok (.irem, 1) := by decide +kernel
theorem dL_low_6 : decode cL_low 6 = .ok (.ireturn, 1) := by decide +kernel
theorem dL_cell_0 : decode cL_cell 0 = .ok (.iload_n 1, 1) := by decide +kernel
theorem dL_cell_1 : decode cL_cell 1 = .ok (.aload_n 0, 1) := by decide +kernel
theorem dL_cell_2 : decode cL_cell 2 = .ok (.arraylength, 1) := by decide +kernel
theorem dL_cell_3 : decode cL_cell 3 = .ok (.if_icmp .ge 9, 3) := by decide +kernel
theorem dL_cell_6 : decode cL_cell 6 = .ok (.aload_n 0, 1) := by decide +kernel
theorem dL_cell_7 : decode cL_cell 7 = .ok (.iload_n 1, 1) := by decide +kernel
theorem dL_cell_8 : decode cL_cell 8 = .ok (.iaload, 1) := by decide +kernel
theorem dL_cell_9 : decode cL_cell 9 = .ok (.goto 11, 3) := by decide +kernel
theorem dL_cell_12 : decode cL_cell 12 = .ok (.ldc 8, 2) := by decide +kernel
theorem dL_cell_14 : decode cL_cell 14 = .ok (.iload_n 1, 1) := by decide +kernel
theorem dL_cell_15 : decode cL_cell 15 = .ok (.imul, 1) := by decide +kernel
theorem dL_cell_16 : decode cL_cell 16 = .ok (.sipush 977, 3) := by decide +kernel
theorem dL_cell_19 : decode cL_cell 19 = .ok (.iadd, 1) := by decide +kernel
theorem dL_cell_20 : decode cL_cell 20 = .ok (.ireturn, 1) := by decide +kernel
theorem dL_valueOf_0 : decode cL_valueOf 0 = .ok (.aload_n 0, 1) := by decide +kernel
theorem dL_valueOf_1 : decode cL_valueOf 1 = .ok (.iload_n 1, 1) := by decide +kernel
theorem dL_valueOf_2 : decode cL_valueOf 2 = .ok (.iconst 0, 1) := by decide +kernel
theorem dL_valueOf_3 : decode cL_valueOf 3 = .ok (.invokevirtual 9, 3) := by decide +kernel
theorem dL_valueOf_6 : decode cL_valueOf 6 = .ok (.iload_n 2, 1) := by decide +kernel
theorem dL_valueOf_7 : decode cL_valueOf 7 = .ok (.imul, 1) := by decide +kernel
theorem dL_valueOf_8 : decode cL_valueOf 8 = .ok (.aload_n 0, 1) := by decide +kernel
theorem dL_valueOf_9 : decode cL_valueOf 9 = .ok (.iload_n 1, 1) := by decide +kernel
theorem dL_valueOf_10 : decode cL_valueOf 10 = .ok (.iconst 1, 1) := by decide +kernel
theorem dL_valueOf_11 : decode cL_valueOf 11 = .ok (.invokevirtual 9, 3) := by decide +kernel
theorem dL_valueOf_14 : decode cL_valueOf 14 = .ok (.iadd, 1) := by decide +kernel
theorem dL_valueOf_15 : decode cL_valueOf 15 = .ok (.ireturn, 1) := by decide +kernel
theorem dL_counts_0 : decode cL_counts 0 = .ok (.iload_n 2, 1) := by decide +kernel
theorem dL_counts_1 : decode cL_counts 1 = .ok (.aload_n 0, 1) := by decide +kernel
theorem dL_counts_2 : decode cL_counts 2 = .ok (.iload_n 1, 1) := by decide +kernel
theorem dL_counts_3 : decode cL_counts 3 = .ok (.iconst 2, 1) := by decide +kernel
theorem dL_counts_4 : decode cL_counts 4 = .ok (.invokevirtual 9, 3) := by decide +kernel
theorem dL_counts_7 : decode cL_counts 7 = .ok (.if_icmp .lt 37, 3) := by decide +kernel
theorem dL_counts_10 : decode cL_counts 10 = .ok (.iload_n 2, 1) := by decide +kernel
theorem dL_counts_11 : decode cL_counts 11 = .ok (.aload_n 0, 1) := by decide +kernel
theorem dL_counts_12 : decode cL_counts 12 = .ok (.iload_n 1, 1) := by decide +kernel
theorem dL_counts_13 : decode cL_counts 13 = .ok (.iconst 3, 1) := by decide +kernel
theorem dL_counts_14 : decode cL_counts 14 = .ok (.invokevirtual 9, 3) := by decide +kernel
theorem dL_counts_17 : decode cL_counts 17 = .ok (.if_icmp .gt 27, 3) := by decide +kernel
theorem dL_counts_20 : decode cL_counts 20 = .ok (.iload_n 3, 1) := by decide +kernel
theorem dL_counts_21 : decode cL_counts 21 = .ok (.aload_n 0, 1) := by decide +kernel
theorem dL_counts_22 : decode cL_counts 22 = .ok (.iload_n 1, 1) := by decide +kernel
theorem dL_counts_23 : decode cL_counts 23 = .ok (.iconst 4, 1) := by decide +kernel
theorem dL_counts_24 : decode cL_counts 24 = .ok (.invokevirtual 9, 3) := by decide +kernel
theorem dL_counts_27 : decode cL_counts 27 = .ok (.if_icmp .lt 17, 3) := by decide +kernel
theorem dL_counts_30 : decode cL_counts 30 = .ok (.iload_n 3, 1) := by decide +kernel
theorem dL_counts_31 : decode cL_counts 31 = .ok (.aload_n 0, 1) := by decide +kernel
theorem dL_counts_32 : decode cL_counts 32 = .ok (.iload_n 1, 1) := by decide +kernel
theorem dL_counts_33 : decode cL_counts 33 = .ok (.iconst 5, 1) := by decide +kernel
theorem dL_counts_34 : decode cL_counts 34 = .ok (.invokevirtual 9, 3) := by decide +kernel
theorem dL_counts_37 : decode cL_counts 37 = .ok (.if_icmp .gt 7, 3) := by decide +kernel
theorem dL_counts_40 : decode cL_counts 40 = .ok (.iconst 1, 1) := by decide +kernel
theorem dL_counts_41 : decode cL_counts 41 = .ok (.goto 4, 3) := by decide +kernel
theorem dL_counts_44 : decode cL_counts 44 = .ok (.iconst 0, 1) := by decide +kernel
theorem dL_counts_45 : decode cL_counts 45 = .ok (.ireturn, 1) := by decide +kernel
theorem dL_lowest_0 : decode cL_lowest 0 = .ok (.iconst (-1), 1) := by decide +kernel
theorem dL_lowest_1 : decode cL_lowest 1 = .ok (.istore_n 3, 1) := by decide +kernel
theorem dL_lowest_2 : decode cL_lowest 2 = .ok (.iconst 0, 1) := by decide +kernel
theorem dL_lowest_3 : decode cL_lowest 3 = .ok (.istore 4, 2) := by decide +kernel
theorem dL_lowest_5 : decode cL_lowest 5 = .ok (.iload 4, 2) := by decide +kernel
theorem dL_lowest_7 : decode cL_lowest 7 = .ok (.aload_n 0, 1) := by decide +kernel
theorem dL_lowest_8 : decode cL_lowest 8 = .ok (.iconst 1, 1) := by decide +kernel
theorem dL_lowest_9 : decode cL_lowest 9 = .ok (.invokevirtual 15, 3) := by decide +kernel
theorem dL_lowest_12 : decode cL_lowest 12 = .ok (.if_icmp .ge 48, 3) := by decide +kernel
theorem dL_lowest_15 : decode cL_lowest 15 = .ok (.aload_n 0, 1) := by decide +kernel
theorem dL_lowest_16 : decode cL_lowest 16 = .ok (.iload 4, 2) := by decide +kernel
theorem dL_lowest_18 : decode cL_lowest 18 = .ok (.iload_n 1, 1) := by decide +kernel
theorem dL_lowest_19 : decode cL_lowest 19 = .ok (.iload_n 2, 1) := by decide +kernel
theorem dL_lowest_20 : decode cL_lowest 20 = .ok (.invokestatic 19, 3) := by decide +kernel
theorem dL_lowest_23 : decode cL_lowest 23 = .ok (.ifCond .eq 29, 3) := by decide +kernel
theorem dL_lowest_26 : decode cL_lowest 26 = .ok (.iload_n 3, 1) := by decide +kernel
theorem dL_lowest_27 : decode cL_lowest 27 = .ok (.iconst (-1), 1) := by decide +kernel
theorem dL_lowest_28 : decode cL_lowest 28 = .ok (.if_icmp .eq 19, 3) := by decide +kernel
theorem dL_lowest_31 : decode cL_lowest 31 = .ok (.aload_n 0, 1) := by decide +kernel
theorem dL_lowest_32 : decode cL_lowest 32 = .ok (.iload 4, 2) := by decide +kernel
theorem dL_lowest_34 : decode cL_lowest 34 = .ok (.iload_n 1, 1) := by decide +kernel
theorem dL_lowest_35 : decode cL_lowest 35 = .ok (.invokestatic 25, 3) := by decide +kernel
theorem dL_lowest_38 : decode cL_lowest 38 = .ok (.aload_n 0, 1) := by decide +kernel
theorem dL_lowest_39 : decode cL_lowest 39 = .ok (.iload_n 3, 1) := by decide +kernel
theorem dL_lowest_40 : decode cL_lowest 40 = .ok (.iload_n 1, 1) := by decide +kernel
theorem dL_lowest_41 : decode cL_lowest 41 = .ok (.invokestatic 25, 3) := by decide +kernel
theorem dL_lowest_44 : decode cL_lowest 44 = .ok (.if_icmp .ge 8, 3) := by decide +kernel
theorem dL_lowest_47 : decode cL_lowest 47 = .ok (.iload 4, 2) := by decide +kernel
theorem dL_lowest_49 : decode cL_lowest 49 = .ok (.goto 4, 3) := by decide +kernel
theorem dL_lowest_52 : decode cL_lowest 52 = .ok (.iload_n 3, 1) := by decide +kernel
theorem dL_lowest_53 : decode cL_lowest 53 = .ok (.istore_n 3, 1) := by decide +kernel
theorem dL_lowest_54 : decode cL_lowest 54 = .ok (.iinc 4 1, 3) := by decide +kernel
theorem dL_lowest_57 : decode cL_lowest 57 = .ok (.goto (-52), 3) := by decide +kernel
theorem dL_lowest_60 : decode cL_lowest 60 = .ok (.iload_n 3, 1) := by decide +kernel
theorem dL_lowest_61 : decode cL_lowest 61 = .ok (.ireturn, 1) := by decide +kernel
theorem dL_turn_0 : decode cL_turn 0 = .ok (.aload_n 0, 1) := by decide +kernel
theorem dL_turn_1 : decode cL_turn 1 = .ok (.iload_n 1, 1) := by decide +kernel
theorem dL_turn_2 : decode cL_turn 2 = .ok (.iload_n 2, 1) := by decide +kernel
theorem dL_turn_3 : decode cL_turn 3 = .ok (.iload_n 3, 1) := by decide +kernel
theorem dL_turn_4 : decode cL_turn 4 = .ok (.invokevirtual 29, 3) := by decide +kernel
theorem dL_turn_7 : decode cL_turn 7 = .ok (.ireturn, 1) := by decide +kernel
theorem dL_turn_8 : decode cL_turn 8 = .ok (.astore 4, 2) := by decide +kernel
theorem dL_turn_10 : decode cL_turn 10 = .ok (.sipush (-10003), 3) := by decide +kernel
theorem dL_turn_13 : decode cL_turn 13 = .ok (.ireturn, 1) := by decide +kernel
theorem dL_lift_0 : decode cL_lift 0 = .ok (.aload_n 0, 1) := by decide +kernel
theorem dL_lift_1 : decode cL_lift 1 = .ok (.iload_n 1, 1) := by decide +kernel
theorem dL_lift_2 : decode cL_lift 2 = .ok (.iload_n 2, 1) := by decide +kernel
theorem dL_lift_3 : decode cL_lift 3 = .ok (.invokevirtual 35, 3) := by decide +kernel
theorem dL_lift_6 : decode cL_lift 6 = .ok (.ireturn, 1) := by decide +kernel
theorem dL_lift_7 : decode cL_lift 7 = .ok (.astore_n 3, 1) := by decide +kernel
theorem dL_lift_8 : decode cL_lift 8 = .ok (.sipush (-10003), 3) := by decide +kernel
theorem dL_lift_11 : decode cL_lift 11 = .ok (.ireturn, 1) := by decide +kernel
theorem dL_add_0 : decode cL_add 0 = .ok (.aload_n 0, 1) := by decide +kernel
theorem dL_add_1 : decode cL_add 1 = .ok (.iload_n 1, 1) := by decide +kernel
theorem dL_add_2 : decode cL_add 2 = .ok (.iload_n 2, 1) := by decide +kernel
theorem dL_add_3 : decode cL_add 3 = .ok (.invokevirtual 38, 3) := by decide +kernel
theorem dL_add_6 : decode cL_add 6 = .ok (.ireturn, 1) := by decide +kernel
theorem dL_add_7 : decode cL_add 7 = .ok (.astore_n 3, 1) := by decide +kernel
theorem dL_add_8 : decode cL_add 8 = .ok (.bipush (-3), 2) := by decide +kernel
theorem dL_add_10 : decode cL_add 10 = .ok (.ireturn, 1) := by decide +kernel
theorem dL_undo_0 : decode cL_undo 0 = .ok (.aload_n 0, 1) := by decide +kernel
theorem dL_undo_1 : decode cL_undo 1 = .ok (.invokevirtual 41, 3) := by decide +kernel
theorem dL_undo_4 : decode cL_undo 4 = .ok (.ireturn, 1) := by decide +kernel
theorem dL_undo_5 : decode cL_undo 5 = .ok (.astore_n 1, 1) := by decide +kernel
theorem dL_undo_6 : decode cL_undo 6 = .ok (.bipush (-3), 2) := by decide +kernel
theorem dL_undo_8 : decode cL_undo 8 = .ok (.ireturn, 1) := by decide +kernel
theorem dL_value_0 : decode cL_value 0 = .ok (.aload_n 0, 1) := by decide +kernel
theorem dL_value_1 : decode cL_value 1 = .ok (.iload_n 1, 1) := by decide +kernel
theorem dL_value_2 : decode cL_value 2 = .ok (.invokevirtual 45, 3) := by decide +kernel
theorem dL_value_5 : decode cL_value 5 = .ok (.ireturn, 1) := by decide +kernel
theorem dL_value_6 : decode cL_value 6 = .ok (.astore_n 2, 1) := by decide +kernel
theorem dL_value_7 : decode cL_value 7 = .ok (.sipush (-20000), 3) := by decide +kernel
theorem dL_value_10 : decode cL_value 10 = .ok (.ireturn, 1) := by decide +kernel
theorem dL_places_0 : decode cL_places 0 = .ok (.aload_n 0, 1) := by decide +kernel
theorem dL_places_1 : decode cL_places 1 = .ok (.iconst 3, 1) := by decide +kernel
theorem dL_places_2 : decode cL_places 2 = .ok (.invokevirtual 15, 3) := by decide +kernel
theorem dL_places_5 : decode cL_places 5 = .ok (.istore_n 1, 1) := by decide +kernel
theorem dL_places_6 : decode cL_places 6 = .ok (.iconst 0, 1) := by decide +kernel
theorem dL_places_7 : decode cL_places 7 = .ok (.istore_n 2, 1) := by decide +kernel
theorem dL_places_8 : decode cL_places 8 = .ok (.iconst 0, 1) := by decide +kernel
theorem dL_places_9 : decode cL_places 9 = .ok (.istore_n 3, 1) := by decide +kernel
theorem dL_places_10 : decode cL_places 10 = .ok (.iconst 0, 1) := by decide +kernel
theorem dL_places_11 : decode cL_places 11 = .ok (.istore 4, 2) := by decide +kernel
theorem dL_places_13 : decode cL_places 13 = .ok (.bipush (-2), 2) := by decide +kernel
theorem dL_places_15 : decode cL_places 15 = .ok (.istore 5, 2) := by decide +kernel
theorem dL_places_17 : decode cL_places 17 = .ok (.iload_n 1, 1) := by decide +kernel
theorem dL_places_18 : decode cL_places 18 = .ok (.ifCond .le 7, 3) := by decide +kernel
theorem dL_places_21 : decode cL_places 21 = .ok (.iconst 1, 1) := by decide +kernel
theorem dL_places_22 : decode cL_places 22 = .ok (.goto 4, 3) := by decide +kernel
theorem dL_places_25 : decode cL_places 25 = .ok (.iconst 0, 1) := by decide +kernel
theorem dL_places_26 : decode cL_places 26 = .ok (.istore 6, 2) := by decide +kernel
theorem dL_places_28 : decode cL_places 28 = .ok (.iconst 0, 1) := by decide +kernel
theorem dL_places_29 : decode cL_places 29 = .ok (.istore 7, 2) := by decide +kernel
theorem dL_places_31 : decode cL_places 31 = .ok (.iload 7, 2) := by decide +kernel
theorem dL_places_33 : decode cL_places 33 = .ok (.iload_n 1, 1) := by decide +kernel
theorem dL_places_34 : decode cL_places 34 = .ok (.if_icmp .ge 261, 3) := by decide +kernel
theorem dL_places_37 : decode cL_places 37 = .ok (.iload 6, 2) := by decide +kernel
theorem dL_places_39 : decode cL_places 39 = .ok (.ifCond .eq 256, 3) := by decide +kernel
theorem dL_places_42 : decode cL_places 42 = .ok (.aload_n 0, 1) := by decide +kernel
theorem dL_places_43 : decode cL_places 43 = .ok (.iload 7, 2) := by decide +kernel
theorem dL_places_45 : decode cL_places 45 = .ok (.iconst 1, 1) := by decide +kernel
theorem dL_places_46 : decode cL_places 46 = .ok (.invokevirtual 48, 3) := by decide +kernel
theorem dL_places_49 : decode cL_places 49 = .ok (.istore 8, 2) := by decide +kernel
theorem dL_places_51 : decode cL_places 51 = .ok (.aload_n 0, 1) := by decide +kernel
theorem dL_places_52 : decode cL_places 52 = .ok (.iload 7, 2) := by decide +kernel
theorem dL_places_54 : decode cL_places 54 = .ok (.iconst 2, 1) := by decide +kernel
theorem dL_places_55 : decode cL_places 55 = .ok (.invokevirtual 48, 3) := by decide +kernel
theorem dL_places_58 : decode cL_places 58 = .ok (.istore 9, 2) := by decide +kernel
theorem dL_places_60 : decode cL_places 60 = .ok (.aload_n 0, 1) := by decide +kernel
theorem dL_places_61 : decode cL_places 61 = .ok (.iload 7, 2) := by decide +kernel
theorem dL_places_63 : decode cL_places 63 = .ok (.iconst 0, 1) := by decide +kernel
theorem dL_places_64 : decode cL_places 64 = .ok (.invokevirtual 48, 3) := by decide +kernel
theorem dL_places_67 : decode cL_places 67 = .ok (.iload_n 2, 1) := by decide +kernel
theorem dL_places_68 : decode cL_places 68 = .ok (.if_icmp .ne 19, 3) := by decide +kernel
theorem dL_places_71 : decode cL_places 71 = .ok (.iload 8, 2) := by decide +kernel
theorem dL_places_73 : decode cL_places 73 = .ok (.ifCond .le 14, 3) := by decide +kernel
theorem dL_places_76 : decode cL_places 76 = .ok (.iload 9, 2) := by decide +kernel
theorem dL_places_78 : decode cL_places 78 = .ok (.iload 5, 2) := by decide +kernel
theorem dL_places_80 : decode cL_places 80 = .ok (.if_icmp .eq 7, 3) := by decide +kernel
theorem dL_places_83 : decode cL_places 83 = .ok (.iconst 1, 1) := by decide +kernel
theorem dL_places_84 : decode cL_places 84 = .ok (.goto 4, 3) := by decide +kernel
theorem dL_places_87 : decode cL_places 87 = .ok (.iconst 0, 1) := by decide +kernel
theorem dL_places_88 : decode cL_places 88 = .ok (.istore 6, 2) := by decide +kernel
theorem dL_places_90 : decode cL_places 90 = .ok (.iload_n 2, 1) := by decide +kernel
theorem dL_places_91 : decode cL_places 91 = .ok (.istore 10, 2) := by decide +kernel
theorem dL_places_93 : decode cL_places 93 = .ok (.iload 10, 2) := by decide +kernel
theorem dL_places_95 : decode cL_places 95 = .ok (.iload_n 2, 1) := by decide +kernel
theorem dL_places_96 : decode cL_places 96 = .ok (.iload 8, 2) := by decide +kernel
theorem dL_places_98 : decode cL_places 98 = .ok (.iadd, 1) := by decide +kernel
theorem dL_places_99 : decode cL_places 99 = .ok (.if_icmp .ge 181, 3) := by decide +kernel
theorem dL_places_102 : decode cL_places 102 = .ok (.iload 6, 2) := by decide +kernel
theorem dL_places_104 : decode cL_places 104 = .ok (.ifCond .eq 176, 3) := by decide +kernel
theorem dL_places_107 : decode cL_places 107 = .ok (.aload_n 0, 1) := by decide +kernel
theorem dL_places_108 : decode cL_places 108 = .ok (.iload 10, 2) := by decide +kernel
theorem dL_places_110 : decode cL_places 110 = .ok (.aload_n 0, 1) := by decide +kernel
theorem dL_places_111 : decode cL_places 111 = .ok (.iconst 0, 1) := by decide +kernel
theorem dL_places_112 : decode cL_places 112 = .ok (.invokevirtual 15, 3) := by decide +kernel
theorem dL_places_115 : decode cL_places 115 = .ok (.invokevirtual 51, 3) := by decide +kernel
theorem dL_places_118 : decode cL_places 118 = .ok (.iload 9, 2) := by decide +kernel
theorem dL_places_120 : decode cL_places 120 = .ok (.if_icmp .ne 63, 3) := by decide +kernel
theorem dL_places_123 : decode cL_places 123 = .ok (.aload_n 0, 1) := by decide +kernel
theorem dL_places_124 : decode cL_places 124 = .ok (.iload 10, 2) := by decide +kernel
theorem dL_places_126 : decode cL_places 126 = .ok (.iconst 0, 1) := by decide +kernel
theorem dL_places_127 : decode cL_places 127 = .ok (.invokevirtual 54, 3) := by decide +kernel
theorem dL_places_130 : decode cL_places 130 = .ok (.iload 9, 2) := by decide +kernel
theorem dL_places_132 : decode cL_places 132 = .ok (.if_icmp .ne 51, 3) := by decide +kernel
theorem dL_places_135 : decode cL_places 135 = .ok (.iload 9, 2) := by decide +kernel
theorem dL_places_137 : decode cL_places 137 = .ok (.aload_n 0, 1) := by decide +kernel
theorem dL_places_138 : decode cL_places 138 = .ok (.iload 10, 2) := by decide +kernel
theorem dL_places_140 : decode cL_places 140 = .ok (.aload_n 0, 1) := by decide +kernel
theorem dL_places_141 : decode cL_places 141 = .ok (.iconst 0, 1) := by decide +kernel
theorem dL_places_142 : decode cL_places 142 = .ok (.invokevirtual 15, 3) := by decide +kernel
theorem dL_places_145 : decode cL_places 145 = .ok (.invokestatic 57, 3) := by decide +kernel
theorem dL_places_148 : decode cL_places 148 = .ok (.if_icmp .ne 35, 3) := by decide +kernel
theorem dL_places_151 : decode cL_places 151 = .ok (.aload_n 0, 1) := by decide +kernel
theorem dL_places_152 : decode cL_places 152 = .ok (.iload 10, 2) := by decide +kernel
theorem dL_places_154 : decode cL_places 154 = .ok (.invokestatic 59, 3) := by decide +kernel
theorem dL_places_157 : decode cL_places 157 = .ok (.iload 9, 2) := by decide +kernel
theorem dL_places_159 : decode cL_places 159 = .ok (.ifCond .ge 9, 3) := by decide +kernel
theorem dL_places_162 : decode cL_places 162 = .ok (.sipush (-20000), 3) := by decide +kernel
theorem dL_places_165 : decode cL_places 165 = .ok (.goto 11, 3) := by decide +kernel
theorem dL_places_168 : decode cL_places 168 = .ok (.aload_n 0, 1) := by decide +kernel
theorem dL_places_169 : decode cL_places 169 = .ok (.iload 9, 2) := by decide +kernel
theorem dL_places_171 : decode cL_places 171 = .ok (.iload 10, 2) := by decide +kernel
theorem dL_places_173 : decode cL_places 173 = .ok (.invokestatic 25, 3) := by decide +kernel
theorem dL_places_176 : decode cL_places 176 = .ok (.if_icmp .ne 7, 3) := by decide +kernel
theorem dL_places_179 : decode cL_places 179 = .ok (.iconst 1, 1) := by decide +kernel
theorem dL_places_180 : decode cL_places 180 = .ok (.goto 4, 3) := by decide +kernel
theorem dL_places_183 : decode cL_places 183 = .ok (.iconst 0, 1) := by decide +kernel
theorem dL_places_184 : decode cL_places 184 = .ok (.istore 6, 2) := by decide +kernel
theorem dL_places_186 : decode cL_places 186 = .ok (.aload_n 0, 1) := by decide +kernel
theorem dL_places_187 : decode cL_places 187 = .ok (.iload 10, 2) := by decide +kernel
theorem dL_places_189 : decode cL_places 189 = .ok (.iconst 1, 1) := by decide +kernel
theorem dL_places_190 : decode cL_places 190 = .ok (.invokevirtual 54, 3) := by decide +kernel
theorem dL_places_193 : decode cL_places 193 = .ok (.istore 11, 2) := by decide +kernel
theorem dL_places_195 : decode cL_places 195 = .ok (.iload 6, 2) := by decide +kernel
theorem dL_places_197 : decode cL_places 197 = .ok (.ifCond .eq 39, 3) := by decide +kernel
theorem dL_places_200 : decode cL_places 200 = .ok (.iload 11, 2) := by decide +kernel
theorem dL_places_202 : decode cL_places 202 = .ok (.iconst (-1), 1) := by decide +kernel
theorem dL_places_203 : decode cL_places 203 = .ok (.if_icmp .eq 29, 3) := by decide +kernel
theorem dL_places_206 : decode cL_places 206 = .ok (.iload 11, 2) := by decide +kernel
theorem dL_places_208 : decode cL_places 208 = .ok (.iload 9, 2) := by decide +kernel
theorem dL_places_210 : decode cL_places 210 = .ok (.if_icmp .eq 26, 3) := by decide +kernel
theorem dL_places_213 : decode cL_places 213 = .ok (.aload_n 0, 1) := by decide +kernel
theorem dL_places_214 : decode cL_places 214 = .ok (.iload 11, 2) := by decide +kernel
theorem dL_places_216 : decode cL_places 216 = .ok (.iload 10, 2) := by decide +kernel
theorem dL_places_218 : decode cL_places 218 = .ok (.invokestatic 25, 3) := by decide +kernel
theorem dL_places_221 : decode cL_places 221 = .ok (.aload_n 0, 1) := by decide +kernel
theorem dL_places_222 : decode cL_places 222 = .ok (.iload 9, 2) := by decide +kernel
theorem dL_places_224 : decode cL_places 224 = .ok (.iload 10, 2) := by decide +kernel
theorem dL_places_226 : decode cL_places 226 = .ok (.invokestatic 25, 3) := by decide +kernel
theorem dL_places_229 : decode cL_places 229 = .ok (.if_icmp .lt 7, 3) := by decide +kernel
theorem dL_places_232 : decode cL_places 232 = .ok (.iconst 1, 1) := by decide +kernel
theorem dL_places_233 : decode cL_places 233 = .ok (.goto 4, 3) := by decide +kernel
theorem dL_places_236 : decode cL_places 236 = .ok (.iconst 0, 1) := by decide +kernel
theorem dL_places_237 : decode cL_places 237 = .ok (.istore 6, 2) := by decide +kernel
theorem dL_places_239 : decode cL_places 239 = .ok (.iload_n 3, 1) := by decide +kernel
theorem dL_places_240 : decode cL_places 240 = .ok (.iload 9, 2) := by decide +kernel
theorem dL_places_242 : decode cL_places 242 = .ok (.ifCond .ge 7, 3) := by decide +kernel
theorem dL_places_245 : decode cL_places 245 = .ok (.iconst 0, 1) := by decide +kernel
theorem dL_places_246 : decode cL_places 246 = .ok (.goto 11, 3) := by decide +kernel
theorem dL_places_249 : decode cL_places 249 = .ok (.aload_n 0, 1) := by decide +kernel
theorem dL_places_250 : decode cL_places 250 = .ok (.iload 9, 2) := by decide +kernel
theorem dL_places_252 : decode cL_places 252 = .ok (.iload 10, 2) := by decide +kernel
theorem dL_places_254 : decode cL_places 254 = .ok (.invokestatic 25, 3) := by decide +kernel
theorem dL_places_257 : decode cL_places 257 = .ok (.iadd, 1) := by decide +kernel
theorem dL_places_258 : decode cL_places 258 = .ok (.istore_n 3, 1) := by decide +kernel
theorem dL_places_259 : decode cL_places 259 = .ok (.iload 4, 2) := by decide +kernel
theorem dL_places_261 : decode cL_places 261 = .ok (.iload 9, 2) := by decide +kernel
theorem dL_places_263 : decode cL_places 263 = .ok (.ifCond .ge 7, 3) := by decide +kernel
theorem dL_places_266 : decode cL_places 266 = .ok (.iconst 1, 1) := by decide +kernel
theorem dL_places_267 : decode cL_places 267 = .ok (.goto 4, 3) := by decide +kernel
theorem dL_places_270 : decode cL_places 270 = .ok (.iconst 0, 1) := by decide +kernel
theorem dL_places_271 : decode cL_places 271 = .ok (.iadd, 1) := by decide +kernel
theorem dL_places_272 : decode cL_places 272 = .ok (.istore 4, 2) := by decide +kernel
theorem dL_places_274 : decode cL_places 274 = .ok (.iinc 10 1, 3) := by decide +kernel
theorem dL_places_277 : decode cL_places 277 = .ok (.goto (-184), 3) := by decide +kernel
theorem dL_places_280 : decode cL_places 280 = .ok (.iload_n 2, 1) := by decide +kernel
theorem dL_places_281 : decode cL_places 281 = .ok (.iload 8, 2) := by decide +kernel
theorem dL_places_283 : decode cL_places 283 = .ok (.iadd, 1) := by decide +kernel
theorem dL_places_284 : decode cL_places 284 = .ok (.istore_n 2, 1) := by decide +kernel
theorem dL_places_285 : decode cL_places 285 = .ok (.iload 9, 2) := by decide +kernel
theorem dL_places_287 : decode cL_places 287 = .ok (.istore 5, 2) := by decide +kernel
theorem dL_places_289 : decode cL_places 289 = .ok (.iinc 7 1, 3) := by decide +kernel
theorem dL_places_292 : decode cL_places 292 = .ok (.goto (-261), 3) := by decide +kernel
theorem dL_places_295 : decode cL_places 295 = .ok (.iload 6, 2) := by decide +kernel
theorem dL_places_297 : decode cL_places 297 = .ok (.ifCond .eq 60, 3) := by decide +kernel
theorem dL_places_300 : decode cL_places 300 = .ok (.iload_n 2, 1) := by decide +kernel
theorem dL_places_301 : decode cL_places 301 = .ok (.bipush 64, 2) := by decide +kernel
theorem dL_places_303 : decode cL_places 303 = .ok (.if_icmp .ne 54, 3) := by decide +kernel
theorem dL_places_306 : decode cL_places 306 = .ok (.aload_n 0, 1) := by decide +kernel
theorem dL_places_307 : decode cL_places 307 = .ok (.iload_n 1, 1) := by decide +kernel
theorem dL_places_308 : decode cL_places 308 = .ok (.iconst 0, 1) := by decide +kernel
theorem dL_places_309 : decode cL_places 309 = .ok (.invokevirtual 48, 3) := by decide +kernel
theorem dL_places_312 : decode cL_places 312 = .ok (.iconst (-1), 1) := by decide +kernel
theorem dL_places_313 : decode cL_places 313 = .ok (.if_icmp .ne 44, 3) := by decide +kernel
theorem dL_places_316 : decode cL_places 316 = .ok (.iload_n 3, 1) := by decide +kernel
theorem dL_places_317 : decode cL_places 317 = .ok (.aload_n 0, 1) := by decide +kernel
theorem dL_places_318 : decode cL_places 318 = .ok (.iconst 0, 1) := by decide +kernel
theorem dL_places_319 : decode cL_places 319 = .ok (.bipush 63, 2) := by decide +kernel
theorem dL_places_321 : decode cL_places 321 = .ok (.invokevirtual 62, 3) := by decide +kernel
theorem dL_places_324 : decode cL_places 324 = .ok (.if_icmp .ne 33, 3) := by decide +kernel
theorem dL_places_327 : decode cL_places 327 = .ok (.iload 4, 2) := by decide +kernel
theorem dL_places_329 : decode cL_places 329 = .ok (.aload_n 0, 1) := by decide +kernel
theorem dL_places_330 : decode cL_places 330 = .ok (.iconst 4, 1) := by decide +kernel
theorem dL_places_331 : decode cL_places 331 = .ok (.invokevirtual 15, 3) := by decide +kernel
theorem dL_places_334 : decode cL_places 334 = .ok (.if_icmp .ne 23, 3) := by decide +kernel
theorem dL_places_337 : decode cL_places 337 = .ok (.iload 4, 2) := by decide +kernel
theorem dL_places_339 : decode cL_places 339 = .ok (.bipush 64, 2) := by decide +kernel
theorem dL_places_341 : decode cL_places 341 = .ok (.if_icmp .lt 12, 3) := by decide +kernel
theorem dL_places_344 : decode cL_places 344 = .ok (.aload_n 0, 1) := by decide +kernel
theorem dL_places_345 : decode cL_places 345 = .ok (.invokevirtual 65, 3) := by decide +kernel
theorem dL_places_348 : decode cL_places 348 = .ok (.dconst 0, 1) := by decide +kernel
theorem dL_places_349 : decode cL_places 349 = .ok (.dcmp .l, 1) := by decide +kernel
theorem dL_places_350 : decode cL_places 350 = .ok (.ifCond .ne 7, 3) := by decide +kernel
theorem dL_places_353 : decode cL_places 353 = .ok (.iconst 1, 1) := by decide +kernel
theorem dL_places_354 : decode cL_places 354 = .ok (.goto 4, 3) := by decide +kernel
theorem dL_places_357 : decode cL_places 357 = .ok (.iconst 0, 1) := by decide +kernel
theorem dL_places_358 : decode cL_places 358 = .ok (.ireturn, 1) := by decide +kernel
theorem dL_lines_0 : decode cL_lines 0 = .ok (.iconst 0, 1) := by decide +kernel
theorem dL_lines_1 : decode cL_lines 1 = .ok (.istore_n 1, 1) := by decide +kernel
theorem dL_lines_2 : decode cL_lines 2 = .ok (.iconst 0, 1) := by decide +kernel
theorem dL_lines_3 : decode cL_lines 3 = .ok (.istore_n 2, 1) := by decide +kernel
theorem dL_lines_4 : decode cL_lines 4 = .ok (.iconst 0, 1) := by decide +kernel
theorem dL_lines_5 : decode cL_lines 5 = .ok (.istore_n 3, 1) := by decide +kernel
theorem dL_lines_6 : decode cL_lines 6 = .ok (.iconst 0, 1) := by decide +kernel
theorem dL_lines_7 : decode cL_lines 7 = .ok (.istore 4, 2) := by decide +kernel
theorem dL_lines_9 : decode cL_lines 9 = .ok (.iconst 0, 1) := by decide +kernel
theorem dL_lines_10 : decode cL_lines 10 = .ok (.istore 5, 2) := by decide +kernel
theorem dL_lines_12 : decode cL_lines 12 = .ok (.iconst 1, 1) := by decide +kernel
theorem dL_lines_13 : decode cL_lines 13 = .ok (.istore 6, 2) := by decide +kernel
theorem dL_lines_15 : decode cL_lines 15 = .ok (.iconst 0, 1) := by decide +kernel
theorem dL_lines_16 : decode cL_lines 16 = .ok (.istore 7, 2) := by decide +kernel
theorem dL_lines_18 : decode cL_lines 18 = .ok (.iload 7, 2) := by decide +kernel
theorem dL_lines_20 : decode cL_lines 20 = .ok (.aload_n 0, 1) := by decide +kernel
theorem dL_lines_21 : decode cL_lines 21 = .ok (.iconst 1, 1) := by decide +kernel
theorem dL_lines_22 : decode cL_lines 22 = .ok (.invokevirtual 15, 3) := by decide +kernel
theorem dL_lines_25 : decode cL_lines 25 = .ok (.if_icmp .ge 168, 3) := by decide +kernel
theorem dL_lines_28 : decode cL_lines 28 = .ok (.iload 6, 2) := by decide +kernel
theorem dL_lines_30 : decode cL_lines 30 = .ok (.ifCond .eq 163, 3) := by decide +kernel
theorem dL_lines_33 : decode cL_lines 33 = .ok (.iload_n 1, 1) := by decide +kernel
theorem dL_lines_34 : decode cL_lines 34 = .ok (.aload_n 0, 1) := by decide +kernel
theorem dL_lines_35 : decode cL_lines 35 = .ok (.iload 7, 2) := by decide +kernel
theorem dL_lines_37 : decode cL_lines 37 = .ok (.bipush 6, 2) := by decide +kernel
theorem dL_lines_39 : decode cL_lines 39 = .ok (.invokevirtual 9, 3) := by decide +kernel
theorem dL_lines_42 : decode cL_lines 42 = .ok (.iadd, 1) := by decide +kernel
theorem dL_lines_43 : decode cL_lines 43 = .ok (.istore_n 1, 1) := by decide +kernel
theorem dL_lines_44 : decode cL_lines 44 = .ok (.iload_n 2, 1) := by decide +kernel
theorem dL_lines_45 : decode cL_lines 45 = .ok (.aload_n 0, 1) := by decide +kernel
theorem dL_lines_46 : decode cL_lines 46 = .ok (.iload 7, 2) := by decide +kernel
theorem dL_lines_48 : decode cL_lines 48 = .ok (.bipush 7, 2) := by decide +kernel
theorem dL_lines_50 : decode cL_lines 50 = .ok (.invokevirtual 9, 3) := by decide +kernel
theorem dL_lines_53 : decode cL_lines 53 = .ok (.iadd, 1) := by decide +kernel
theorem dL_lines_54 : decode cL_lines 54 = .ok (.istore_n 2, 1) := by decide +kernel
theorem dL_lines_55 : decode cL_lines 55 = .ok (.aload_n 0, 1) := by decide +kernel
theorem dL_lines_56 : decode cL_lines 56 = .ok (.iload 7, 2) := by decide +kernel
theorem dL_lines_58 : decode cL_lines 58 = .ok (.iconst 4, 1) := by decide +kernel
theorem dL_lines_59 : decode cL_lines 59 = .ok (.invokevirtual 9, 3) := by decide +kernel
theorem dL_lines_62 : decode cL_lines 62 = .ok (.aload_n 0, 1) := by decide +kernel
theorem dL_lines_63 : decode cL_lines 63 = .ok (.iconst 0, 1) := by decide +kernel
theorem dL_lines_64 : decode cL_lines 64 = .ok (.invokevirtual 15, 3) := by decide +kernel
theorem dL_lines_67 : decode cL_lines 67 = .ok (.if_icmp .gt 22, 3) := by decide +kernel
theorem dL_lines_70 : decode cL_lines 70 = .ok (.aload_n 0, 1) := by decide +kernel
theorem dL_lines_71 : decode cL_lines 71 = .ok (.iconst 0, 1) := by decide +kernel
theorem dL_lines_72 : decode cL_lines 72 = .ok (.invokevirtual 15, 3) := by decide +kernel
theorem dL_lines_75 : decode cL_lines 75 = .ok (.aload_n 0, 1) := by decide +kernel
theorem dL_lines_76 : decode cL_lines 76 = .ok (.iload 7, 2) := by decide +kernel
theorem dL_lines_78 : decode cL_lines 78 = .ok (.iconst 5, 1) := by decide +kernel
theorem dL_lines_79 : decode cL_lines 79 = .ok (.invokevirtual 9, 3) := by decide +kernel
theorem dL_lines_82 : decode cL_lines 82 = .ok (.if_icmp .gt 7, 3) := by decide +kernel
theorem dL_lines_85 : decode cL_lines 85 = .ok (.iconst 1, 1) := by decide +kernel
theorem dL_lines_86 : decode cL_lines 86 = .ok (.goto 4, 3) := by decide +kernel
theorem dL_lines_89 : decode cL_lines 89 = .ok (.iconst 0, 1) := by decide +kernel
theorem dL_lines_90 : decode cL_lines 90 = .ok (.istore 8, 2) := by decide +kernel
theorem dL_lines_92 : decode cL_lines 92 = .ok (.iload_n 3, 1) := by decide +kernel
theorem dL_lines_93 : decode cL_lines 93 = .ok (.iload 8, 2) := by decide +kernel
theorem dL_lines_95 : decode cL_lines 95 = .ok (.ifCond .eq 7, 3) := by decide +kernel
theorem dL_lines_98 : decode cL_lines 98 = .ok (.iconst 1, 1) := by decide +kernel
theorem dL_lines_99 : decode cL_lines 99 = .ok (.goto 4, 3) := by decide +kernel
theorem dL_lines_102 : decode cL_lines 102 = .ok (.iconst 0, 1) := by decide +kernel
theorem dL_lines_103 : decode cL_lines 103 = .ok (.iadd, 1) := by decide +kernel
theorem dL_lines_104 : decode cL_lines 104 = .ok (.istore_n 3, 1) := by decide +kernel
theorem dL_lines_105 : decode cL_lines 105 = .ok (.aload_n 0, 1) := by decide +kernel
theorem dL_lines_106 : decode cL_lines 106 = .ok (.iload 7, 2) := by decide +kernel
theorem dL_lines_108 : decode cL_lines 108 = .ok (.invokevirtual 69, 3) := by decide +kernel
theorem dL_lines_111 : decode cL_lines 111 = .ok (.iconst (-1), 1) := by decide +kernel
theorem dL_lines_112 : decode cL_lines 112 = .ok (.if_icmp .lt 72, 3) := by decide +kernel
theorem dL_lines_115 : decode cL_lines 115 = .ok (.iload 8, 2) := by decide +kernel
theorem dL_lines_117 : decode cL_lines 117 = .ok (.ifCond .ne 25, 3) := by decide +kernel
theorem dL_lines_120 : decode cL_lines 120 = .ok (.aload_n 0, 1) := by decide +kernel
theorem dL_lines_121 : decode cL_lines 121 = .ok (.iload 7, 2) := by decide +kernel
theorem dL_lines_123 : decode cL_lines 123 = .ok (.bipush 6, 2) := by decide +kernel
theorem dL_lines_125 : decode cL_lines 125 = .ok (.invokevirtual 9, 3) := by decide +kernel
theorem dL_lines_128 : decode cL_lines 128 = .ok (.ifCond .ne 56, 3) := by decide +kernel
theorem dL_lines_131 : decode cL_lines 131 = .ok (.aload_n 0, 1) := by decide +kernel
theorem dL_lines_132 : decode cL_lines 132 = .ok (.iload 7, 2) := by decide +kernel
theorem dL_lines_134 : decode cL_lines 134 = .ok (.bipush 7, 2) := by decide +kernel
theorem dL_lines_136 : decode cL_lines 136 = .ok (.invokevirtual 9, 3) := by decide +kernel
theorem dL_lines_139 : decode cL_lines 139 = .ok (.ifCond .ne 45, 3) := by decide +kernel
theorem dL_lines_142 : decode cL_lines 142 = .ok (.aload_n 0, 1) := by decide +kernel
theorem dL_lines_143 : decode cL_lines 143 = .ok (.iload 7, 2) := by decide +kernel
theorem dL_lines_145 : decode cL_lines 145 = .ok (.bipush 6, 2) := by decide +kernel
theorem dL_lines_147 : decode cL_lines 147 = .ok (.invokevirtual 9, 3) := by decide +kernel
theorem dL_lines_150 : decode cL_lines 150 = .ok (.ifCond .eq 30, 3) := by decide +kernel
theorem dL_lines_153 : decode cL_lines 153 = .ok (.aload_n 0, 1) := by decide +kernel
theorem dL_lines_154 : decode cL_lines 154 = .ok (.iload 7, 2) := by decide +kernel
theorem dL_lines_156 : decode cL_lines 156 = .ok (.bipush 8, 2) := by decide +kernel
theorem dL_lines_158 : decode cL_lines 158 = .ok (.invokevirtual 9, 3) := by decide +kernel
theorem dL_lines_161 : decode cL_lines 161 = .ok (.ifCond .lt 23, 3) := by decide +kernel
theorem dL_lines_164 : decode cL_lines 164 = .ok (.aload_n 0, 1) := by decide +kernel
theorem dL_lines_165 : decode cL_lines 165 = .ok (.iload 7, 2) := by decide +kernel
theorem dL_lines_167 : decode cL_lines 167 = .ok (.bipush 8, 2) := by decide +kernel
theorem dL_lines_169 : decode cL_lines 169 = .ok (.invokevirtual 9, 3) := by decide +kernel
theorem dL_lines_172 : decode cL_lines 172 = .ok (.aload_n 0, 1) := by decide +kernel
theorem dL_lines_173 : decode cL_lines 173 = .ok (.iconst 0, 1) := by decide +kernel
theorem dL_lines_174 : decode cL_lines 174 = .ok (.invokevirtual 15, 3) := by decide +kernel
theorem dL_lines_177 : decode cL_lines 177 = .ok (.if_icmp .gt 7, 3) := by decide +kernel
theorem dL_lines_180 : decode cL_lines 180 = .ok (.iconst 1, 1) := by decide +kernel
theorem dL_lines_181 : decode cL_lines 181 = .ok (.goto 4, 3) := by decide +kernel
theorem dL_lines_184 : decode cL_lines 184 = .ok (.iconst 0, 1) := by decide +kernel
theorem dL_lines_185 : decode cL_lines 185 = .ok (.istore 6, 2) := by decide +kernel
theorem dL_lines_187 : decode cL_lines 187 = .ok (.iinc 7 1, 3) := by decide +kernel
theorem dL_lines_190 : decode cL_lines 190 = .ok (.goto (-172), 3) := by decide +kernel
theorem dL_lines_193 : decode cL_lines 193 = .ok (.iconst 1, 1) := by decide +kernel
theorem dL_lines_194 : decode cL_lines 194 = .ok (.istore 7, 2) := by decide +kernel
theorem dL_lines_196 : decode cL_lines 196 = .ok (.iload 7, 2) := by decide +kernel
theorem dL_lines_198 : decode cL_lines 198 = .ok (.sipush 128, 3) := by decide +kernel
theorem dL_lines_201 : decode cL_lines 201 = .ok (.if_icmp .ge 41, 3) := by decide +kernel
theorem dL_lines_204 : decode cL_lines 204 = .ok (.iload 4, 2) := by decide +kernel
theorem dL_lines_206 : decode cL_lines 206 = .ok (.aload_n 0, 1) := by decide +kernel
theorem dL_lines_207 : decode cL_lines 207 = .ok (.iload 7, 2) := by decide +kernel
theorem dL_lines_209 : decode cL_lines 209 = .ok (.iconst 0, 1) := by decide +kernel
theorem dL_lines_210 : decode cL_lines 210 = .ok (.invokevirtual 72, 3) := by decide +kernel
theorem dL_lines_213 : decode cL_lines 213 = .ok (.ifCond .lt 7, 3) := by decide +kernel
theorem dL_lines_216 : decode cL_lines 216 = .ok (.iconst 1, 1) := by decide +kernel
theorem dL_lines_217 : decode cL_lines 217 = .ok (.goto 4, 3) := by decide +kernel
theorem dL_lines_220 : decode cL_lines 220 = .ok (.iconst 0, 1) := by decide +kernel
theorem dL_lines_221 : decode cL_lines 221 = .ok (.iadd, 1) := by decide +kernel
theorem dL_lines_222 : decode cL_lines 222 = .ok (.istore 4, 2) := by decide +kernel
theorem dL_lines_224 : decode cL_lines 224 = .ok (.iload 5, 2) := by decide +kernel
theorem dL_lines_226 : decode cL_lines 226 = .ok (.aload_n 0, 1) := by decide +kernel
theorem dL_lines_227 : decode cL_lines 227 = .ok (.iload 7, 2) := by decide +kernel
theorem dL_lines_229 : decode cL_lines 229 = .ok (.iconst 4, 1) := by decide +kernel
theorem dL_lines_230 : decode cL_lines 230 = .ok (.invokevirtual 72, 3) := by decide +kernel
theorem dL_lines_233 : decode cL_lines 233 = .ok (.iadd, 1) := by decide +kernel
theorem dL_lines_234 : decode cL_lines 234 = .ok (.istore 5, 2) := by decide +kernel
theorem dL_lines_236 : decode cL_lines 236 = .ok (.iinc 7 1, 3) := by decide +kernel
theorem dL_lines_239 : decode cL_lines 239 = .ok (.goto (-43), 3) := by decide +kernel
theorem dL_lines_242 : decode cL_lines 242 = .ok (.iload 6, 2) := by decide +kernel
theorem dL_lines_244 : decode cL_lines 244 = .ok (.ifCond .eq 52, 3) := by decide +kernel
theorem dL_lines_247 : decode cL_lines 247 = .ok (.iload_n 1, 1) := by decide +kernel
theorem dL_lines_248 : decode cL_lines 248 = .ok (.aload_n 0, 1) := by decide +kernel
theorem dL_lines_249 : decode cL_lines 249 = .ok (.iconst 4, 1) := by decide +kernel
theorem dL_lines_250 : decode cL_lines 250 = .ok (.invokevirtual 15, 3) := by decide +kernel
theorem dL_lines_253 : decode cL_lines 253 = .ok (.iadd, 1) := by decide +kernel
theorem dL_lines_254 : decode cL_lines 254 = .ok (.bipush 64, 2) := by decide +kernel
theorem dL_lines_256 : decode cL_lines 256 = .ok (.if_icmp .ne 40, 3) := by decide +kernel
theorem dL_lines_259 : decode cL_lines 259 = .ok (.iload_n 2, 1) := by decide +kernel
theorem dL_lines_260 : decode cL_lines 260 = .ok (.aload_n 0, 1) := by decide +kernel
theorem dL_lines_261 : decode cL_lines 261 = .ok (.bipush 6, 2) := by decide +kernel
theorem dL_lines_263 : decode cL_lines 263 = .ok (.invokevirtual 15, 3) := by decide +kernel
theorem dL_lines_266 : decode cL_lines 266 = .ok (.if_icmp .ne 30, 3) := by decide +kernel
theorem dL_lines_269 : decode cL_lines 269 = .ok (.iload 4, 2) := by decide +kernel
theorem dL_lines_271 : decode cL_lines 271 = .ok (.iload_n 2, 1) := by decide +kernel
theorem dL_lines_272 : decode cL_lines 272 = .ok (.if_icmp .ne 24, 3) := by decide +kernel
theorem dL_lines_275 : decode cL_lines 275 = .ok (.iload 5, 2) := by decide +kernel
theorem dL_lines_277 : decode cL_lines 277 = .ok (.aload_n 0, 1) := by decide +kernel
theorem dL_lines_278 : decode cL_lines 278 = .ok (.iconst 5, 1) := by decide +kernel
theorem dL_lines_279 : decode cL_lines 279 = .ok (.invokevirtual 15, 3) := by decide +kernel
theorem dL_lines_282 : decode cL_lines 282 = .ok (.if_icmp .ne 14, 3) := by decide +kernel
theorem dL_lines_285 : decode cL_lines 285 = .ok (.iload 4, 2) := by decide +kernel
theorem dL_lines_287 : decode cL_lines 287 = .ok (.iload 5, 2) := by decide +kernel
theorem dL_lines_289 : decode cL_lines 289 = .ok (.if_icmp .gt 7, 3) := by decide +kernel
theorem dL_lines_292 : decode cL_lines 292 = .ok (.iconst 1, 1) := by decide +kernel
theorem dL_lines_293 : decode cL_lines 293 = .ok (.goto 4, 3) := by decide +kernel
theorem dL_lines_296 : decode cL_lines 296 = .ok (.iconst 0, 1) := by decide +kernel
theorem dL_lines_297 : decode cL_lines 297 = .ok (.istore 6, 2) := by decide +kernel
theorem dL_lines_299 : decode cL_lines 299 = .ok (.iload 6, 2) := by decide +kernel
theorem dL_lines_301 : decode cL_lines 301 = .ok (.ifCond .eq 16, 3) := by decide +kernel
theorem dL_lines_304 : decode cL_lines 304 = .ok (.iload_n 3, 1) := by decide +kernel
theorem dL_lines_305 : decode cL_lines 305 = .ok (.aload_n 0, 1) := by decide +kernel
theorem dL_lines_306 : decode cL_lines 306 = .ok (.iconst 2, 1) := by decide +kernel
theorem dL_lines_307 : decode cL_lines 307 = .ok (.invokevirtual 15, 3) := by decide +kernel
theorem dL_lines_310 : decode cL_lines 310 = .ok (.if_icmp .ne 7, 3) := by decide +kernel
theorem dL_lines_313 : decode cL_lines 313 = .ok (.iconst 1, 1) := by decide +kernel
theorem dL_lines_314 : decode cL_lines 314 = .ok (.goto 4, 3) := by decide +kernel
theorem dL_lines_317 : decode cL_lines 317 = .ok (.iconst 0, 1) := by decide +kernel
theorem dL_lines_318 : decode cL_lines 318 = .ok (.ireturn, 1) := by decide +kernel
theorem dL_act_0 : decode cL_act 0 = .ok (.aload_n 0, 1) := by decide +kernel
theorem dL_act_1 : decode cL_act 1 = .ok (.iconst 1, 1) := by decide +kernel
theorem dL_act_2 : decode cL_act 2 = .ok (.invokevirtual 15, 3) := by decide +kernel
theorem dL_act_5 : decode cL_act 5 = .ok (.istore_n 3, 1) := by decide +kernel
theorem dL_act_6 : decode cL_act 6 = .ok (.iload_n 3, 1) := by decide +kernel
theorem dL_act_7 : decode cL_act 7 = .ok (.ifCond .ne 7, 3) := by decide +kernel
theorem dL_act_10 : decode cL_act 10 = .ok (.iconst 0, 1) := by decide +kernel
theorem dL_act_11 : decode cL_act 11 = .ok (.goto 14, 3) := by decide +kernel
theorem dL_act_14 : decode cL_act 14 = .ok (.aload_n 1, 1) := by decide +kernel
theorem dL_act_15 : decode cL_act 15 = .ok (.iload_n 2, 1) := by decide +kernel
theorem dL_act_16 : decode cL_act 16 = .ok (.iconst 1, 1) := by decide +kernel
theorem dL_act_17 : decode cL_act 17 = .ok (.iadd, 1) := by decide +kernel
theorem dL_act_18 : decode cL_act 18 = .ok (.invokestatic 75, 3) := by decide +kernel
theorem dL_act_21 : decode cL_act 21 = .ok (.iload_n 3, 1) := by decide +kernel
theorem dL_act_22 : decode cL_act 22 = .ok (.invokestatic 79, 3) := by decide +kernel
theorem dL_act_25 : decode cL_act 25 = .ok (.istore 4, 2) := by decide +kernel
theorem dL_act_27 : decode cL_act 27 = .ok (.aload_n 1, 1) := by decide +kernel
theorem dL_act_28 : decode cL_act 28 = .ok (.iload_n 2, 1) := by decide +kernel
theorem dL_act_29 : decode cL_act 29 = .ok (.iconst 2, 1) := by decide +kernel
theorem dL_act_30 : decode cL_act 30 = .ok (.iadd, 1) := by decide +kernel
theorem dL_act_31 : decode cL_act 31 = .ok (.invokestatic 75, 3) := by decide +kernel
theorem dL_act_34 : decode cL_act 34 = .ok (.bipush 64, 2) := by decide +kernel
theorem dL_act_36 : decode cL_act 36 = .ok (.invokestatic 79, 3) := by decide +kernel
theorem dL_act_39 : decode cL_act 39 = .ok (.istore 5, 2) := by decide +kernel
theorem dL_act_41 : decode cL_act 41 = .ok (.aload_n 1, 1) := by decide +kernel
theorem dL_act_42 : decode cL_act 42 = .ok (.iload_n 2, 1) := by decide +kernel
theorem dL_act_43 : decode cL_act 43 = .ok (.iconst 3, 1) := by decide +kernel
theorem dL_act_44 : decode cL_act 44 = .ok (.iadd, 1) := by decide +kernel
theorem dL_act_45 : decode cL_act 45 = .ok (.invokestatic 75, 3) := by decide +kernel
theorem dL_act_48 : decode cL_act 48 = .ok (.bipush 41, 2) := by decide +kernel
theorem dL_act_50 : decode cL_act 50 = .ok (.invokestatic 79, 3) := by decide +kernel
theorem dL_act_53 : decode cL_act 53 = .ok (.bipush 20, 2) := by decide +kernel
theorem dL_act_55 : decode cL_act 55 = .ok (.isub, 1) := by decide +kernel
theorem dL_act_56 : decode cL_act 56 = .ok (.istore 6, 2) := by decide +kernel
theorem dL_act_58 : decode cL_act 58 = .ok (.iload_n 3, 1) := by decide +kernel
theorem dL_act_59 : decode cL_act 59 = .ok (.ifCond .ne 7, 3) := by decide +kernel
theorem dL_act_62 : decode cL_act 62 = .ok (.iconst 0, 1) := by decide +kernel
theorem dL_act_63 : decode cL_act 63 = .ok (.goto 13, 3) := by decide +kernel
theorem dL_act_66 : decode cL_act 66 = .ok (.aload_n 1, 1) := by decide +kernel
theorem dL_act_67 : decode cL_act 67 = .ok (.iload_n 2, 1) := by decide +kernel
theorem dL_act_68 : decode cL_act 68 = .ok (.invokestatic 75, 3) := by decide +kernel
theorem dL_act_71 : decode cL_act 71 = .ok (.bipush 11, 2) := by decide +kernel
theorem dL_act_73 : decode cL_act 73 = .ok (.invokestatic 79, 3) := by decide +kernel
theorem dL_act_76 : decode cL_act 76 = .ok (.tableswitch 197 0 9 #[56, 56, 56, 91, 118, 145, 154, 165, 185, 192], 56) := by decide +kernel
theorem dL_act_132 : decode cL_act 132 = .ok (.iload_n 3, 1) := by decide +kernel
theorem dL_act_133 : decode cL_act 133 = .ok (.bipush 6, 2) := by decide +kernel
theorem dL_act_135 : decode cL_act 135 = .ok (.if_icmp .ge 29, 3) := by decide +kernel
theorem dL_act_138 : decode cL_act 138 = .ok (.aload_n 0, 1) := by decide +kernel
theorem dL_act_139 : decode cL_act 139 = .ok (.iload 6, 2) := by decide +kernel
theorem dL_act_141 : decode cL_act 141 = .ok (.aload_n 1, 1) := by decide +kernel
theorem dL_act_142 : decode cL_act 142 = .ok (.iload_n 2, 1) := by decide +kernel
theorem dL_act_143 : decode cL_act 143 = .ok (.iconst 1, 1) := by decide +kernel
theorem dL_act_144 : decode cL_act 144 = .ok (.iadd, 1) := by decide +kernel
theorem dL_act_145 : decode cL_act 145 = .ok (.invokestatic 75, 3) := by decide +kernel
theorem dL_act_148 : decode cL_act 148 = .ok (.sipush 600, 3) := by decide +kernel
theorem dL_act_151 : decode cL_act 151 = .ok (.invokestatic 79, 3) := by decide +kernel
theorem dL_act_154 : decode cL_act 154 = .ok (.sipush 300, 3) := by decide +kernel
theorem dL_act_157 : decode cL_act 157 = .ok (.isub, 1) := by decide +kernel
theorem dL_act_158 : decode cL_act 158 = .ok (.invokestatic 82, 3) := by decide +kernel
theorem dL_act_161 : decode cL_act 161 = .ok (.goto 5, 3) := by decide +kernel
theorem dL_act_164 : decode cL_act 164 = .ok (.bipush (-3), 2) := by decide +kernel
theorem dL_act_166 : decode cL_act 166 = .ok (.ireturn, 1) := by decide +kernel
theorem dL_act_167 : decode cL_act 167 = .ok (.aload_n 0, 1) := by decide +kernel
theorem dL_act_168 : decode cL_act 168 = .ok (.iload 4, 2) := by decide +kernel
theorem dL_act_170 : decode cL_act 170 = .ok (.iload 5, 2) := by decide +kernel
theorem dL_act_172 : decode cL_act 172 = .ok (.iload 5, 2) := by decide +kernel
theorem dL_act_174 : decode cL_act 174 = .ok (.aload_n 1, 1) := by decide +kernel
theorem dL_act_175 : decode cL_act 175 = .ok (.iload_n 2, 1) := by decide +kernel
theorem dL_act_176 : decode cL_act 176 = .ok (.iconst 3, 1) := by decide +kernel
theorem dL_act_177 : decode cL_act 177 = .ok (.iadd, 1) := by decide +kernel
theorem dL_act_178 : decode cL_act 178 = .ok (.invokestatic 75, 3) := by decide +kernel
theorem dL_act_181 : decode cL_act 181 = .ok (.bipush 64, 2) := by decide +kernel
theorem dL_act_183 : decode cL_act 183 = .ok (.iload 5, 2) := by decide +kernel
theorem dL_act_185 : decode cL_act 185 = .ok (.isub, 1) := by decide +kernel
theorem dL_act_186 : decode cL_act 186 = .ok (.invokestatic 79, 3) := by decide +kernel
theorem dL_act_189 : decode cL_act 189 = .ok (.iadd, 1) := by decide +kernel
theorem dL_act_190 : decode cL_act 190 = .ok (.invokevirtual 84, 3) := by decide +kernel
theorem dL_act_193 : decode cL_act 193 = .ok (.ireturn, 1) := by decide +kernel
theorem dL_act_194 : decode cL_act 194 = .ok (.aload_n 0, 1) := by decide +kernel
theorem dL_act_195 : decode cL_act 195 = .ok (.iload 4, 2) := by decide +kernel
theorem dL_act_197 : decode cL_act 197 = .ok (.iload 5, 2) := by decide +kernel
theorem dL_act_199 : decode cL_act 199 = .ok (.iload 5, 2) := by decide +kernel
theorem dL_act_201 : decode cL_act 201 = .ok (.aload_n 1, 1) := by decide +kernel
theorem dL_act_202 : decode cL_act 202 = .ok (.iload_n 2, 1) := by decide +kernel
theorem dL_act_203 : decode cL_act 203 = .ok (.iconst 3, 1) := by decide +kernel
theorem dL_act_204 : decode cL_act 204 = .ok (.iadd, 1) := by decide +kernel
theorem dL_act_205 : decode cL_act 205 = .ok (.invokestatic 75, 3) := by decide +kernel
theorem dL_act_208 : decode cL_act 208 = .ok (.bipush 100, 2) := by decide +kernel
theorem dL_act_210 : decode cL_act 210 = .ok (.iload 5, 2) := by decide +kernel
theorem dL_act_212 : decode cL_act 212 = .ok (.isub, 1) := by decide +kernel
theorem dL_act_213 : decode cL_act 213 = .ok (.invokestatic 79, 3) := by decide +kernel
theorem dL_act_216 : decode cL_act 216 = .ok (.iadd, 1) := by decide +kernel
theorem dL_act_217 : decode cL_act 217 = .ok (.invokevirtual 87, 3) := by decide +kernel
theorem dL_act_220 : decode cL_act 220 = .ok (.ireturn, 1) := by decide +kernel
theorem dL_act_221 : decode cL_act 221 = .ok (.aload_n 0, 1) := by decide +kernel
theorem dL_act_222 : decode cL_act 222 = .ok (.iload 4, 2) := by decide +kernel
theorem dL_act_224 : decode cL_act 224 = .ok (.iload 6, 2) := by decide +kernel
theorem dL_act_226 : decode cL_act 226 = .ok (.invokestatic 90, 3) := by decide +kernel
theorem dL_act_229 : decode cL_act 229 = .ok (.ireturn, 1) := by decide +kernel
theorem dL_act_230 : decode cL_act 230 = .ok (.aload_n 0, 1) := by decide +kernel
theorem dL_act_231 : decode cL_act 231 = .ok (.iload 4, 2) := by decide +kernel
theorem dL_act_233 : decode cL_act 233 = .ok (.iload 5, 2) := by decide +kernel
theorem dL_act_235 : decode cL_act 235 = .ok (.iload 6, 2) := by decide +kernel
theorem dL_act_237 : decode cL_act 237 = .ok (.invokestatic 92, 3) := by decide +kernel
theorem dL_act_240 : decode cL_act 240 = .ok (.ireturn, 1) := by decide +kernel
theorem dL_act_241 : decode cL_act 241 = .ok (.aload_n 0, 1) := by decide +kernel
theorem dL_act_242 : decode cL_act 242 = .ok (.iload 5, 2) := by decide +kernel
theorem dL_act_244 : decode cL_act 244 = .ok (.aload_n 1, 1) := by decide +kernel
theorem dL_act_245 : decode cL_act 245 = .ok (.iload_n 2, 1) := by decide +kernel
theorem dL_act_246 : decode cL_act 246 = .ok (.iconst 1, 1) := by decide +kernel
theorem dL_act_247 : decode cL_act 247 = .ok (.iadd, 1) := by decide +kernel
theorem dL_act_248 : decode cL_act 248 = .ok (.invokestatic 75, 3) := by decide +kernel
theorem dL_act_251 : decode cL_act 251 = .ok (.bipush 36, 2) := by decide +kernel
theorem dL_act_253 : decode cL_act 253 = .ok (.invokestatic 79, 3) := by decide +kernel
theorem dL_act_256 : decode cL_act 256 = .ok (.iadd, 1) := by decide +kernel
theorem dL_act_257 : decode cL_act 257 = .ok (.invokevirtual 95, 3) := by decide +kernel
theorem dL_act_260 : decode cL_act 260 = .ok (.ireturn, 1) := by decide +kernel
theorem dL_act_261 : decode cL_act 261 = .ok (.aload_n 0, 1) := by decide +kernel
theorem dL_act_262 : decode cL_act 262 = .ok (.iload 4, 2) := by decide +kernel
theorem dL_act_264 : decode cL_act 264 = .ok (.invokevirtual 98, 3) := by decide +kernel
theorem dL_act_267 : decode cL_act 267 = .ok (.ireturn, 1) := by decide +kernel
theorem dL_act_268 : decode cL_act 268 = .ok (.aload_n 0, 1) := by decide +kernel
theorem dL_act_269 : decode cL_act 269 = .ok (.invokestatic 101, 3) := by decide +kernel
theorem dL_act_272 : decode cL_act 272 = .ok (.ireturn, 1) := by decide +kernel
theorem dL_act_273 : decode cL_act 273 = .ok (.aload_n 0, 1) := by decide +kernel
theorem dL_act_274 : decode cL_act 274 = .ok (.bipush 7, 2) := by decide +kernel
theorem dL_act_276 : decode cL_act 276 = .ok (.invokevirtual 15, 3) := by decide +kernel
theorem dL_act_279 : decode cL_act 279 = .ok (.aload_n 0, 1) := by decide +kernel
theorem dL_act_280 : decode cL_act 280 = .ok (.invokevirtual 104, 3) := by decide +kernel
theorem dL_act_283 : decode cL_act 283 = .ok (.isub, 1) := by decide +kernel
theorem dL_act_284 : decode cL_act 284 = .ok (.ireturn, 1) := by decide +kernel
theorem dL_law_0 : decode cL_law 0 = .ok (.new 10, 3) := by decide +kernel
theorem dL_law_3 : decode cL_law 3 = .ok (.dup, 1) := by decide +kernel
theorem dL_law_4 : decode cL_law 4 = .ok (.invokespecial 107, 3) := by decide +kernel
theorem dL_law_7 : decode cL_law 7 = .ok (.astore_n 1, 1) := by decide +kernel
theorem dL_law_8 : decode cL_law 8 = .ok (.iconst 1, 1) := by decide +kernel
theorem dL_law_9 : decode cL_law 9 = .ok (.istore_n 2, 1) := by decide +kernel
theorem dL_law_10 : decode cL_law 10 = .ok (.aload_n 0, 1) := by decide +kernel
theorem dL_law_11 : decode cL_law 11 = .ok (.arraylength, 1) := by decide +kernel
theorem dL_law_12 : decode cL_law 12 = .ok (.iconst 4, 1) := by decide +kernel
theorem dL_law_13 : decode cL_law 13 = .ok (.idiv, 1) := by decide +kernel
theorem dL_law_14 : decode cL_law 14 = .ok (.bipush 14, 2) := by decide +kernel
theorem dL_law_16 : decode cL_law 16 = .ok (.if_icmp .le 8, 3) := by decide +kernel
theorem dL_law_19 : decode cL_law 19 = .ok (.bipush 14, 2) := by decide +kernel
theorem dL_law_21 : decode cL_law 21 = .ok (.goto 7, 3) := by decide +kernel
theorem dL_law_24 : decode cL_law 24 = .ok (.aload_n 0, 1) := by decide +kernel
theorem dL_law_25 : decode cL_law 25 = .ok (.arraylength, 1) := by decide +kernel
theorem dL_law_26 : decode cL_law 26 = .ok (.iconst 4, 1) := by decide +kernel
theorem dL_law_27 : decode cL_law 27 = .ok (.idiv, 1) := by decide +kernel
theorem dL_law_28 : decode cL_law 28 = .ok (.istore_n 3, 1) := by decide +kernel
theorem dL_law_29 : decode cL_law 29 = .ok (.iconst 0, 1) := by decide +kernel
theorem dL_law_30 : decode cL_law 30 = .ok (.istore 4, 2) := by decide +kernel
theorem dL_law_32 : decode cL_law 32 = .ok (.iload 4, 2) := by decide +kernel
theorem dL_law_34 : decode cL_law 34 = .ok (.iload_n 3, 1) := by decide +kernel
theorem dL_law_35 : decode cL_law 35 = .ok (.if_icmp .ge 89, 3) := by decide +kernel
theorem dL_law_38 : decode cL_law 38 = .ok (.iload_n 2, 1) := by decide +kernel
theorem dL_law_39 : decode cL_law 39 = .ok (.ifCond .eq 85, 3) := by decide +kernel
theorem dL_law_42 : decode cL_law 42 = .ok (.aload_n 1, 1) := by decide +kernel
theorem dL_law_43 : decode cL_law 43 = .ok (.bipush 8, 2) := by decide +kernel
theorem dL_law_45 : decode cL_law 45 = .ok (.invokevirtual 15, 3) := by decide +kernel
theorem dL_law_48 : decode cL_law 48 = .ok (.istore 5, 2) := by decide +kernel
theorem dL_law_50 : decode cL_law 50 = .ok (.aload_n 1, 1) := by decide +kernel
theorem dL_law_51 : decode cL_law 51 = .ok (.aload_n 0, 1) := by decide +kernel
theorem dL_law_52 : decode cL_law 52 = .ok (.iconst 4, 1) := by decide +kernel
theorem dL_law_53 : decode cL_law 53 = .ok (.iload 4, 2) := by decide +kernel
theorem dL_law_55 : decode cL_law 55 = .ok (.imul, 1) := by decide +kernel
theorem dL_law_56 : decode cL_law 56 = .ok (.invokestatic 108, 3) := by decide +kernel
theorem dL_law_59 : decode cL_law 59 = .ok (.istore 6, 2) := by decide +kernel
theorem dL_law_61 : decode cL_law 61 = .ok (.iload 6, 2) := by decide +kernel
theorem dL_law_63 : decode cL_law 63 = .ok (.sipush (-10003), 3) := by decide +kernel
theorem dL_law_66 : decode cL_law 66 = .ok (.if_icmp .ne 14, 3) := by decide +kernel
theorem dL_law_69 : decode cL_law 69 = .ok (.aload_n 1, 1) := by decide +kernel
theorem dL_law_70 : decode cL_law 70 = .ok (.bipush 8, 2) := by decide +kernel
theorem dL_law_72 : decode cL_law 72 = .ok (.invokevirtual 15, 3) := by decide +kernel
theorem dL_law_75 : decode cL_law 75 = .ok (.iload 5, 2) := by decide +kernel
theorem dL_law_77 : decode cL_law 77 = .ok (.if_icmp .ne 7, 3) := by decide +kernel
theorem dL_law_80 : decode cL_law 80 = .ok (.iconst 1, 1) := by decide +kernel
theorem dL_law_81 : decode cL_law 81 = .ok (.goto 4, 3) := by decide +kernel
theorem dL_law_84 : decode cL_law 84 = .ok (.iconst 0, 1) := by decide +kernel
theorem dL_law_85 : decode cL_law 85 = .ok (.istore_n 2, 1) := by decide +kernel
theorem dL_law_86 : decode cL_law 86 = .ok (.iload_n 2, 1) := by decide +kernel
theorem dL_law_87 : decode cL_law 87 = .ok (.ifCond .eq 29, 3) := by decide +kernel
theorem dL_law_90 : decode cL_law 90 = .ok (.aload_n 1, 1) := by decide +kernel
theorem dL_law_91 : decode cL_law 91 = .ok (.invokestatic 112, 3) := by decide +kernel
theorem dL_law_94 : decode cL_law 94 = .ok (.ifCond .eq 22, 3) := by decide +kernel
theorem dL_law_97 : decode cL_law 97 = .ok (.iload 4, 2) := by decide +kernel
theorem dL_law_99 : decode cL_law 99 = .ok (.iconst 3, 1) := by decide +kernel
theorem dL_law_100 : decode cL_law 100 = .ok (.irem, 1) := by decide +kernel
theorem dL_law_101 : decode cL_law 101 = .ok (.iconst 2, 1) := by decide +kernel
theorem dL_law_102 : decode cL_law 102 = .ok (.if_icmp .ne 10, 3) := by decide +kernel
theorem dL_law_105 : decode cL_law 105 = .ok (.aload_n 1, 1) := by decide +kernel
theorem dL_law_106 : decode cL_law 106 = .ok (.invokestatic 116, 3) := by decide +kernel
theorem dL_law_109 : decode cL_law 109 = .ok (.ifCond .eq 7, 3) := by decide +kernel
theorem dL_law_112 : decode cL_law 112 = .ok (.iconst 1, 1) := by decide +kernel
theorem dL_law_113 : decode cL_law 113 = .ok (.goto 4, 3) := by decide +kernel
theorem dL_law_116 : decode cL_law 116 = .ok (.iconst 0, 1) := by decide +kernel
theorem dL_law_117 : decode cL_law 117 = .ok (.istore_n 2, 1) := by decide +kernel
theorem dL_law_118 : decode cL_law 118 = .ok (.iinc 4 1, 3) := by decide +kernel
theorem dL_law_121 : decode cL_law 121 = .ok (.goto (-89), 3) := by decide +kernel
theorem dL_law_124 : decode cL_law 124 = .ok (.iload_n 2, 1) := by decide +kernel
theorem dL_law_125 : decode cL_law 125 = .ok (.ifCond .eq 14, 3) := by decide +kernel
theorem dL_law_128 : decode cL_law 128 = .ok (.aload_n 1, 1) := by decide +kernel
theorem dL_law_129 : decode cL_law 129 = .ok (.invokestatic 116, 3) := by decide +kernel
theorem dL_law_132 : decode cL_law 132 = .ok (.ifCond .eq 7, 3) := by decide +kernel
theorem dL_law_135 : decode cL_law 135 = .ok (.iconst 1, 1) := by decide +kernel
theorem dL_law_136 : decode cL_law 136 = .ok (.goto 4, 3) := by decide +kernel
theorem dL_law_139 : decode cL_law 139 = .ok (.iconst 0, 1) := by decide +kernel
theorem dL_law_140 : decode cL_law 140 = .ok (.ireturn, 1) := by decide +kernel
