theorem dX8_live_52 : decode cX8_live 52 = .ok (.iload_n 3, 1) := by decide +kernel
theorem dX8_live_53 : decode cX8_live 53 = .ok (.invokevirtual 84, 3) := by decide +kernel
theorem dX8_live_56 : decode cX8_live 56 = .ok (.ireturn, 1) := by decide +kernel
theorem dX8_lift_0 : decode cX8_lift 0 = .ok (.aload_n 0, 1) := by decide +kernel
theorem dX8_lift_1 : decode cX8_lift 1 = .ok (.iconst 0, 1) := by decide +kernel
theorem dX8_lift_2 : decode cX8_lift 2 = .ok (.putfield 35, 3) := by decide +kernel
theorem dX8_lift_5 : decode cX8_lift 5 = .ok (.aload_n 0, 1) := by decide +kernel
theorem dX8_lift_6 : decode cX8_lift 6 = .ok (.iload_n 1, 1) := by decide +kernel
theorem dX8_lift_7 : decode cX8_lift 7 = .ok (.invokevirtual 78, 3) := by decide +kernel
theorem dX8_lift_10 : decode cX8_lift 10 = .ok (.ifCond .ne 9, 3) := by decide +kernel
theorem dX8_lift_13 : decode cX8_lift 13 = .ok (.aload_n 0, 1) := by decide +kernel
theorem dX8_lift_14 : decode cX8_lift 14 = .ok (.iconst 1, 1) := by decide +kernel
theorem dX8_lift_15 : decode cX8_lift 15 = .ok (.invokevirtual 46, 3) := by decide +kernel
theorem dX8_lift_18 : decode cX8_lift 18 = .ok (.ireturn, 1) := by decide +kernel
theorem dX8_lift_19 : decode cX8_lift 19 = .ok (.iload_n 2, 1) := by decide +kernel
theorem dX8_lift_20 : decode cX8_lift 20 = .ok (.invokestatic 68, 3) := by decide +kernel
theorem dX8_lift_23 : decode cX8_lift 23 = .ok (.ifCond .ne 9, 3) := by decide +kernel
theorem dX8_lift_26 : decode cX8_lift 26 = .ok (.aload_n 0, 1) := by decide +kernel
theorem dX8_lift_27 : decode cX8_lift 27 = .ok (.iconst 2, 1) := by decide +kernel
theorem dX8_lift_28 : decode cX8_lift 28 = .ok (.invokevirtual 46, 3) := by decide +kernel
theorem dX8_lift_31 : decode cX8_lift 31 = .ok (.ireturn, 1) := by decide +kernel
theorem dX8_lift_32 : decode cX8_lift 32 = .ok (.aload_n 0, 1) := by decide +kernel
theorem dX8_lift_33 : decode cX8_lift 33 = .ok (.iload_n 1, 1) := by decide +kernel
theorem dX8_lift_34 : decode cX8_lift 34 = .ok (.iconst 1, 1) := by decide +kernel
theorem dX8_lift_35 : decode cX8_lift 35 = .ok (.invokevirtual 50, 3) := by decide +kernel
theorem dX8_lift_38 : decode cX8_lift 38 = .ok (.iload_n 2, 1) := by decide +kernel
theorem dX8_lift_39 : decode cX8_lift 39 = .ok (.iadd, 1) := by decide +kernel
theorem dX8_lift_40 : decode cX8_lift 40 = .ok (.istore_n 3, 1) := by decide +kernel
theorem dX8_lift_41 : decode cX8_lift 41 = .ok (.iload_n 3, 1) := by decide +kernel
theorem dX8_lift_42 : decode cX8_lift 42 = .ok (.invokestatic 68, 3) := by decide +kernel
theorem dX8_lift_45 : decode cX8_lift 45 = .ok (.ifCond .ne 9, 3) := by decide +kernel
theorem dX8_lift_48 : decode cX8_lift 48 = .ok (.aload_n 0, 1) := by decide +kernel
theorem dX8_lift_49 : decode cX8_lift 49 = .ok (.iconst 3, 1) := by decide +kernel
theorem dX8_lift_50 : decode cX8_lift 50 = .ok (.invokevirtual 46, 3) := by decide +kernel
theorem dX8_lift_53 : decode cX8_lift 53 = .ok (.ireturn, 1) := by decide +kernel
theorem dX8_lift_54 : decode cX8_lift 54 = .ok (.aload_n 0, 1) := by decide +kernel
theorem dX8_lift_55 : decode cX8_lift 55 = .ok (.invokevirtual 71, 3) := by decide +kernel
theorem dX8_lift_58 : decode cX8_lift 58 = .ok (.aload_n 0, 1) := by decide +kernel
theorem dX8_lift_59 : decode cX8_lift 59 = .ok (.getfield 7, 3) := by decide +kernel
theorem dX8_lift_62 : decode cX8_lift 62 = .ok (.iconst 2, 1) := by decide +kernel
theorem dX8_lift_63 : decode cX8_lift 63 = .ok (.bipush 6, 2) := by decide +kernel
theorem dX8_lift_65 : decode cX8_lift 65 = .ok (.iload_n 1, 1) := by decide +kernel
theorem dX8_lift_66 : decode cX8_lift 66 = .ok (.imul, 1) := by decide +kernel
theorem dX8_lift_67 : decode cX8_lift 67 = .ok (.iadd, 1) := by decide +kernel
theorem dX8_lift_68 : decode cX8_lift 68 = .ok (.iconst 1, 1) := by decide +kernel
theorem dX8_lift_69 : decode cX8_lift 69 = .ok (.iadd, 1) := by decide +kernel
theorem dX8_lift_70 : decode cX8_lift 70 = .ok (.iload_n 3, 1) := by decide +kernel
theorem dX8_lift_71 : decode cX8_lift 71 = .ok (.iastore, 1) := by decide +kernel
theorem dX8_lift_72 : decode cX8_lift 72 = .ok (.iload_n 3, 1) := by decide +kernel
theorem dX8_lift_73 : decode cX8_lift 73 = .ok (.ireturn, 1) := by decide +kernel
theorem dX8_turn_0 : decode cX8_turn 0 = .ok (.aload_n 0, 1) := by decide +kernel
theorem dX8_turn_1 : decode cX8_turn 1 = .ok (.iconst 0, 1) := by decide +kernel
theorem dX8_turn_2 : decode cX8_turn 2 = .ok (.putfield 35, 3) := by decide +kernel
theorem dX8_turn_5 : decode cX8_turn 5 = .ok (.aload_n 0, 1) := by decide +kernel
theorem dX8_turn_6 : decode cX8_turn 6 = .ok (.iload_n 1, 1) := by decide +kernel
theorem dX8_turn_7 : decode cX8_turn 7 = .ok (.invokevirtual 78, 3) := by decide +kernel
theorem dX8_turn_10 : decode cX8_turn 10 = .ok (.ifCond .ne 9, 3) := by decide +kernel
theorem dX8_turn_13 : decode cX8_turn 13 = .ok (.aload_n 0, 1) := by decide +kernel
theorem dX8_turn_14 : decode cX8_turn 14 = .ok (.iconst 1, 1) := by decide +kernel
theorem dX8_turn_15 : decode cX8_turn 15 = .ok (.invokevirtual 46, 3) := by decide +kernel
theorem dX8_turn_18 : decode cX8_turn 18 = .ok (.ireturn, 1) := by decide +kernel
theorem dX8_turn_19 : decode cX8_turn 19 = .ok (.iload_n 2, 1) := by decide +kernel
theorem dX8_turn_20 : decode cX8_turn 20 = .ok (.invokestatic 81, 3) := by decide +kernel
theorem dX8_turn_23 : decode cX8_turn 23 = .ok (.ifCond .eq 10, 3) := by decide +kernel
theorem dX8_turn_26 : decode cX8_turn 26 = .ok (.iload_n 3, 1) := by decide +kernel
theorem dX8_turn_27 : decode cX8_turn 27 = .ok (.invokestatic 64, 3) := by decide +kernel
theorem dX8_turn_30 : decode cX8_turn 30 = .ok (.ifCond .ne 9, 3) := by decide +kernel
theorem dX8_turn_33 : decode cX8_turn 33 = .ok (.aload_n 0, 1) := by decide +kernel
theorem dX8_turn_34 : decode cX8_turn 34 = .ok (.iconst 2, 1) := by decide +kernel
theorem dX8_turn_35 : decode cX8_turn 35 = .ok (.invokevirtual 46, 3) := by decide +kernel
theorem dX8_turn_38 : decode cX8_turn 38 = .ok (.ireturn, 1) := by decide +kernel
theorem dX8_turn_39 : decode cX8_turn 39 = .ok (.aload_n 0, 1) := by decide +kernel
theorem dX8_turn_40 : decode cX8_turn 40 = .ok (.iload_n 1, 1) := by decide +kernel
theorem dX8_turn_41 : decode cX8_turn 41 = .ok (.iload_n 2, 1) := by decide +kernel
theorem dX8_turn_42 : decode cX8_turn 42 = .ok (.invokevirtual 54, 3) := by decide +kernel
theorem dX8_turn_45 : decode cX8_turn 45 = .ok (.iload_n 3, 1) := by decide +kernel
theorem dX8_turn_46 : decode cX8_turn 46 = .ok (.iload_n 2, 1) := by decide +kernel
theorem dX8_turn_47 : decode cX8_turn 47 = .ok (.imul, 1) := by decide +kernel
theorem dX8_turn_48 : decode cX8_turn 48 = .ok (.isub, 1) := by decide +kernel
theorem dX8_turn_49 : decode cX8_turn 49 = .ok (.istore 4, 2) := by decide +kernel
theorem dX8_turn_51 : decode cX8_turn 51 = .ok (.iload 4, 2) := by decide +kernel
theorem dX8_turn_53 : decode cX8_turn 53 = .ok (.invokestatic 68, 3) := by decide +kernel
theorem dX8_turn_56 : decode cX8_turn 56 = .ok (.ifCond .ne 9, 3) := by decide +kernel
theorem dX8_turn_59 : decode cX8_turn 59 = .ok (.aload_n 0, 1) := by decide +kernel
theorem dX8_turn_60 : decode cX8_turn 60 = .ok (.iconst 3, 1) := by decide +kernel
theorem dX8_turn_61 : decode cX8_turn 61 = .ok (.invokevirtual 46, 3) := by decide +kernel
theorem dX8_turn_64 : decode cX8_turn 64 = .ok (.ireturn, 1) := by decide +kernel
theorem dX8_turn_65 : decode cX8_turn 65 = .ok (.aload_n 0, 1) := by decide +kernel
theorem dX8_turn_66 : decode cX8_turn 66 = .ok (.invokevirtual 71, 3) := by decide +kernel
theorem dX8_turn_69 : decode cX8_turn 69 = .ok (.aload_n 0, 1) := by decide +kernel
theorem dX8_turn_70 : decode cX8_turn 70 = .ok (.getfield 7, 3) := by decide +kernel
theorem dX8_turn_73 : decode cX8_turn 73 = .ok (.iconst 2, 1) := by decide +kernel
theorem dX8_turn_74 : decode cX8_turn 74 = .ok (.bipush 6, 2) := by decide +kernel
theorem dX8_turn_76 : decode cX8_turn 76 = .ok (.iload_n 1, 1) := by decide +kernel
theorem dX8_turn_77 : decode cX8_turn 77 = .ok (.imul, 1) := by decide +kernel
theorem dX8_turn_78 : decode cX8_turn 78 = .ok (.iadd, 1) := by decide +kernel
theorem dX8_turn_79 : decode cX8_turn 79 = .ok (.iload_n 3, 1) := by decide +kernel
theorem dX8_turn_80 : decode cX8_turn 80 = .ok (.iastore, 1) := by decide +kernel
theorem dX8_turn_81 : decode cX8_turn 81 = .ok (.aload_n 0, 1) := by decide +kernel
theorem dX8_turn_82 : decode cX8_turn 82 = .ok (.getfield 7, 3) := by decide +kernel
theorem dX8_turn_85 : decode cX8_turn 85 = .ok (.iconst 2, 1) := by decide +kernel
theorem dX8_turn_86 : decode cX8_turn 86 = .ok (.bipush 6, 2) := by decide +kernel
theorem dX8_turn_88 : decode cX8_turn 88 = .ok (.iload_n 1, 1) := by decide +kernel
theorem dX8_turn_89 : decode cX8_turn 89 = .ok (.imul, 1) := by decide +kernel
theorem dX8_turn_90 : decode cX8_turn 90 = .ok (.iadd, 1) := by decide +kernel
theorem dX8_turn_91 : decode cX8_turn 91 = .ok (.iconst 1, 1) := by decide +kernel
theorem dX8_turn_92 : decode cX8_turn 92 = .ok (.iadd, 1) := by decide +kernel
theorem dX8_turn_93 : decode cX8_turn 93 = .ok (.iload 4, 2) := by decide +kernel
theorem dX8_turn_95 : decode cX8_turn 95 = .ok (.iastore, 1) := by decide +kernel
theorem dX8_turn_96 : decode cX8_turn 96 = .ok (.iload 4, 2) := by decide +kernel
theorem dX8_turn_98 : decode cX8_turn 98 = .ok (.ireturn, 1) := by decide +kernel
theorem dX8_remove_0 : decode cX8_remove 0 = .ok (.aload_n 0, 1) := by decide +kernel
theorem dX8_remove_1 : decode cX8_remove 1 = .ok (.iconst 0, 1) := by decide +kernel
theorem dX8_remove_2 : decode cX8_remove 2 = .ok (.putfield 35, 3) := by decide +kernel
theorem dX8_remove_5 : decode cX8_remove 5 = .ok (.aload_n 0, 1) := by decide +kernel
theorem dX8_remove_6 : decode cX8_remove 6 = .ok (.iload_n 1, 1) := by decide +kernel
theorem dX8_remove_7 : decode cX8_remove 7 = .ok (.invokevirtual 78, 3) := by decide +kernel
theorem dX8_remove_10 : decode cX8_remove 10 = .ok (.ifCond .ne 9, 3) := by decide +kernel
theorem dX8_remove_13 : decode cX8_remove 13 = .ok (.aload_n 0, 1) := by decide +kernel
theorem dX8_remove_14 : decode cX8_remove 14 = .ok (.iconst 1, 1) := by decide +kernel
theorem dX8_remove_15 : decode cX8_remove 15 = .ok (.invokevirtual 46, 3) := by decide +kernel
theorem dX8_remove_18 : decode cX8_remove 18 = .ok (.ireturn, 1) := by decide +kernel
theorem dX8_remove_19 : decode cX8_remove 19 = .ok (.aload_n 0, 1) := by decide +kernel
theorem dX8_remove_20 : decode cX8_remove 20 = .ok (.invokevirtual 71, 3) := by decide +kernel
theorem dX8_remove_23 : decode cX8_remove 23 = .ok (.aload_n 0, 1) := by decide +kernel
theorem dX8_remove_24 : decode cX8_remove 24 = .ok (.iload_n 1, 1) := by decide +kernel
theorem dX8_remove_25 : decode cX8_remove 25 = .ok (.invokevirtual 91, 3) := by decide +kernel
theorem dX8_remove_28 : decode cX8_remove 28 = .ok (.aload_n 0, 1) := by decide +kernel
theorem dX8_remove_29 : decode cX8_remove 29 = .ok (.getfield 7, 3) := by decide +kernel
theorem dX8_remove_32 : decode cX8_remove 32 = .ok (.iconst 1, 1) := by decide +kernel
theorem dX8_remove_33 : decode cX8_remove 33 = .ok (.iaload, 1) := by decide +kernel
theorem dX8_remove_34 : decode cX8_remove 34 = .ok (.ireturn, 1) := by decide +kernel
theorem dX8_prune_0 : decode cX8_prune 0 = .ok (.aload_n 0, 1) := by decide +kernel
theorem dX8_prune_1 : decode cX8_prune 1 = .ok (.iconst 0, 1) := by decide +kernel
theorem dX8_prune_2 : decode cX8_prune 2 = .ok (.putfield 35, 3) := by decide +kernel
theorem dX8_prune_5 : decode cX8_prune 5 = .ok (.aload_n 0, 1) := by decide +kernel
theorem dX8_prune_6 : decode cX8_prune 6 = .ok (.invokevirtual 71, 3) := by decide +kernel
theorem dX8_prune_9 : decode cX8_prune 9 = .ok (.aload_n 0, 1) := by decide +kernel
theorem dX8_prune_10 : decode cX8_prune 10 = .ok (.invokevirtual 95, 3) := by decide +kernel
theorem dX8_prune_13 : decode cX8_prune 13 = .ok (.istore_n 1, 1) := by decide +kernel
theorem dX8_prune_14 : decode cX8_prune 14 = .ok (.aload_n 0, 1) := by decide +kernel
theorem dX8_prune_15 : decode cX8_prune 15 = .ok (.getfield 7, 3) := by decide +kernel
theorem dX8_prune_18 : decode cX8_prune 18 = .ok (.iconst 1, 1) := by decide +kernel
theorem dX8_prune_19 : decode cX8_prune 19 = .ok (.iaload, 1) := by decide +kernel
theorem dX8_prune_20 : decode cX8_prune 20 = .ok (.iconst 1, 1) := by decide +kernel
theorem dX8_prune_21 : decode cX8_prune 21 = .ok (.isub, 1) := by decide +kernel
theorem dX8_prune_22 : decode cX8_prune 22 = .ok (.istore_n 2, 1) := by decide +kernel
theorem dX8_prune_23 : decode cX8_prune 23 = .ok (.iload_n 2, 1) := by decide +kernel
theorem dX8_prune_24 : decode cX8_prune 24 = .ok (.ifCond .lt 23, 3) := by decide +kernel
theorem dX8_prune_27 : decode cX8_prune 27 = .ok (.aload_n 0, 1) := by decide +kernel
theorem dX8_prune_28 : decode cX8_prune 28 = .ok (.getfield 31, 3) := by decide +kernel
theorem dX8_prune_31 : decode cX8_prune 31 = .ok (.iload_n 2, 1) := by decide +kernel
theorem dX8_prune_32 : decode cX8_prune 32 = .ok (.baload, 1) := by decide +kernel
theorem dX8_prune_33 : decode cX8_prune 33 = .ok (.ifCond .ne 8, 3) := by decide +kernel
theorem dX8_prune_36 : decode cX8_prune 36 = .ok (.aload_n 0, 1) := by decide +kernel
theorem dX8_prune_37 : decode cX8_prune 37 = .ok (.iload_n 2, 1) := by decide +kernel
theorem dX8_prune_38 : decode cX8_prune 38 = .ok (.invokevirtual 91, 3) := by decide +kernel
theorem dX8_prune_41 : decode cX8_prune 41 = .ok (.iinc 2 (-1), 3) := by decide +kernel
theorem dX8_prune_44 : decode cX8_prune 44 = .ok (.goto (-21), 3) := by decide +kernel
theorem dX8_prune_47 : decode cX8_prune 47 = .ok (.iload_n 1, 1) := by decide +kernel
theorem dX8_prune_48 : decode cX8_prune 48 = .ok (.ireturn, 1) := by decide +kernel
theorem dX8_go_0 : decode cX8_go 0 = .ok (.aload_n 0, 1) := by decide +kernel
theorem dX8_go_1 : decode cX8_go 1 = .ok (.iconst 0, 1) := by decide +kernel
theorem dX8_go_2 : decode cX8_go 2 = .ok (.putfield 35, 3) := by decide +kernel
theorem dX8_go_5 : decode cX8_go 5 = .ok (.iload_n 1, 1) := by decide +kernel
theorem dX8_go_6 : decode cX8_go 6 = .ok (.invokestatic 88, 3) := by decide +kernel
theorem dX8_go_9 : decode cX8_go 9 = .ok (.ifCond .ne 9, 3) := by decide +kernel
theorem dX8_go_12 : decode cX8_go 12 = .ok (.aload_n 0, 1) := by decide +kernel
theorem dX8_go_13 : decode cX8_go 13 = .ok (.iconst 1, 1) := by decide +kernel
theorem dX8_go_14 : decode cX8_go 14 = .ok (.invokevirtual 46, 3) := by decide +kernel
theorem dX8_go_17 : decode cX8_go 17 = .ok (.ireturn, 1) := by decide +kernel
theorem dX8_go_18 : decode cX8_go 18 = .ok (.aload_n 0, 1) := by decide +kernel
theorem dX8_go_19 : decode cX8_go 19 = .ok (.invokevirtual 71, 3) := by decide +kernel
theorem dX8_go_22 : decode cX8_go 22 = .ok (.aload_n 0, 1) := by decide +kernel
theorem dX8_go_23 : decode cX8_go 23 = .ok (.getfield 7, 3) := by decide +kernel
theorem dX8_go_26 : decode cX8_go 26 = .ok (.iconst 0, 1) := by decide +kernel
theorem dX8_go_27 : decode cX8_go 27 = .ok (.iaload, 1) := by decide +kernel
theorem dX8_go_28 : decode cX8_go 28 = .ok (.istore_n 2, 1) := by decide +kernel
theorem dX8_go_29 : decode cX8_go 29 = .ok (.aload_n 0, 1) := by decide +kernel
theorem dX8_go_30 : decode cX8_go 30 = .ok (.getfield 7, 3) := by decide +kernel
theorem dX8_go_33 : decode cX8_go 33 = .ok (.iconst 0, 1) := by decide +kernel
theorem dX8_go_34 : decode cX8_go 34 = .ok (.iload_n 1, 1) := by decide +kernel
theorem dX8_go_35 : decode cX8_go 35 = .ok (.iastore, 1) := by decide +kernel
theorem dX8_go_36 : decode cX8_go 36 = .ok (.iload_n 2, 1) := by decide +kernel
theorem dX8_go_37 : decode cX8_go 37 = .ok (.ireturn, 1) := by decide +kernel
theorem dX8_firstOf_0 : decode cX8_firstOf 0 = .ok (.bipush 64, 2) := by decide +kernel
theorem dX8_firstOf_2 : decode cX8_firstOf 2 = .ok (.istore_n 1, 1) := by decide +kernel
theorem dX8_firstOf_3 : decode cX8_firstOf 3 = .ok (.iload_n 0, 1) := by decide +kernel
theorem dX8_firstOf_4 : decode cX8_firstOf 4 = .ok (.istore_n 2, 1) := by decide +kernel
theorem dX8_firstOf_5 : decode cX8_firstOf 5 = .ok (.iload_n 2, 1) := by decide +kernel
theorem dX8_firstOf_6 : decode cX8_firstOf 6 = .ok (.iconst 1, 1) := by decide +kernel
theorem dX8_firstOf_7 : decode cX8_firstOf 7 = .ok (.if_icmp .le 14, 3) := by decide +kernel
theorem dX8_firstOf_10 : decode cX8_firstOf 10 = .ok (.iload_n 2, 1) := by decide +kernel
theorem dX8_firstOf_11 : decode cX8_firstOf 11 = .ok (.iconst 2, 1) := by decide +kernel
theorem dX8_firstOf_12 : decode cX8_firstOf 12 = .ok (.idiv, 1) := by decide +kernel
theorem dX8_firstOf_13 : decode cX8_firstOf 13 = .ok (.istore_n 2, 1) := by decide +kernel
theorem dX8_firstOf_14 : decode cX8_firstOf 14 = .ok (.iload_n 1, 1) := by decide +kernel
theorem dX8_firstOf_15 : decode cX8_firstOf 15 = .ok (.iconst 2, 1) := by decide +kernel
theorem dX8_firstOf_16 : decode cX8_firstOf 16 = .ok (.idiv, 1) := by decide +kernel
theorem dX8_firstOf_17 : decode cX8_firstOf 17 = .ok (.istore_n 1, 1) := by decide +kernel
theorem dX8_firstOf_18 : decode cX8_firstOf 18 = .ok (.goto (-13), 3) := by decide +kernel
theorem dX8_firstOf_21 : decode cX8_firstOf 21 = .ok (.bipush 64, 2) := by decide +kernel
theorem dX8_firstOf_23 : decode cX8_firstOf 23 = .ok (.iload_n 1, 1) := by decide +kernel
theorem dX8_firstOf_24 : decode cX8_firstOf 24 = .ok (.idiv, 1) := by decide +kernel
theorem dX8_firstOf_25 : decode cX8_firstOf 25 = .ok (.istore_n 3, 1) := by decide +kernel
theorem dX8_firstOf_26 : decode cX8_firstOf 26 = .ok (.iload_n 0, 1) := by decide +kernel
theorem dX8_firstOf_27 : decode cX8_firstOf 27 = .ok (.iload_n 3, 1) := by decide +kernel
theorem dX8_firstOf_28 : decode cX8_firstOf 28 = .ok (.isub, 1) := by decide +kernel
theorem dX8_firstOf_29 : decode cX8_firstOf 29 = .ok (.iload_n 1, 1) := by decide +kernel
theorem dX8_firstOf_30 : decode cX8_firstOf 30 = .ok (.imul, 1) := by decide +kernel
theorem dX8_firstOf_31 : decode cX8_firstOf 31 = .ok (.ireturn, 1) := by decide +kernel
theorem dX8_widthOf_0 : decode cX8_widthOf 0 = .ok (.bipush 64, 2) := by decide +kernel
theorem dX8_widthOf_2 : decode cX8_widthOf 2 = .ok (.istore_n 1, 1) := by decide +kernel
theorem dX8_widthOf_3 : decode cX8_widthOf 3 = .ok (.iload_n 0, 1) := by decide +kernel
theorem dX8_widthOf_4 : decode cX8_widthOf 4 = .ok (.istore_n 2, 1) := by decide +kernel
theorem dX8_widthOf_5 : decode cX8_widthOf 5 = .ok (.iload_n 2, 1) := by decide +kernel
theorem dX8_widthOf_6 : decode cX8_widthOf 6 = .ok (.iconst 1, 1) := by decide +kernel
theorem dX8_widthOf_7 : decode cX8_widthOf 7 = .ok (.if_icmp .le 14, 3) := by decide +kernel
theorem dX8_widthOf_10 : decode cX8_widthOf 10 = .ok (.iload_n 1, 1) := by decide +kernel
theorem dX8_widthOf_11 : decode cX8_widthOf 11 = .ok (.iconst 2, 1) := by decide +kernel
theorem dX8_widthOf_12 : decode cX8_widthOf 12 = .ok (.idiv, 1) := by decide +kernel
theorem dX8_widthOf_13 : decode cX8_widthOf 13 = .ok (.istore_n 1, 1) := by decide +kernel
theorem dX8_widthOf_14 : decode cX8_widthOf 14 = .ok (.iload_n 2, 1) := by decide +kernel
theorem dX8_widthOf_15 : decode cX8_widthOf 15 = .ok (.iconst 2, 1) := by decide +kernel
theorem dX8_widthOf_16 : decode cX8_widthOf 16 = .ok (.idiv, 1) := by decide +kernel
theorem dX8_widthOf_17 : decode cX8_widthOf 17 = .ok (.istore_n 2, 1) := by decide +kernel
theorem dX8_widthOf_18 : decode cX8_widthOf 18 = .ok (.goto (-13), 3) := by decide +kernel
theorem dX8_widthOf_21 : decode cX8_widthOf 21 = .ok (.iload_n 1, 1) := by decide +kernel
theorem dX8_widthOf_22 : decode cX8_widthOf 22 = .ok (.ireturn, 1) := by decide +kernel
theorem dX8_lastOf_0 : decode cX8_lastOf 0 = .ok (.iload_n 0, 1) := by decide +kernel
theorem dX8_lastOf_1 : decode cX8_lastOf 1 = .ok (.invokestatic 99, 3) := by decide +kernel
theorem dX8_lastOf_4 : decode cX8_lastOf 4 = .ok (.iload_n 0, 1) := by decide +kernel
theorem dX8_lastOf_5 : decode cX8_lastOf 5 = .ok (.invokestatic 102, 3) := by decide +kernel
theorem dX8_lastOf_8 : decode cX8_lastOf 8 = .ok (.iadd, 1) := by decide +kernel
theorem dX8_lastOf_9 : decode cX8_lastOf 9 = .ok (.iconst 1, 1) := by decide +kernel
theorem dX8_lastOf_10 : decode cX8_lastOf 10 = .ok (.isub, 1) := by decide +kernel
theorem dX8_lastOf_11 : decode cX8_lastOf 11 = .ok (.ireturn, 1) := by decide +kernel
theorem dX8_middleOf_0 : decode cX8_middleOf 0 = .ok (.iload_n 0, 1) := by decide +kernel
theorem dX8_middleOf_1 : decode cX8_middleOf 1 = .ok (.invokestatic 99, 3) := by decide +kernel
theorem dX8_middleOf_4 : decode cX8_middleOf 4 = .ok (.iload_n 0, 1) := by decide +kernel
theorem dX8_middleOf_5 : decode cX8_middleOf 5 = .ok (.invokestatic 105, 3) := by decide +kernel
theorem dX8_middleOf_8 : decode cX8_middleOf 8 = .ok (.iadd, 1) := by decide +kernel
theorem dX8_middleOf_9 : decode cX8_middleOf 9 = .ok (.iconst 2, 1) := by decide +kernel
theorem dX8_middleOf_10 : decode cX8_middleOf 10 = .ok (.idiv, 1) := by decide +kernel
theorem dX8_middleOf_11 : decode cX8_middleOf 11 = .ok (.ireturn, 1) := by decide +kernel
theorem dX8_hasAll_0 : decode cX8_hasAll 0 = .ok (.aload_n 0, 1) := by decide +kernel
theorem dX8_hasAll_1 : decode cX8_hasAll 1 = .ok (.iload_n 1, 1) := by decide +kernel
theorem dX8_hasAll_2 : decode cX8_hasAll 2 = .ok (.iconst 2, 1) := by decide +kernel
theorem dX8_hasAll_3 : decode cX8_hasAll 3 = .ok (.invokevirtual 50, 3) := by decide +kernel
theorem dX8_hasAll_6 : decode cX8_hasAll 6 = .ok (.iload_n 2, 1) := by decide +kernel
theorem dX8_hasAll_7 : decode cX8_hasAll 7 = .ok (.invokestatic 99, 3) := by decide +kernel
theorem dX8_hasAll_10 : decode cX8_hasAll 10 = .ok (.if_icmp .gt 20, 3) := by decide +kernel
theorem dX8_hasAll_13 : decode cX8_hasAll 13 = .ok (.aload_n 0, 1) := by decide +kernel
theorem dX8_hasAll_14 : decode cX8_hasAll 14 = .ok (.iload_n 1, 1) := by decide +kernel
theorem dX8_hasAll_15 : decode cX8_hasAll 15 = .ok (.iconst 3, 1) := by decide +kernel
theorem dX8_hasAll_16 : decode cX8_hasAll 16 = .ok (.invokevirtual 50, 3) := by decide +kernel
theorem dX8_hasAll_19 : decode cX8_hasAll 19 = .ok (.iload_n 2, 1) := by decide +kernel
theorem dX8_hasAll_20 : decode cX8_hasAll 20 = .ok (.invokestatic 105, 3) := by decide +kernel
theorem dX8_hasAll_23 : decode cX8_hasAll 23 = .ok (.if_icmp .lt 7, 3) := by decide +kernel
theorem dX8_hasAll_26 : decode cX8_hasAll 26 = .ok (.iconst 1, 1) := by decide +kernel
theorem dX8_hasAll_27 : decode cX8_hasAll 27 = .ok (.goto 4, 3) := by decide +kernel
theorem dX8_hasAll_30 : decode cX8_hasAll 30 = .ok (.iconst 0, 1) := by decide +kernel
theorem dX8_hasAll_31 : decode cX8_hasAll 31 = .ok (.ireturn, 1) := by decide +kernel
theorem dX8_goesDown_0 : decode cX8_goesDown 0 = .ok (.iload_n 1, 1) := by decide +kernel
theorem dX8_goesDown_1 : decode cX8_goesDown 1 = .ok (.istore_n 3, 1) := by decide +kernel
theorem dX8_goesDown_2 : decode cX8_goesDown 2 = .ok (.iload_n 2, 1) := by decide +kernel
theorem dX8_goesDown_3 : decode cX8_goesDown 3 = .ok (.istore 4, 2) := by decide +kernel
theorem dX8_goesDown_5 : decode cX8_goesDown 5 = .ok (.iload 4, 2) := by decide +kernel
theorem dX8_goesDown_7 : decode cX8_goesDown 7 = .ok (.ifCond .le 164, 3) := by decide +kernel
theorem dX8_goesDown_10 : decode cX8_goesDown 10 = .ok (.aload_n 0, 1) := by decide +kernel
theorem dX8_goesDown_11 : decode cX8_goesDown 11 = .ok (.getfield 25, 3) := by decide +kernel
theorem dX8_goesDown_14 : decode cX8_goesDown 14 = .ok (.iload 4, 2) := by decide +kernel
theorem dX8_goesDown_16 : decode cX8_goesDown 16 = .ok (.dup2, 1) := by decide +kernel
theorem dX8_goesDown_17 : decode cX8_goesDown 17 = .ok (.iaload, 1) := by decide +kernel
theorem dX8_goesDown_18 : decode cX8_goesDown 18 = .ok (.iconst 1, 1) := by decide +kernel
theorem dX8_goesDown_19 : decode cX8_goesDown 19 = .ok (.iadd, 1) := by decide +kernel
theorem dX8_goesDown_20 : decode cX8_goesDown 20 = .ok (.iastore, 1) := by decide +kernel
theorem dX8_goesDown_21 : decode cX8_goesDown 21 = .ok (.aload_n 0, 1) := by decide +kernel
theorem dX8_goesDown_22 : decode cX8_goesDown 22 = .ok (.getfield 22, 3) := by decide +kernel
theorem dX8_goesDown_25 : decode cX8_goesDown 25 = .ok (.iload 4, 2) := by decide +kernel
theorem dX8_goesDown_27 : decode cX8_goesDown 27 = .ok (.iaload, 1) := by decide +kernel
theorem dX8_goesDown_28 : decode cX8_goesDown 28 = .ok (.iconst (-1), 1) := by decide +kernel
theorem dX8_goesDown_29 : decode cX8_goesDown 29 = .ok (.if_icmp .ne 12, 3) := by decide +kernel
theorem dX8_goesDown_32 : decode cX8_goesDown 32 = .ok (.aload_n 0, 1) := by decide +kernel
theorem dX8_goesDown_33 : decode cX8_goesDown 33 = .ok (.getfield 22, 3) := by decide +kernel
theorem dX8_goesDown_36 : decode cX8_goesDown 36 = .ok (.iload 4, 2) := by decide +kernel
theorem dX8_goesDown_38 : decode cX8_goesDown 38 = .ok (.iload_n 3, 1) := by decide +kernel
theorem dX8_goesDown_39 : decode cX8_goesDown 39 = .ok (.iastore, 1) := by decide +kernel
theorem dX8_goesDown_40 : decode cX8_goesDown 40 = .ok (.return_, 1) := by decide +kernel
theorem dX8_goesDown_41 : decode cX8_goesDown 41 = .ok (.aload_n 0, 1) := by decide +kernel
theorem dX8_goesDown_42 : decode cX8_goesDown 42 = .ok (.iload_n 3, 1) := by decide +kernel
theorem dX8_goesDown_43 : decode cX8_goesDown 43 = .ok (.aload_n 0, 1) := by decide +kernel
theorem dX8_goesDown_44 : decode cX8_goesDown 44 = .ok (.getfield 22, 3) := by decide +kernel
theorem dX8_goesDown_47 : decode cX8_goesDown 47 = .ok (.iload 4, 2) := by decide +kernel
theorem dX8_goesDown_49 : decode cX8_goesDown 49 = .ok (.iaload, 1) := by decide +kernel
theorem dX8_goesDown_50 : decode cX8_goesDown 50 = .ok (.iload 4, 2) := by decide +kernel
theorem dX8_goesDown_52 : decode cX8_goesDown 52 = .ok (.invokestatic 108, 3) := by decide +kernel
theorem dX8_goesDown_55 : decode cX8_goesDown 55 = .ok (.invokevirtual 111, 3) := by decide +kernel
theorem dX8_goesDown_58 : decode cX8_goesDown 58 = .ok (.ifCond .eq 23, 3) := by decide +kernel
theorem dX8_goesDown_61 : decode cX8_goesDown 61 = .ok (.aload_n 0, 1) := by decide +kernel
theorem dX8_goesDown_62 : decode cX8_goesDown 62 = .ok (.getfield 22, 3) := by decide +kernel
theorem dX8_goesDown_65 : decode cX8_goesDown 65 = .ok (.iload 4, 2) := by decide +kernel
theorem dX8_goesDown_67 : decode cX8_goesDown 67 = .ok (.iaload, 1) := by decide +kernel
theorem dX8_goesDown_68 : decode cX8_goesDown 68 = .ok (.istore 5, 2) := by decide +kernel
theorem dX8_goesDown_70 : decode cX8_goesDown 70 = .ok (.aload_n 0, 1) := by decide +kernel
theorem dX8_goesDown_71 : decode cX8_goesDown 71 = .ok (.getfield 22, 3) := by decide +kernel
theorem dX8_goesDown_74 : decode cX8_goesDown 74 = .ok (.iload 4, 2) := by decide +kernel
theorem dX8_goesDown_76 : decode cX8_goesDown 76 = .ok (.iload_n 3, 1) := by decide +kernel
theorem dX8_goesDown_77 : decode cX8_goesDown 77 = .ok (.iastore, 1) := by decide +kernel
theorem dX8_goesDown_78 : decode cX8_goesDown 78 = .ok (.iload 5, 2) := by decide +kernel
theorem dX8_goesDown_80 : decode cX8_goesDown 80 = .ok (.istore_n 3, 1) := by decide +kernel
theorem dX8_goesDown_81 : decode cX8_goesDown 81 = .ok (.iload 4, 2) := by decide +kernel
theorem dX8_goesDown_83 : decode cX8_goesDown 83 = .ok (.invokestatic 102, 3) := by decide +kernel
theorem dX8_goesDown_86 : decode cX8_goesDown 86 = .ok (.iconst 1, 1) := by decide +kernel
theorem dX8_goesDown_87 : decode cX8_goesDown 87 = .ok (.if_icmp .ne 7, 3) := by decide +kernel
theorem dX8_goesDown_90 : decode cX8_goesDown 90 = .ok (.iconst 1, 1) := by decide +kernel
theorem dX8_goesDown_91 : decode cX8_goesDown 91 = .ok (.goto 4, 3) := by decide +kernel
theorem dX8_goesDown_94 : decode cX8_goesDown 94 = .ok (.iconst 0, 1) := by decide +kernel
theorem dX8_goesDown_95 : decode cX8_goesDown 95 = .ok (.istore 5, 2) := by decide +kernel
theorem dX8_goesDown_97 : decode cX8_goesDown 97 = .ok (.iload 5, 2) := by decide +kernel
theorem dX8_goesDown_99 : decode cX8_goesDown 99 = .ok (.ifCond .ne 32, 3) := by decide +kernel
theorem dX8_goesDown_102 : decode cX8_goesDown 102 = .ok (.aload_n 0, 1) := by decide +kernel
theorem dX8_goesDown_103 : decode cX8_goesDown 103 = .ok (.iload_n 3, 1) := by decide +kernel
theorem dX8_goesDown_104 : decode cX8_goesDown 104 = .ok (.aload_n 0, 1) := by decide +kernel
theorem dX8_goesDown_105 : decode cX8_goesDown 105 = .ok (.getfield 22, 3) := by decide +kernel
theorem dX8_goesDown_108 : decode cX8_goesDown 108 = .ok (.iload 4, 2) := by decide +kernel
theorem dX8_goesDown_110 : decode cX8_goesDown 110 = .ok (.iaload, 1) := by decide +kernel
theorem dX8_goesDown_111 : decode cX8_goesDown 111 = .ok (.iload 4, 2) := by decide +kernel
theorem dX8_goesDown_113 : decode cX8_goesDown 113 = .ok (.invokestatic 99, 3) := by decide +kernel
theorem dX8_goesDown_116 : decode cX8_goesDown 116 = .ok (.invokevirtual 111, 3) := by decide +kernel
theorem dX8_goesDown_119 : decode cX8_goesDown 119 = .ok (.ifCond .eq 12, 3) := by decide +kernel
theorem dX8_goesDown_122 : decode cX8_goesDown 122 = .ok (.iconst 2, 1) := by decide +kernel
theorem dX8_goesDown_123 : decode cX8_goesDown 123 = .ok (.iload 4, 2) := by decide +kernel
theorem dX8_goesDown_125 : decode cX8_goesDown 125 = .ok (.imul, 1) := by decide +kernel
theorem dX8_goesDown_126 : decode cX8_goesDown 126 = .ok (.istore 4, 2) := by decide +kernel
theorem dX8_goesDown_128 : decode cX8_goesDown 128 = .ok (.goto 40, 3) := by decide +kernel
theorem dX8_goesDown_131 : decode cX8_goesDown 131 = .ok (.iload 5, 2) := by decide +kernel
theorem dX8_goesDown_133 : decode cX8_goesDown 133 = .ok (.ifCond .ne 32, 3) := by decide +kernel
theorem dX8_goesDown_136 : decode cX8_goesDown 136 = .ok (.aload_n 0, 1) := by decide +kernel
theorem dX8_goesDown_137 : decode cX8_goesDown 137 = .ok (.iload_n 3, 1) := by decide +kernel
theorem dX8_goesDown_138 : decode cX8_goesDown 138 = .ok (.aload_n 0, 1) := by decide +kernel
theorem dX8_goesDown_139 : decode cX8_goesDown 139 = .ok (.getfield 22, 3) := by decide +kernel
theorem dX8_goesDown_142 : decode cX8_goesDown 142 = .ok (.iload 4, 2) := by decide +kernel
theorem dX8_goesDown_144 : decode cX8_goesDown 144 = .ok (.iaload, 1) := by decide +kernel
theorem dX8_goesDown_145 : decode cX8_goesDown 145 = .ok (.iload 4, 2) := by decide +kernel
theorem dX8_goesDown_147 : decode cX8_goesDown 147 = .ok (.invokestatic 105, 3) := by decide +kernel
theorem dX8_goesDown_150 : decode cX8_goesDown 150 = .ok (.invokevirtual 111, 3) := by decide +kernel
theorem dX8_goesDown_153 : decode cX8_goesDown 153 = .ok (.ifCond .eq 12, 3) := by decide +kernel
theorem dX8_goesDown_156 : decode cX8_goesDown 156 = .ok (.iconst 2, 1) := by decide +kernel
theorem dX8_goesDown_157 : decode cX8_goesDown 157 = .ok (.iload 4, 2) := by decide +kernel
theorem dX8_goesDown_159 : decode cX8_goesDown 159 = .ok (.imul, 1) := by decide +kernel
theorem dX8_goesDown_160 : decode cX8_goesDown 160 = .ok (.iconst 1, 1) := by decide +kernel
theorem dX8_goesDown_161 : decode cX8_goesDown 161 = .ok (.iadd, 1) := by decide +kernel
theorem dX8_goesDown_162 : decode cX8_goesDown 162 = .ok (.goto 4, 3) := by decide +kernel
theorem dX8_goesDown_165 : decode cX8_goesDown 165 = .ok (.iconst 0, 1) := by decide +kernel
theorem dX8_goesDown_166 : decode cX8_goesDown 166 = .ok (.istore 4, 2) := by decide +kernel
theorem dX8_goesDown_168 : decode cX8_goesDown 168 = .ok (.goto (-163), 3) := by decide +kernel
theorem dX8_goesDown_171 : decode cX8_goesDown 171 = .ok (.return_, 1) := by decide +kernel
theorem dX8_grows_0 : decode cX8_grows 0 = .ok (.iconst 0, 1) := by decide +kernel
theorem dX8_grows_1 : decode cX8_grows 1 = .ok (.istore_n 1, 1) := by decide +kernel
theorem dX8_grows_2 : decode cX8_grows 2 = .ok (.iload_n 1, 1) := by decide +kernel
theorem dX8_grows_3 : decode cX8_grows 3 = .ok (.sipush 128, 3) := by decide +kernel
theorem dX8_grows_6 : decode cX8_grows 6 = .ok (.if_icmp .ge 23, 3) := by decide +kernel
theorem dX8_grows_9 : decode cX8_grows 9 = .ok (.aload_n 0, 1) := by decide +kernel
theorem dX8_grows_10 : decode cX8_grows 10 = .ok (.getfield 22, 3) := by decide +kernel
theorem dX8_grows_13 : decode cX8_grows 13 = .ok (.iload_n 1, 1) := by decide +kernel
theorem dX8_grows_14 : decode cX8_grows 14 = .ok (.iconst (-1), 1) := by decide +kernel
theorem dX8_grows_15 : decode cX8_grows 15 = .ok (.iastore, 1) := by decide +kernel
theorem dX8_grows_16 : decode cX8_grows 16 = .ok (.aload_n 0, 1) := by decide +kernel
theorem dX8_grows_17 : decode cX8_grows 17 = .ok (.getfield 25, 3) := by decide +kernel
theorem dX8_grows_20 : decode cX8_grows 20 = .ok (.iload_n 1, 1) := by decide +kernel
theorem dX8_grows_21 : decode cX8_grows 21 = .ok (.iconst 0, 1) := by decide +kernel
theorem dX8_grows_22 : decode cX8_grows 22 = .ok (.iastore, 1) := by decide +kernel
theorem dX8_grows_23 : decode cX8_grows 23 = .ok (.iinc 1 1, 3) := by decide +kernel
theorem dX8_grows_26 : decode cX8_grows 26 = .ok (.goto (-24), 3) := by decide +kernel
theorem dX8_grows_29 : decode cX8_grows 29 = .ok (.iconst 0, 1) := by decide +kernel
theorem dX8_grows_30 : decode cX8_grows 30 = .ok (.istore_n 1, 1) := by decide +kernel
theorem dX8_grows_31 : decode cX8_grows 31 = .ok (.iload_n 1, 1) := by decide +kernel
theorem dX8_grows_32 : decode cX8_grows 32 = .ok (.aload_n 0, 1) := by decide +kernel
theorem dX8_grows_33 : decode cX8_grows 33 = .ok (.getfield 7, 3) := by decide +kernel
theorem dX8_grows_36 : decode cX8_grows 36 = .ok (.iconst 1, 1) := by decide +kernel
theorem dX8_grows_37 : decode cX8_grows 37 = .ok (.iaload, 1) := by decide +kernel
theorem dX8_grows_38 : decode cX8_grows 38 = .ok (.if_icmp .ge 79, 3) := by decide +kernel
theorem dX8_grows_41 : decode cX8_grows 41 = .ok (.iconst 1, 1) := by decide +kernel
theorem dX8_grows_42 : decode cX8_grows 42 = .ok (.istore_n 2, 1) := by decide +kernel
theorem dX8_grows_43 : decode cX8_grows 43 = .ok (.iload_n 2, 1) := by decide +kernel
theorem dX8_grows_44 : decode cX8_grows 44 = .ok (.sipush 128, 3) := by decide +kernel
theorem dX8_grows_47 : decode cX8_grows 47 = .ok (.if_icmp .ge 64, 3) := by decide +kernel
theorem dX8_grows_50 : decode cX8_grows 50 = .ok (.aload_n 0, 1) := by decide +kernel
theorem dX8_grows_51 : decode cX8_grows 51 = .ok (.getfield 7, 3) := by decide +kernel
theorem dX8_grows_54 : decode cX8_grows 54 = .ok (.iconst 0, 1) := by decide +kernel
theorem dX8_grows_55 : decode cX8_grows 55 = .ok (.iaload, 1) := by decide +kernel
theorem dX8_grows_56 : decode cX8_grows 56 = .ok (.aload_n 0, 1) := by decide +kernel
theorem dX8_grows_57 : decode cX8_grows 57 = .ok (.iload_n 1, 1) := by decide +kernel
theorem dX8_grows_58 : decode cX8_grows 58 = .ok (.iconst 4, 1) := by decide +kernel
theorem dX8_grows_59 : decode cX8_grows 59 = .ok (.invokevirtual 50, 3) := by decide +kernel
theorem dX8_grows_62 : decode cX8_grows 62 = .ok (.aload_n 0, 1) := by decide +kernel
theorem dX8_grows_63 : decode cX8_grows 63 = .ok (.iload_n 1, 1) := by decide +kernel
theorem dX8_grows_64 : decode cX8_grows 64 = .ok (.iconst 5, 1) := by decide +kernel
theorem dX8_grows_65 : decode cX8_grows 65 = .ok (.invokevirtual 50, 3) := by decide +kernel
theorem dX8_grows_68 : decode cX8_grows 68 = .ok (.invokestatic 39, 3) := by decide +kernel
theorem dX8_grows_71 : decode cX8_grows 71 = .ok (.ifCond .eq 40, 3) := by decide +kernel
theorem dX8_grows_74 : decode cX8_grows 74 = .ok (.aload_n 0, 1) := by decide +kernel
theorem dX8_grows_75 : decode cX8_grows 75 = .ok (.iload_n 1, 1) := by decide +kernel
theorem dX8_grows_76 : decode cX8_grows 76 = .ok (.iload_n 2, 1) := by decide +kernel
theorem dX8_grows_77 : decode cX8_grows 77 = .ok (.invokevirtual 114, 3) := by decide +kernel
theorem dX8_grows_80 : decode cX8_grows 80 = .ok (.ifCond .eq 25, 3) := by decide +kernel
theorem dX8_grows_83 : decode cX8_grows 83 = .ok (.iload_n 2, 1) := by decide +kernel
theorem dX8_grows_84 : decode cX8_grows 84 = .ok (.iconst 1, 1) := by decide +kernel
theorem dX8_grows_85 : decode cX8_grows 85 = .ok (.if_icmp .eq 14, 3) := by decide +kernel
theorem dX8_grows_88 : decode cX8_grows 88 = .ok (.aload_n 0, 1) := by decide +kernel
theorem dX8_grows_89 : decode cX8_grows 89 = .ok (.iload_n 1, 1) := by decide +kernel
theorem dX8_grows_90 : decode cX8_grows 90 = .ok (.iload_n 2, 1) := by decide +kernel
theorem dX8_grows_91 : decode cX8_grows 91 = .ok (.iconst 2, 1) := by decide +kernel
theorem dX8_grows_92 : decode cX8_grows 92 = .ok (.idiv, 1) := by decide +kernel
theorem dX8_grows_93 : decode cX8_grows 93 = .ok (.invokevirtual 114, 3) := by decide +kernel
theorem dX8_grows_96 : decode cX8_grows 96 = .ok (.ifCond .ne 9, 3) := by decide +kernel
theorem dX8_grows_99 : decode cX8_grows 99 = .ok (.aload_n 0, 1) := by decide +kernel
theorem dX8_grows_100 : decode cX8_grows 100 = .ok (.iload_n 1, 1) := by decide +kernel
theorem dX8_grows_101 : decode cX8_grows 101 = .ok (.iload_n 2, 1) := by decide +kernel
theorem dX8_grows_102 : decode cX8_grows 102 = .ok (.invokevirtual 118, 3) := by decide +kernel
theorem dX8_grows_105 : decode cX8_grows 105 = .ok (.iinc 2 1, 3) := by decide +kernel
theorem dX8_grows_108 : decode cX8_grows 108 = .ok (.goto (-65), 3) := by decide +kernel
theorem dX8_grows_111 : decode cX8_grows 111 = .ok (.iinc 1 1, 3) := by decide +kernel
theorem dX8_grows_114 : decode cX8_grows 114 = .ok (.goto (-83), 3) := by decide +kernel
theorem dX8_grows_117 : decode cX8_grows 117 = .ok (.return_, 1) := by decide +kernel
theorem dX8_append_0 : decode cX8_append 0 = .ok (.aload_n 0, 1) := by decide +kernel
theorem dX8_append_1 : decode cX8_append 1 = .ok (.iconst 0, 1) := by decide +kernel
theorem dX8_append_2 : decode cX8_append 2 = .ok (.putfield 35, 3) := by decide +kernel
theorem dX8_append_5 : decode cX8_append 5 = .ok (.iload_n 1, 1) := by decide +kernel
theorem dX8_append_6 : decode cX8_append 6 = .ok (.bipush 33, 2) := by decide +kernel
theorem dX8_append_8 : decode cX8_append 8 = .ok (.bipush 126, 2) := by decide +kernel
theorem dX8_append_10 : decode cX8_append 10 = .ok (.invokestatic 39, 3) := by decide +kernel
theorem dX8_append_13 : decode cX8_append 13 = .ok (.ifCond .ne 9, 3) := by decide +kernel
theorem dX8_append_16 : decode cX8_append 16 = .ok (.aload_n 0, 1) := by decide +kernel
theorem dX8_append_17 : decode cX8_append 17 = .ok (.iconst 1, 1) := by decide +kernel
theorem dX8_append_18 : decode cX8_append 18 = .ok (.invokevirtual 46, 3) := by decide +kernel
theorem dX8_append_21 : decode cX8_append 21 = .ok (.ireturn, 1) := by decide +kernel
theorem dX8_append_22 : decode cX8_append 22 = .ok (.aload_n 0, 1) := by decide +kernel
theorem dX8_append_23 : decode cX8_append 23 = .ok (.getfield 122, 3) := by decide +kernel
theorem dX8_append_26 : decode cX8_append 26 = .ok (.bipush 60, 2) := by decide +kernel
theorem dX8_append_28 : decode cX8_append 28 = .ok (.if_icmp .ne 9, 3) := by decide +kernel
theorem dX8_append_31 : decode cX8_append 31 = .ok (.aload_n 0, 1) := by decide +kernel
theorem dX8_append_32 : decode cX8_append 32 = .ok (.iconst 2, 1) := by decide +kernel
theorem dX8_append_33 : decode cX8_append 33 = .ok (.invokevirtual 46, 3) := by decide +kernel
theorem dX8_append_36 : decode cX8_append 36 = .ok (.ireturn, 1) := by decide +kernel
theorem dX8_append_37 : decode cX8_append 37 = .ok (.aload_n 0, 1) := by decide +kernel
theorem dX8_append_38 : decode cX8_append 38 = .ok (.getfield 16, 3) := by decide +kernel
theorem dX8_append_41 : decode cX8_append 41 = .ok (.aload_n 0, 1) := by decide +kernel
theorem dX8_append_42 : decode cX8_append 42 = .ok (.getfield 122, 3) := by decide +kernel
theorem dX8_append_45 : decode cX8_append 45 = .ok (.iload_n 1, 1) := by decide +kernel
theorem dX8_append_46 : decode cX8_append 46 = .ok (.iastore, 1) := by decide +kernel
theorem dX8_append_47 : decode cX8_append 47 = .ok (.aload_n 0, 1) := by decide +kernel
theorem dX8_append_48 : decode cX8_append 48 = .ok (.dup, 1) := by decide +kernel
theorem dX8_append_49 : decode cX8_append 49 = .ok (.getfield 122, 3) := by decide +kernel
theorem dX8_append_52 : decode cX8_append 52 = .ok (.iconst 1, 1) := by decide +kernel
theorem dX8_append_53 : decode cX8_append 53 = .ok (.iadd, 1) := by decide +kernel
theorem dX8_append_54 : decode cX8_append 54 = .ok (.putfield 122, 3) := by decide +kernel
theorem dX8_append_57 : decode cX8_append 57 = .ok (.aload_n 0, 1) := by decide +kernel
theorem dX8_append_58 : decode cX8_append 58 = .ok (.getfield 122, 3) := by decide +kernel
theorem dX8_append_61 : decode cX8_append 61 = .ok (.ireturn, 1) := by decide +kernel
theorem dX8_clearBuffer_0 : decode cX8_clearBuffer 0 = .ok (.aload_n 0, 1) := by decide +kernel
theorem dX8_clearBuffer_1 : decode cX8_clearBuffer 1 = .ok (.iconst 0, 1) := by decide +kernel
theorem dX8_clearBuffer_2 : decode cX8_clearBuffer 2 = .ok (.putfield 35, 3) := by decide +kernel
theorem dX8_clearBuffer_5 : decode cX8_clearBuffer 5 = .ok (.aload_n 0, 1) := by decide +kernel
theorem dX8_clearBuffer_6 : decode cX8_clearBuffer 6 = .ok (.getfield 122, 3) := by decide +kernel
theorem dX8_clearBuffer_9 : decode cX8_clearBuffer 9 = .ok (.istore_n 1, 1) := by decide +kernel
theorem dX8_clearBuffer_10 : decode cX8_clearBuffer 10 = .ok (.aload_n 0, 1) := by decide +kernel
theorem dX8_clearBuffer_11 : decode cX8_clearBuffer 11 = .ok (.iconst 0, 1) := by decide +kernel
theorem dX8_clearBuffer_12 : decode cX8_clearBuffer 12 = .ok (.putfield 122, 3) := by decide +kernel
theorem dX8_clearBuffer_15 : decode cX8_clearBuffer 15 = .ok (.iload_n 1, 1) := by decide +kernel
theorem dX8_clearBuffer_16 : decode cX8_clearBuffer 16 = .ok (.ireturn, 1) := by decide +kernel
theorem dX8_isAt_0 : decode cX8_isAt 0 = .ok (.aload_n 0, 1) := by decide +kernel
theorem dX8_isAt_1 : decode cX8_isAt 1 = .ok (.getfield 125, 3) := by decide +kernel
theorem dX8_isAt_4 : decode cX8_isAt 4 = .ok (.aload_n 0, 1) := by decide +kernel
theorem dX8_isAt_5 : decode cX8_isAt 5 = .ok (.getfield 122, 3) := by decide +kernel
theorem dX8_isAt_8 : decode cX8_isAt 8 = .ok (.if_icmp .ge 24, 3) := by decide +kernel
theorem dX8_isAt_11 : decode cX8_isAt 11 = .ok (.aload_n 0, 1) := by decide +kernel
theorem dX8_isAt_12 : decode cX8_isAt 12 = .ok (.getfield 16, 3) := by decide +kernel
theorem dX8_isAt_15 : decode cX8_isAt 15 = .ok (.aload_n 0, 1) := by decide +kernel
theorem dX8_isAt_16 : decode cX8_isAt 16 = .ok (.getfield 125, 3) := by decide +kernel
theorem dX8_isAt_19 : decode cX8_isAt 19 = .ok (.iaload, 1) := by decide +kernel
theorem dX8_isAt_20 : decode cX8_isAt 20 = .ok (.iload_n 1, 1) := by decide +kernel
theorem dX8_isAt_21 : decode cX8_isAt 21 = .ok (.iload_n 2, 1) := by decide +kernel
theorem dX8_isAt_22 : decode cX8_isAt 22 = .ok (.invokestatic 39, 3) := by decide +kernel
theorem dX8_isAt_25 : decode cX8_isAt 25 = .ok (.ifCond .eq 7, 3) := by decide +kernel
theorem dX8_isAt_28 : decode cX8_isAt 28 = .ok (.iconst 1, 1) := by decide +kernel
theorem dX8_isAt_29 : decode cX8_isAt 29 = .ok (.goto 4, 3) := by decide +kernel
theorem dX8_isAt_32 : decode cX8_isAt 32 = .ok (.iconst 0, 1) := by decide +kernel
theorem dX8_isAt_33 : decode cX8_isAt 33 = .ok (.ireturn, 1) := by decide +kernel
theorem dX8_stops_0 : decode cX8_stops 0 = .ok (.aload_n 0, 1) := by decide +kernel
theorem dX8_stops_1 : decode cX8_stops 1 = .ok (.aload_n 0, 1) := by decide +kernel
theorem dX8_stops_2 : decode cX8_stops 2 = .ok (.getfield 125, 3) := by decide +kernel
theorem dX8_stops_5 : decode cX8_stops 5 = .ok (.aload_n 0, 1) := by decide +kernel
theorem dX8_stops_6 : decode cX8_stops 6 = .ok (.getfield 122, 3) := by decide +kernel
theorem dX8_stops_9 : decode cX8_stops 9 = .ok (.if_icmp .ge 7, 3) := by decide +kernel
theorem dX8_stops_12 : decode cX8_stops 12 = .ok (.iconst 1, 1) := by decide +kernel
theorem dX8_stops_13 : decode cX8_stops 13 = .ok (.goto 4, 3) := by decide +kernel
theorem dX8_stops_16 : decode cX8_stops 16 = .ok (.iconst 0, 1) := by decide +kernel
theorem dX8_stops_17 : decode cX8_stops 17 = .ok (.putfield 127, 3) := by decide +kernel
theorem dX8_stops_20 : decode cX8_stops 20 = .ok (.iconst 0, 1) := by decide +kernel
theorem dX8_stops_21 : decode cX8_stops 21 = .ok (.ireturn, 1) := by decide +kernel
theorem dX8_isSign_0 : decode cX8_isSign 0 = .ok (.aload_n 0, 1) := by decide +kernel
theorem dX8_isSign_1 : decode cX8_isSign 1 = .ok (.iload_n 1, 1) := by decide +kernel
theorem dX8_isSign_2 : decode cX8_isSign 2 = .ok (.iload_n 1, 1) := by decide +kernel
theorem dX8_isSign_3 : decode cX8_isSign 3 = .ok (.invokevirtual 131, 3) := by decide +kernel
theorem dX8_isSign_6 : decode cX8_isSign 6 = .ok (.ifCond .ne 8, 3) := by decide +kernel
theorem dX8_isSign_9 : decode cX8_isSign 9 = .ok (.aload_n 0, 1) := by decide +kernel
theorem dX8_isSign_10 : decode cX8_isSign 10 = .ok (.invokevirtual 134, 3) := by decide +kernel
theorem dX8_isSign_13 : decode cX8_isSign 13 = .ok (.ireturn, 1) := by decide +kernel
theorem dX8_isSign_14 : decode cX8_isSign 14 = .ok (.aload_n 0, 1) := by decide +kernel
theorem dX8_isSign_15 : decode cX8_isSign 15 = .ok (.dup, 1) := by decide +kernel
theorem dX8_isSign_16 : decode cX8_isSign 16 = .ok (.getfield 125, 3) := by decide +kernel
theorem dX8_isSign_19 : decode cX8_isSign 19 = .ok (.iconst 1, 1) := by decide +kernel
theorem dX8_isSign_20 : decode cX8_isSign 20 = .ok (.iadd, 1) := by decide +kernel
theorem dX8_isSign_21 : decode cX8_isSign 21 = .ok (.putfield 125, 3) := by decide +kernel
theorem dX8_isSign_24 : decode cX8_isSign 24 = .ok (.iconst 1, 1) := by decide +kernel
theorem dX8_isSign_25 : decode cX8_isSign 25 = .ok (.ireturn, 1) := by decide +kernel
theorem dX8_begins_0 : decode cX8_begins 0 = .ok (.iload_n 0, 1) := by decide +kernel
theorem dX8_begins_1 : decode cX8_begins 1 = .ok (.iload_n 1, 1) := by decide +kernel
theorem dX8_begins_2 : decode cX8_begins 2 = .ok (.iload_n 2, 1) := by decide +kernel
theorem dX8_begins_3 : decode cX8_begins 3 = .ok (.invokestatic 39, 3) := by decide +kernel
theorem dX8_begins_6 : decode cX8_begins 6 = .ok (.ifCond .ne 26, 3) := by decide +kernel
theorem dX8_begins_9 : decode cX8_begins 9 = .ok (.iload_n 0, 1) := by decide +kernel
theorem dX8_begins_10 : decode cX8_begins 10 = .ok (.ifCond .le 26, 3) := by decide +kernel
theorem dX8_begins_13 : decode cX8_begins 13 = .ok (.bipush 10, 2) := by decide +kernel
theorem dX8_begins_15 : decode cX8_begins 15 = .ok (.iload_n 0, 1) := by decide +kernel
theorem dX8_begins_16 : decode cX8_begins 16 = .ok (.imul, 1) := by decide +kernel
theorem dX8_begins_17 : decode cX8_begins 17 = .ok (.bipush 9, 2) := by decide +kernel
theorem dX8_begins_19 : decode cX8_begins 19 = .ok (.iadd, 1) := by decide +kernel
theorem dX8_begins_20 : decode cX8_begins 20 = .ok (.iload_n 1, 1) := by decide +kernel
theorem dX8_begins_21 : decode cX8_begins 21 = .ok (.if_icmp .lt 15, 3) := by decide +kernel
theorem dX8_begins_24 : decode cX8_begins 24 = .ok (.bipush 10, 2) := by decide +kernel
theorem dX8_begins_26 : decode cX8_begins 26 = .ok (.iload_n 0, 1) := by decide +kernel
theorem dX8_begins_27 : decode cX8_begins 27 = .ok (.imul, 1) := by decide +kernel
theorem dX8_begins_28 : decode cX8_begins 28 = .ok (.iload_n 2, 1) := by decide +kernel
theorem dX8_begins_29 : decode cX8_begins 29 = .ok (.if_icmp .gt 7, 3) := by decide +kernel
theorem dX8_begins_32 : decode cX8_begins 32 = .ok (.iconst 1, 1) := by decide +kernel
theorem dX8_begins_33 : decode cX8_begins 33 = .ok (.goto 4, 3) := by decide +kernel
theorem dX8_begins_36 : decode cX8_begins 36 = .ok (.iconst 0, 1) := by decide +kernel
theorem dX8_begins_37 : decode cX8_begins 37 = .ok (.ireturn, 1) := by decide +kernel
theorem dX8_isSmall_0 : decode cX8_isSmall 0 = .ok (.aload_n 0, 1) := by decide +kernel
theorem dX8_isSmall_1 : decode cX8_isSmall 1 = .ok (.bipush 48, 2) := by decide +kernel
theorem dX8_isSmall_3 : decode cX8_isSmall 3 = .ok (.bipush 57, 2) := by decide +kernel
theorem dX8_isSmall_5 : decode cX8_isSmall 5 = .ok (.invokevirtual 131, 3) := by decide +kernel
theorem dX8_isSmall_8 : decode cX8_isSmall 8 = .ok (.ifCond .eq 23, 3) := by decide +kernel
theorem dX8_isSmall_11 : decode cX8_isSmall 11 = .ok (.aload_n 0, 1) := by decide +kernel
theorem dX8_isSmall_12 : decode cX8_isSmall 12 = .ok (.getfield 16, 3) := by decide +kernel
theorem dX8_isSmall_15 : decode cX8_isSmall 15 = .ok (.aload_n 0, 1) := by decide +kernel
theorem dX8_isSmall_16 : decode cX8_isSmall 16 = .ok (.getfield 125, 3) := by decide +kernel
theorem dX8_isSmall_19 : decode cX8_isSmall 19 = .ok (.iaload, 1) := by decide +kernel
theorem dX8_isSmall_20 : decode cX8_isSmall 20 = .ok (.bipush 48, 2) := by decide +kernel
theorem dX8_isSmall_22 : decode cX8_isSmall 22 = .ok (.isub, 1) := by decide +kernel
theorem dX8_isSmall_23 : decode cX8_isSmall 23 = .ok (.iload_n 1, 1) := by decide +kernel
theorem dX8_isSmall_24 : decode cX8_isSmall 24 = .ok (.iload_n 2, 1) := by decide +kernel
theorem dX8_isSmall_25 : decode cX8_isSmall 25 = .ok (.invokestatic 138, 3) := by decide +kernel
theorem dX8_isSmall_28 : decode cX8_isSmall 28 = .ok (.ifCond .ne 8, 3) := by decide +kernel
theorem dX8_isSmall_31 : decode cX8_isSmall 31 = .ok (.aload_n 0, 1) := by decide +kernel
theorem dX8_isSmall_32 : decode cX8_isSmall 32 = .ok (.invokevirtual 134, 3) := by decide +kernel
theorem dX8_isSmall_35 : decode cX8_isSmall 35 = .ok (.ireturn, 1) := by decide +kernel
theorem dX8_isSmall_36 : decode cX8_isSmall 36 = .ok (.aload_n 0, 1) := by decide +kernel
theorem dX8_isSmall_37 : decode cX8_isSmall 37 = .ok (.aload_n 0, 1) := by decide +kernel
theorem dX8_isSmall_38 : decode cX8_isSmall 38 = .ok (.getfield 16, 3) := by decide +kernel
theorem dX8_isSmall_41 : decode cX8_isSmall 41 = .ok (.aload_n 0, 1) := by decide +kernel
theorem dX8_isSmall_42 : decode cX8_isSmall 42 = .ok (.getfield 125, 3) := by decide +kernel
theorem dX8_isSmall_45 : decode cX8_isSmall 45 = .ok (.iaload, 1) := by decide +kernel
theorem dX8_isSmall_46 : decode cX8_isSmall 46 = .ok (.bipush 48, 2) := by decide +kernel
theorem dX8_isSmall_48 : decode cX8_isSmall 48 = .ok (.isub, 1) := by decide +kernel
theorem dX8_isSmall_49 : decode cX8_isSmall 49 = .ok (.putfield 141, 3) := by decide +kernel
theorem dX8_isSmall_52 : decode cX8_isSmall 52 = .ok (.aload_n 0, 1) := by decide +kernel
theorem dX8_isSmall_53 : decode cX8_isSmall 53 = .ok (.dup, 1) := by decide +kernel
theorem dX8_isSmall_54 : decode cX8_isSmall 54 = .ok (.getfield 125, 3) := by decide +kernel
theorem dX8_isSmall_57 : decode cX8_isSmall 57 = .ok (.iconst 1, 1) := by decide +kernel
theorem dX8_isSmall_58 : decode cX8_isSmall 58 = .ok (.iadd, 1) := by decide +kernel
theorem dX8_isSmall_59 : decode cX8_isSmall 59 = .ok (.putfield 125, 3) := by decide +kernel
theorem dX8_isSmall_62 : decode cX8_isSmall 62 = .ok (.aload_n 0, 1) := by decide +kernel
theorem dX8_isSmall_63 : decode cX8_isSmall 63 = .ok (.getfield 141, 3) := by decide +kernel
theorem dX8_isSmall_66 : decode cX8_isSmall 66 = .ok (.ifCond .le 78, 3) := by decide +kernel
theorem dX8_isSmall_69 : decode cX8_isSmall 69 = .ok (.aload_n 0, 1) := by decide +kernel
theorem dX8_isSmall_70 : decode cX8_isSmall 70 = .ok (.bipush 48, 2) := by decide +kernel
theorem dX8_isSmall_72 : decode cX8_isSmall 72 = .ok (.bipush 57, 2) := by decide +kernel
theorem dX8_isSmall_74 : decode cX8_isSmall 74 = .ok (.invokevirtual 131, 3) := by decide +kernel
theorem dX8_isSmall_77 : decode cX8_isSmall 77 = .ok (.ifCond .eq 67, 3) := by decide +kernel
theorem dX8_isSmall_80 : decode cX8_isSmall 80 = .ok (.bipush 10, 2) := by decide +kernel
theorem dX8_isSmall_82 : decode cX8_isSmall 82 = .ok (.aload_n 0, 1) := by decide +kernel
theorem dX8_isSmall_83 : decode cX8_isSmall 83 = .ok (.getfield 141, 3) := by decide +kernel
theorem dX8_isSmall_86 : decode cX8_isSmall 86 = .ok (.imul, 1) := by decide +kernel
theorem dX8_isSmall_87 : decode cX8_isSmall 87 = .ok (.aload_n 0, 1) := by decide +kernel
theorem dX8_isSmall_88 : decode cX8_isSmall 88 = .ok (.getfield 16, 3) := by decide +kernel
theorem dX8_isSmall_91 : decode cX8_isSmall 91 = .ok (.aload_n 0, 1) := by decide +kernel
theorem dX8_isSmall_92 : decode cX8_isSmall 92 = .ok (.getfield 125, 3) := by decide +kernel
theorem dX8_isSmall_95 : decode cX8_isSmall 95 = .ok (.iaload, 1) := by decide +kernel
theorem dX8_isSmall_96 : decode cX8_isSmall 96 = .ok (.iadd, 1) := by decide +kernel
theorem dX8_isSmall_97 : decode cX8_isSmall 97 = .ok (.bipush 48, 2) := by decide +kernel
theorem dX8_isSmall_99 : decode cX8_isSmall 99 = .ok (.isub, 1) := by decide +kernel
theorem dX8_isSmall_100 : decode cX8_isSmall 100 = .ok (.iload_n 1, 1) := by decide +kernel
theorem dX8_isSmall_101 : decode cX8_isSmall 101 = .ok (.iload_n 2, 1) := by decide +kernel
theorem dX8_isSmall_102 : decode cX8_isSmall 102 = .ok (.invokestatic 39, 3) := by decide +kernel
theorem dX8_isSmall_105 : decode cX8_isSmall 105 = .ok (.ifCond .eq 39, 3) := by decide +kernel
theorem dX8_isSmall_108 : decode cX8_isSmall 108 = .ok (.aload_n 0, 1) := by decide +kernel
theorem dX8_isSmall_109 : decode cX8_isSmall 109 = .ok (.bipush 10, 2) := by decide +kernel
theorem dX8_isSmall_111 : decode cX8_isSmall 111 = .ok (.aload_n 0, 1) := by decide +kernel
theorem dX8_isSmall_112 : decode cX8_isSmall 112 = .ok (.getfield 141, 3) := by decide +kernel
theorem dX8_isSmall_115 : decode cX8_isSmall 115 = .ok (.imul, 1) := by decide +kernel
theorem dX8_isSmall_116 : decode cX8_isSmall 116 = .ok (.aload_n 0, 1) := by decide +kernel
theorem dX8_isSmall_117 : decode cX8_isSmall 117 = .ok (.getfield 16, 3) := by decide +kernel
theorem dX8_isSmall_120 : decode cX8_isSmall 120 = .ok (.aload_n 0, 1) := by decide +kernel
theorem dX8_isSmall_121 : decode cX8_isSmall 121 = .ok (.getfield 125, 3) := by decide +kernel
theorem dX8_isSmall_124 : decode cX8_isSmall 124 = .ok (.iaload, 1) := by decide +kernel
theorem dX8_isSmall_125 : decode cX8_isSmall 125 = .ok (.iadd, 1) := by decide +kernel
theorem dX8_isSmall_126 : decode cX8_isSmall 126 = .ok (.bipush 48, 2) := by decide +kernel
theorem dX8_isSmall_128 : decode cX8_isSmall 128 = .ok (.isub, 1) := by decide +kernel
theorem dX8_isSmall_129 : decode cX8_isSmall 129 = .ok (.putfield 141, 3) := by decide +kernel
theorem dX8_isSmall_132 : decode cX8_isSmall 132 = .ok (.aload_n 0, 1) := by decide +kernel
theorem dX8_isSmall_133 : decode cX8_isSmall 133 = .ok (.dup, 1) := by decide +kernel
theorem dX8_isSmall_134 : decode cX8_isSmall 134 = .ok (.getfield 125, 3) := by decide +kernel
theorem dX8_isSmall_137 : decode cX8_isSmall 137 = .ok (.iconst 1, 1) := by decide +kernel
theorem dX8_isSmall_138 : decode cX8_isSmall 138 = .ok (.iadd, 1) := by decide +kernel
theorem dX8_isSmall_139 : decode cX8_isSmall 139 = .ok (.putfield 125, 3) := by decide +kernel
theorem dX8_isSmall_142 : decode cX8_isSmall 142 = .ok (.iconst 1, 1) := by decide +kernel
theorem dX8_isSmall_143 : decode cX8_isSmall 143 = .ok (.ireturn, 1) := by decide +kernel
theorem dX8_isSmall_144 : decode cX8_isSmall 144 = .ok (.aload_n 0, 1) := by decide +kernel
theorem dX8_isSmall_145 : decode cX8_isSmall 145 = .ok (.getfield 141, 3) := by decide +kernel
theorem dX8_isSmall_148 : decode cX8_isSmall 148 = .ok (.iload_n 1, 1) := by decide +kernel
theorem dX8_isSmall_149 : decode cX8_isSmall 149 = .ok (.iload_n 2, 1) := by decide +kernel
theorem dX8_isSmall_150 : decode cX8_isSmall 150 = .ok (.invokestatic 39, 3) := by decide +kernel
theorem dX8_isSmall_153 : decode cX8_isSmall 153 = .ok (.ifCond .ne 10, 3) := by decide +kernel
theorem dX8_isSmall_156 : decode cX8_isSmall 156 = .ok (.aload_n 0, 1) := by decide +kernel
theorem dX8_isSmall_157 : decode cX8_isSmall 157 = .ok (.invokevirtual 134, 3) := by decide +kernel
theorem dX8_isSmall_160 : decode cX8_isSmall 160 = .ok (.ifCond .eq 7, 3) := by decide +kernel
theorem dX8_isSmall_163 : decode cX8_isSmall 163 = .ok (.iconst 1, 1) := by decide +kernel
theorem dX8_isSmall_164 : decode cX8_isSmall 164 = .ok (.goto 4, 3) := by decide +kernel
theorem dX8_isSmall_167 : decode cX8_isSmall 167 = .ok (.iconst 0, 1) := by decide +kernel
theorem dX8_isSmall_168 : decode cX8_isSmall 168 = .ok (.ireturn, 1) := by decide +kernel
theorem dX8_isGreat_0 : decode cX8_isGreat 0 = .ok (.aload_n 0, 1) := by decide +kernel
theorem dX8_isGreat_1 : decode cX8_isGreat 1 = .ok (.bipush 48, 2) := by decide +kernel
theorem dX8_isGreat_3 : decode cX8_isGreat 3 = .ok (.bipush 57, 2) := by decide +kernel
theorem dX8_isGreat_5 : decode cX8_isGreat 5 = .ok (.invokevirtual 131, 3) := by decide +kernel
theorem dX8_isGreat_8 : decode cX8_isGreat 8 = .ok (.ifCond .ne 8, 3) := by decide +kernel
theorem dX8_isGreat_11 : decode cX8_isGreat 11 = .ok (.aload_n 0, 1) := by decide +kernel
theorem dX8_isGreat_12 : decode cX8_isGreat 12 = .ok (.invokevirtual 134, 3) := by decide +kernel
theorem dX8_isGreat_15 : decode cX8_isGreat 15 = .ok (.ireturn, 1) := by decide +kernel
theorem dX8_isGreat_16 : decode cX8_isGreat 16 = .ok (.aload_n 0, 1) := by decide +kernel
theorem dX8_isGreat_17 : decode cX8_isGreat 17 = .ok (.aload_n 0, 1) := by decide +kernel
theorem dX8_isGreat_18 : decode cX8_isGreat 18 = .ok (.getfield 16, 3) := by decide +kernel
theorem dX8_isGreat_21 : decode cX8_isGreat 21 = .ok (.aload_n 0, 1) := by decide +kernel
theorem dX8_isGreat_22 : decode cX8_isGreat 22 = .ok (.getfield 125, 3) := by decide +kernel
theorem dX8_isGreat_25 : decode cX8_isGreat 25 = .ok (.iaload, 1) := by decide +kernel
theorem dX8_isGreat_26 : decode cX8_isGreat 26 = .ok (.bipush 48, 2) := by decide +kernel
theorem dX8_isGreat_28 : decode cX8_isGreat 28 = .ok (.isub, 1) := by decide +kernel
theorem dX8_isGreat_29 : decode cX8_isGreat 29 = .ok (.putfield 141, 3) := by decide +kernel
theorem dX8_isGreat_32 : decode cX8_isGreat 32 = .ok (.aload_n 0, 1) := by decide +kernel
theorem dX8_isGreat_33 : decode cX8_isGreat 33 = .ok (.dup, 1) := by decide +kernel
theorem dX8_isGreat_34 : decode cX8_isGreat 34 = .ok (.getfield 125, 3) := by decide +kernel
theorem dX8_isGreat_37 : decode cX8_isGreat 37 = .ok (.iconst 1, 1) := by decide +kernel
theorem dX8_isGreat_38 : decode cX8_isGreat 38 = .ok (.iadd, 1) := by decide +kernel
theorem dX8_isGreat_39 : decode cX8_isGreat 39 = .ok (.putfield 125, 3) := by decide +kernel
theorem dX8_isGreat_42 : decode cX8_isGreat 42 = .ok (.aload_n 0, 1) := by decide +kernel
theorem dX8_isGreat_43 : decode cX8_isGreat 43 = .ok (.getfield 141, 3) := by decide +kernel
theorem dX8_isGreat_46 : decode cX8_isGreat 46 = .ok (.ifCond .le 61, 3) := by decide +kernel
theorem dX8_isGreat_49 : decode cX8_isGreat 49 = .ok (.aload_n 0, 1) := by decide +kernel
theorem dX8_isGreat_50 : decode cX8_isGreat 50 = .ok (.getfield 141, 3) := by decide +kernel
theorem dX8_isGreat_53 : decode cX8_isGreat 53 = .ok (.sipush 1000, 3) := by decide +kernel
theorem dX8_isGreat_56 : decode cX8_isGreat 56 = .ok (.if_icmp .ge 51, 3) := by decide +kernel
theorem dX8_isGreat_59 : decode cX8_isGreat 59 = .ok (.aload_n 0, 1) := by decide +kernel
theorem dX8_isGreat_60 : decode cX8_isGreat 60 = .ok (.bipush 48, 2) := by decide +kernel
theorem dX8_isGreat_62 : decode cX8_isGreat 62 = .ok (.bipush 57, 2) := by decide +kernel
theorem dX8_isGreat_64 : decode cX8_isGreat 64 = .ok (.invokevirtual 131, 3) := by decide +kernel
theorem dX8_isGreat_67 : decode cX8_isGreat 67 = .ok (.ifCond .eq 40, 3) := by decide +kernel
theorem dX8_isGreat_70 : decode cX8_isGreat 70 = .ok (.aload_n 0, 1) := by decide +kernel
theorem dX8_isGreat_71 : decode cX8_isGreat 71 = .ok (.bipush 10, 2) := by decide +kernel
theorem dX8_isGreat_73 : decode cX8_isGreat 73 = .ok (.aload_n 0, 1) := by decide +kernel
theorem dX8_isGreat_74 : decode cX8_isGreat 74 = .ok (.getfield 141, 3) := by decide +kernel
theorem dX8_isGreat_77 : decode cX8_isGreat 77 = .ok (.imul, 1) := by decide +kernel
theorem dX8_isGreat_78 : decode cX8_isGreat 78 = .ok (.aload_n 0, 1) := by decide +kernel
theorem dX8_isGreat_79 : decode cX8_isGreat 79 = .ok (.getfield 16, 3) := by decide +kernel
theorem dX8_isGreat_82 : decode cX8_isGreat 82 = .ok (.aload_n 0, 1) := by decide +kernel
theorem dX8_isGreat_83 : decode cX8_isGreat 83 = .ok (.getfield 125, 3) := by decide +kernel
theorem dX8_isGreat_86 : decode cX8_isGreat 86 = .ok (.iaload, 1) := by decide +kernel
theorem dX8_isGreat_87 : decode cX8_isGreat 87 = .ok (.iadd, 1) := by decide +kernel
theorem dX8_isGreat_88 : decode cX8_isGreat 88 = .ok (.bipush 48, 2) := by decide +kernel
theorem dX8_isGreat_90 : decode cX8_isGreat 90 = .ok (.isub, 1) := by decide +kernel
theorem dX8_isGreat_91 : decode cX8_isGreat 91 = .ok (.putfield 141, 3) := by decide +kernel
theorem dX8_isGreat_94 : decode cX8_isGreat 94 = .ok (.aload_n 0, 1) := by decide +kernel
theorem dX8_isGreat_95 : decode cX8_isGreat 95 = .ok (.dup, 1) := by decide +kernel
theorem dX8_isGreat_96 : decode cX8_isGreat 96 = .ok (.getfield 125, 3) := by decide +kernel
theorem dX8_isGreat_99 : decode cX8_isGreat 99 = .ok (.iconst 1, 1) := by decide +kernel
theorem dX8_isGreat_100 : decode cX8_isGreat 100 = .ok (.iadd, 1) := by decide +kernel
theorem dX8_isGreat_101 : decode cX8_isGreat 101 = .ok (.putfield 125, 3) := by decide +kernel
theorem dX8_isGreat_104 : decode cX8_isGreat 104 = .ok (.goto (-62), 3) := by decide +kernel
theorem dX8_isGreat_107 : decode cX8_isGreat 107 = .ok (.iconst 1, 1) := by decide +kernel
theorem dX8_isGreat_108 : decode cX8_isGreat 108 = .ok (.ireturn, 1) := by decide +kernel
theorem dX8_isMinus_0 : decode cX8_isMinus 0 = .ok (.aload_n 0, 1) := by decide +kernel
theorem dX8_isMinus_1 : decode cX8_isMinus 1 = .ok (.bipush 45, 2) := by decide +kernel
theorem dX8_isMinus_3 : decode cX8_isMinus 3 = .ok (.bipush 45, 2) := by decide +kernel
theorem dX8_isMinus_5 : decode cX8_isMinus 5 = .ok (.invokevirtual 131, 3) := by decide +kernel
theorem dX8_isMinus_8 : decode cX8_isMinus 8 = .ok (.istore_n 1, 1) := by decide +kernel
theorem dX8_isMinus_9 : decode cX8_isMinus 9 = .ok (.aload_n 0, 1) := by decide +kernel
theorem dX8_isMinus_10 : decode cX8_isMinus 10 = .ok (.dup, 1) := by decide +kernel
theorem dX8_isMinus_11 : decode cX8_isMinus 11 = .ok (.getfield 125, 3) := by decide +kernel
theorem dX8_isMinus_14 : decode cX8_isMinus 14 = .ok (.iload_n 1, 1) := by decide +kernel
theorem dX8_isMinus_15 : decode cX8_isMinus 15 = .ok (.ifCond .eq 7, 3) := by decide +kernel
theorem dX8_isMinus_18 : decode cX8_isMinus 18 = .ok (.iconst 1, 1) := by decide +kernel
theorem dX8_isMinus_19 : decode cX8_isMinus 19 = .ok (.goto 4, 3) := by decide +kernel
theorem dX8_isMinus_22 : decode cX8_isMinus 22 = .ok (.iconst 0, 1) := by decide +kernel
theorem dX8_isMinus_23 : decode cX8_isMinus 23 = .ok (.iadd, 1) := by decide +kernel
theorem dX8_isMinus_24 : decode cX8_isMinus 24 = .ok (.putfield 125, 3) := by decide +kernel
theorem dX8_isMinus_27 : decode cX8_isMinus 27 = .ok (.iload_n 1, 1) := by decide +kernel
theorem dX8_isMinus_28 : decode cX8_isMinus 28 = .ok (.ireturn, 1) := by decide +kernel
theorem dX8_isPart_0 : decode cX8_isPart 0 = .ok (.iconst 4, 1) := by decide +kernel
theorem dX8_isPart_1 : decode cX8_isPart 1 = .ok (.aload_n 0, 1) := by decide +kernel
theorem dX8_isPart_2 : decode cX8_isPart 2 = .ok (.getfield 144, 3) := by decide +kernel
theorem dX8_isPart_5 : decode cX8_isPart 5 = .ok (.imul, 1) := by decide +kernel
theorem dX8_isPart_6 : decode cX8_isPart 6 = .ok (.istore_n 1, 1) := by decide +kernel
theorem dX8_isPart_7 : decode cX8_isPart 7 = .ok (.aload_n 0, 1) := by decide +kernel
theorem dX8_isPart_8 : decode cX8_isPart 8 = .ok (.invokevirtual 147, 3) := by decide +kernel
theorem dX8_isPart_11 : decode cX8_isPart 11 = .ok (.istore_n 2, 1) := by decide +kernel
theorem dX8_isPart_12 : decode cX8_isPart 12 = .ok (.aload_n 0, 1) := by decide +kernel
theorem dX8_isPart_13 : decode cX8_isPart 13 = .ok (.iconst 0, 1) := by decide +kernel
theorem dX8_isPart_14 : decode cX8_isPart 14 = .ok (.bipush 99, 2) := by decide +kernel
theorem dX8_isPart_16 : decode cX8_isPart 16 = .ok (.invokevirtual 150, 3) := by decide +kernel
theorem dX8_isPart_19 : decode cX8_isPart 19 = .ok (.ifCond .eq 12, 3) := by decide +kernel
theorem dX8_isPart_22 : decode cX8_isPart 22 = .ok (.aload_n 0, 1) := by decide +kernel
theorem dX8_isPart_23 : decode cX8_isPart 23 = .ok (.bipush 120, 2) := by decide +kernel
theorem dX8_isPart_25 : decode cX8_isPart 25 = .ok (.invokevirtual 153, 3) := by decide +kernel
theorem dX8_isPart_28 : decode cX8_isPart 28 = .ok (.ifCond .ne 5, 3) := by decide +kernel
theorem dX8_isPart_31 : decode cX8_isPart 31 = .ok (.iconst 0, 1) := by decide +kernel
theorem dX8_isPart_32 : decode cX8_isPart 32 = .ok (.ireturn, 1) := by decide +kernel
theorem dX8_isPart_33 : decode cX8_isPart 33 = .ok (.aload_n 0, 1) := by decide +kernel
theorem dX8_isPart_34 : decode cX8_isPart 34 = .ok (.getfield 19, 3) := by decide +kernel
theorem dX8_isPart_37 : decode cX8_isPart 37 = .ok (.iload_n 1, 1) := by decide +kernel
theorem dX8_isPart_38 : decode cX8_isPart 38 = .ok (.iload_n 2, 1) := by decide +kernel
theorem dX8_isPart_39 : decode cX8_isPart 39 = .ok (.ifCond .eq 11, 3) := by decide +kernel
theorem dX8_isPart_42 : decode cX8_isPart 42 = .ok (.aload_n 0, 1) := by decide +kernel
theorem dX8_isPart_43 : decode cX8_isPart 43 = .ok (.getfield 141, 3) := by decide +kernel
theorem dX8_isPart_46 : decode cX8_isPart 46 = .ok (.ineg, 1) := by decide +kernel
theorem dX8_isPart_47 : decode cX8_isPart 47 = .ok (.goto 7, 3) := by decide +kernel
theorem dX8_isPart_50 : decode cX8_isPart 50 = .ok (.aload_n 0, 1) := by decide +kernel
theorem dX8_isPart_51 : decode cX8_isPart 51 = .ok (.getfield 141, 3) := by decide +kernel
theorem dX8_isPart_54 : decode cX8_isPart 54 = .ok (.iastore, 1) := by decide +kernel
theorem dX8_isPart_55 : decode cX8_isPart 55 = .ok (.aload_n 0, 1) := by decide +kernel
theorem dX8_isPart_56 : decode cX8_isPart 56 = .ok (.bipush 45, 2) := by decide +kernel
theorem dX8_isPart_58 : decode cX8_isPart 58 = .ok (.bipush 45, 2) := by decide +kernel
theorem dX8_isPart_60 : decode cX8_isPart 60 = .ok (.invokevirtual 131, 3) := by decide +kernel
theorem dX8_isPart_63 : decode cX8_isPart 63 = .ok (.istore_n 2, 1) := by decide +kernel
theorem dX8_isPart_64 : decode cX8_isPart 64 = .ok (.iload_n 2, 1) := by decide +kernel
theorem dX8_isPart_65 : decode cX8_isPart 65 = .ok (.ifCond .ne 19, 3) := by decide +kernel
theorem dX8_isPart_68 : decode cX8_isPart 68 = .ok (.aload_n 0, 1) := by decide +kernel
theorem dX8_isPart_69 : decode cX8_isPart 69 = .ok (.bipush 43, 2) := by decide +kernel
theorem dX8_isPart_71 : decode cX8_isPart 71 = .ok (.bipush 43, 2) := by decide +kernel
theorem dX8_isPart_73 : decode cX8_isPart 73 = .ok (.invokevirtual 131, 3) := by decide +kernel
theorem dX8_isPart_76 : decode cX8_isPart 76 = .ok (.ifCond .ne 8, 3) := by decide +kernel
theorem dX8_isPart_79 : decode cX8_isPart 79 = .ok (.aload_n 0, 1) := by decide +kernel
theorem dX8_isPart_80 : decode cX8_isPart 80 = .ok (.invokevirtual 134, 3) := by decide +kernel
theorem dX8_isPart_83 : decode cX8_isPart 83 = .ok (.ireturn, 1) := by decide +kernel
theorem dX8_isPart_84 : decode cX8_isPart 84 = .ok (.aload_n 0, 1) := by decide +kernel
theorem dX8_isPart_85 : decode cX8_isPart 85 = .ok (.dup, 1) := by decide +kernel
theorem dX8_isPart_86 : decode cX8_isPart 86 = .ok (.getfield 125, 3) := by decide +kernel
theorem dX8_isPart_89 : decode cX8_isPart 89 = .ok (.iconst 1, 1) := by decide +kernel
theorem dX8_isPart_90 : decode cX8_isPart 90 = .ok (.iadd, 1) := by decide +kernel
theorem dX8_isPart_91 : decode cX8_isPart 91 = .ok (.putfield 125, 3) := by decide +kernel
theorem dX8_isPart_94 : decode cX8_isPart 94 = .ok (.aload_n 0, 1) := by decide +kernel
theorem dX8_isPart_95 : decode cX8_isPart 95 = .ok (.invokevirtual 156, 3) := by decide +kernel
theorem dX8_isPart_98 : decode cX8_isPart 98 = .ok (.ifCond .ne 5, 3) := by decide +kernel
theorem dX8_isPart_101 : decode cX8_isPart 101 = .ok (.iconst 0, 1) := by decide +kernel
theorem dX8_isPart_102 : decode cX8_isPart 102 = .ok (.ireturn, 1) := by decide +kernel
theorem dX8_isPart_103 : decode cX8_isPart 103 = .ok (.aload_n 0, 1) := by decide +kernel
theorem dX8_isPart_104 : decode cX8_isPart 104 = .ok (.getfield 19, 3) := by decide +kernel
theorem dX8_isPart_107 : decode cX8_isPart 107 = .ok (.iload_n 1, 1) := by decide +kernel
theorem dX8_isPart_108 : decode cX8_isPart 108 = .ok (.iconst 1, 1) := by decide +kernel
theorem dX8_isPart_109 : decode cX8_isPart 109 = .ok (.iadd, 1) := by decide +kernel
theorem dX8_isPart_110 : decode cX8_isPart 110 = .ok (.iload_n 2, 1) := by decide +kernel
theorem dX8_isPart_111 : decode cX8_isPart 111 = .ok (.ifCond .eq 11, 3) := by decide +kernel
theorem dX8_isPart_114 : decode cX8_isPart 114 = .ok (.aload_n 0, 1) := by decide +kernel
theorem dX8_isPart_115 : decode cX8_isPart 115 = .ok (.getfield 141, 3) := by decide +kernel
theorem dX8_isPart_118 : decode cX8_isPart 118 = .ok (.ineg, 1) := by decide +kernel
theorem dX8_isPart_119 : decode cX8_isPart 119 = .ok (.goto 7, 3) := by decide +kernel
theorem dX8_isPart_122 : decode cX8_isPart 122 = .ok (.aload_n 0, 1) := by decide +kernel
theorem dX8_isPart_123 : decode cX8_isPart 123 = .ok (.getfield 141, 3) := by decide +kernel
theorem dX8_isPart_126 : decode cX8_isPart 126 = .ok (.iastore, 1) := by decide +kernel
theorem dX8_isPart_127 : decode cX8_isPart 127 = .ok (.aload_n 0, 1) := by decide +kernel
theorem dX8_isPart_128 : decode cX8_isPart 128 = .ok (.getfield 19, 3) := by decide +kernel
theorem dX8_isPart_131 : decode cX8_isPart 131 = .ok (.iload_n 1, 1) := by decide +kernel
theorem dX8_isPart_132 : decode cX8_isPart 132 = .ok (.iconst 2, 1) := by decide +kernel
theorem dX8_isPart_133 : decode cX8_isPart 133 = .ok (.iadd, 1) := by decide +kernel
theorem dX8_isPart_134 : decode cX8_isPart 134 = .ok (.iconst 0, 1) := by decide +kernel
theorem dX8_isPart_135 : decode cX8_isPart 135 = .ok (.iastore, 1) := by decide +kernel
theorem dX8_isPart_136 : decode cX8_isPart 136 = .ok (.aload_n 0, 1) := by decide +kernel
theorem dX8_isPart_137 : decode cX8_isPart 137 = .ok (.getfield 19, 3) := by decide +kernel
theorem dX8_isPart_140 : decode cX8_isPart 140 = .ok (.iload_n 1, 1) := by decide +kernel
theorem dX8_isPart_141 : decode cX8_isPart 141 = .ok (.iconst 3, 1) := by decide +kernel
theorem dX8_isPart_142 : decode cX8_isPart 142 = .ok (.iadd, 1) := by decide +kernel
theorem dX8_isPart_143 : decode cX8_isPart 143 = .ok (.bipush 99, 2) := by decide +kernel
theorem dX8_isPart_145 : decode cX8_isPart 145 = .ok (.iastore, 1) := by decide +kernel
theorem dX8_isPart_146 : decode cX8_isPart 146 = .ok (.aload_n 0, 1) := by decide +kernel
theorem dX8_isPart_147 : decode cX8_isPart 147 = .ok (.bipush 64, 2) := by decide +kernel
theorem dX8_isPart_149 : decode cX8_isPart 149 = .ok (.bipush 64, 2) := by decide +kernel
theorem dX8_isPart_151 : decode cX8_isPart 151 = .ok (.invokevirtual 131, 3) := by decide +kernel
theorem dX8_isPart_154 : decode cX8_isPart 154 = .ok (.ifCond .ne 5, 3) := by decide +kernel
theorem dX8_isPart_157 : decode cX8_isPart 157 = .ok (.iconst 1, 1) := by decide +kernel
theorem dX8_isPart_158 : decode cX8_isPart 158 = .ok (.ireturn, 1) := by decide +kernel
theorem dX8_isPart_159 : decode cX8_isPart 159 = .ok (.aload_n 0, 1) := by decide +kernel
theorem dX8_isPart_160 : decode cX8_isPart 160 = .ok (.dup, 1) := by decide +kernel
theorem dX8_isPart_161 : decode cX8_isPart 161 = .ok (.getfield 125, 3) := by decide +kernel
theorem dX8_isPart_164 : decode cX8_isPart 164 = .ok (.iconst 1, 1) := by decide +kernel
theorem dX8_isPart_165 : decode cX8_isPart 165 = .ok (.iadd, 1) := by decide +kernel
theorem dX8_isPart_166 : decode cX8_isPart 166 = .ok (.putfield 125, 3) := by decide +kernel
theorem dX8_isPart_169 : decode cX8_isPart 169 = .ok (.aload_n 0, 1) := by decide +kernel
theorem dX8_isPart_170 : decode cX8_isPart 170 = .ok (.iconst 0, 1) := by decide +kernel
theorem dX8_isPart_171 : decode cX8_isPart 171 = .ok (.bipush 99, 2) := by decide +kernel
theorem dX8_isPart_173 : decode cX8_isPart 173 = .ok (.invokevirtual 150, 3) := by decide +kernel
theorem dX8_isPart_176 : decode cX8_isPart 176 = .ok (.ifCond .ne 5, 3) := by decide +kernel
theorem dX8_isPart_179 : decode cX8_isPart 179 = .ok (.iconst 0, 1) := by decide +kernel
theorem dX8_isPart_180 : decode cX8_isPart 180 = .ok (.ireturn, 1) := by decide +kernel
theorem dX8_isPart_181 : decode cX8_isPart 181 = .ok (.aload_n 0, 1) := by decide +kernel
theorem dX8_isPart_182 : decode cX8_isPart 182 = .ok (.getfield 19, 3) := by decide +kernel
theorem dX8_isPart_185 : decode cX8_isPart 185 = .ok (.iload_n 1, 1) := by decide +kernel
theorem dX8_isPart_186 : decode cX8_isPart 186 = .ok (.iconst 2, 1) := by decide +kernel
theorem dX8_isPart_187 : decode cX8_isPart 187 = .ok (.iadd, 1) := by decide +kernel
theorem dX8_isPart_188 : decode cX8_isPart 188 = .ok (.aload_n 0, 1) := by decide +kernel
theorem dX8_isPart_189 : decode cX8_isPart 189 = .ok (.getfield 141, 3) := by decide +kernel
theorem dX8_isPart_192 : decode cX8_isPart 192 = .ok (.iastore, 1) := by decide +kernel
theorem dX8_isPart_193 : decode cX8_isPart 193 = .ok (.aload_n 0, 1) := by decide +kernel
theorem dX8_isPart_194 : decode cX8_isPart 194 = .ok (.bipush 45, 2) := by decide +kernel
theorem dX8_isPart_196 : decode cX8_isPart 196 = .ok (.invokevirtual 153, 3) := by decide +kernel
theorem dX8_isPart_199 : decode cX8_isPart 199 = .ok (.ifCond .eq 20, 3) := by decide +kernel
theorem dX8_isPart_202 : decode cX8_isPart 202 = .ok (.aload_n 0, 1) := by decide +kernel
theorem dX8_isPart_203 : decode cX8_isPart 203 = .ok (.aload_n 0, 1) := by decide +kernel
theorem dX8_isPart_204 : decode cX8_isPart 204 = .ok (.getfield 19, 3) := by decide +kernel
theorem dX8_isPart_207 : decode cX8_isPart 207 = .ok (.iload_n 1, 1) := by decide +kernel
theorem dX8_isPart_208 : decode cX8_isPart 208 = .ok (.iconst 2, 1) := by decide +kernel
theorem dX8_isPart_209 : decode cX8_isPart 209 = .ok (.iadd, 1) := by decide +kernel
theorem dX8_isPart_210 : decode cX8_isPart 210 = .ok (.iaload, 1) := by decide +kernel
theorem dX8_isPart_211 : decode cX8_isPart 211 = .ok (.bipush 99, 2) := by decide +kernel
theorem dX8_isPart_213 : decode cX8_isPart 213 = .ok (.invokevirtual 150, 3) := by decide +kernel
theorem dX8_isPart_216 : decode cX8_isPart 216 = .ok (.ifCond .ne 5, 3) := by decide +kernel
theorem dX8_isPart_219 : decode cX8_isPart 219 = .ok (.iconst 0, 1) := by decide +kernel
theorem dX8_isPart_220 : decode cX8_isPart 220 = .ok (.ireturn, 1) := by decide +kernel
theorem dX8_isPart_221 : decode cX8_isPart 221 = .ok (.aload_n 0, 1) := by decide +kernel
theorem dX8_isPart_222 : decode cX8_isPart 222 = .ok (.getfield 19, 3) := by decide +kernel
theorem dX8_isPart_225 : decode cX8_isPart 225 = .ok (.iload_n 1, 1) := by decide +kernel
theorem dX8_isPart_226 : decode cX8_isPart 226 = .ok (.iconst 3, 1) := by decide +kernel
theorem dX8_isPart_227 : decode cX8_isPart 227 = .ok (.iadd, 1) := by decide +kernel
theorem dX8_isPart_228 : decode cX8_isPart 228 = .ok (.aload_n 0, 1) := by decide +kernel
theorem dX8_isPart_229 : decode cX8_isPart 229 = .ok (.getfield 141, 3) := by decide +kernel
theorem dX8_isPart_232 : decode cX8_isPart 232 = .ok (.iastore, 1) := by decide +kernel
theorem dX8_isPart_233 : decode cX8_isPart 233 = .ok (.iconst 1, 1) := by decide +kernel
theorem dX8_isPart_234 : decode cX8_isPart 234 = .ok (.ireturn, 1) := by decide +kernel
theorem dX8_isText_0 : decode cX8_isText 0 = .ok (.aload_n 0, 1) := by decide +kernel
theorem dX8_isText_1 : decode cX8_isText 1 = .ok (.iconst 0, 1) := by decide +kernel
theorem dX8_isText_2 : decode cX8_isText 2 = .ok (.putfield 125, 3) := by decide +kernel
theorem dX8_isText_5 : decode cX8_isText 5 = .ok (.aload_n 0, 1) := by decide +kernel
theorem dX8_isText_6 : decode cX8_isText 6 = .ok (.iconst 0, 1) := by decide +kernel
theorem dX8_isText_7 : decode cX8_isText 7 = .ok (.putfield 144, 3) := by decide +kernel
theorem dX8_isText_10 : decode cX8_isText 10 = .ok (.aload_n 0, 1) := by decide +kernel
theorem dX8_isText_11 : decode cX8_isText 11 = .ok (.iconst 0, 1) := by decide +kernel
theorem dX8_isText_12 : decode cX8_isText 12 = .ok (.putfield 127, 3) := by decide +kernel
theorem dX8_isText_15 : decode cX8_isText 15 = .ok (.iconst 1, 1) := by decide +kernel
theorem dX8_isText_16 : decode cX8_isText 16 = .ok (.istore_n 1, 1) := by decide +kernel
theorem dX8_isText_17 : decode cX8_isText 17 = .ok (.iload_n 1, 1) := by decide +kernel
theorem dX8_isText_18 : decode cX8_isText 18 = .ok (.ifCond .eq 52, 3) := by decide +kernel
theorem dX8_isText_21 : decode cX8_isText 21 = .ok (.aload_n 0, 1) := by decide +kernel
theorem dX8_isText_22 : decode cX8_isText 22 = .ok (.invokevirtual 159, 3) := by decide +kernel
theorem dX8_isText_25 : decode cX8_isText 25 = .ok (.ifCond .ne 5, 3) := by decide +kernel
theorem dX8_isText_28 : decode cX8_isText 28 = .ok (.iconst 0, 1) := by decide +kernel
theorem dX8_isText_29 : decode cX8_isText 29 = .ok (.ireturn, 1) := by decide +kernel
theorem dX8_isText_30 : decode cX8_isText 30 = .ok (.aload_n 0, 1) := by decide +kernel
theorem dX8_isText_31 : decode cX8_isText 31 = .ok (.dup, 1) := by decide +kernel
theorem dX8_isText_32 : decode cX8_isText 32 = .ok (.getfield 144, 3) := by decide +kernel
theorem dX8_isText_35 : decode cX8_isText 35 = .ok (.iconst 1, 1) := by decide +kernel
theorem dX8_isText_36 : decode cX8_isText 36 = .ok (.iadd, 1) := by decide +kernel
theorem dX8_isText_37 : decode cX8_isText 37 = .ok (.putfield 144, 3) := by decide +kernel
theorem dX8_isText_40 : decode cX8_isText 40 = .ok (.aload_n 0, 1) := by decide +kernel
theorem dX8_isText_41 : decode cX8_isText 41 = .ok (.bipush 59, 2) := by decide +kernel
theorem dX8_isText_43 : decode cX8_isText 43 = .ok (.bipush 59, 2) := by decide +kernel
theorem dX8_isText_45 : decode cX8_isText 45 = .ok (.invokevirtual 131, 3) := by decide +kernel
theorem dX8_isText_48 : decode cX8_isText 48 = .ok (.istore_n 1, 1) := by decide +kernel
theorem dX8_isText_49 : decode cX8_isText 49 = .ok (.aload_n 0, 1) := by decide +kernel
theorem dX8_isText_50 : decode cX8_isText 50 = .ok (.dup, 1) := by decide +kernel
theorem dX8_isText_51 : decode cX8_isText 51 = .ok (.getfield 125, 3) := by decide +kernel
theorem dX8_isText_54 : decode cX8_isText 54 = .ok (.iload_n 1, 1) := by decide +kernel
theorem dX8_isText_55 : decode cX8_isText 55 = .ok (.ifCond .eq 7, 3) := by decide +kernel
theorem dX8_isText_58 : decode cX8_isText 58 = .ok (.iconst 1, 1) := by decide +kernel
theorem dX8_isText_59 : decode cX8_isText 59 = .ok (.goto 4, 3) := by decide +kernel
theorem dX8_isText_62 : decode cX8_isText 62 = .ok (.iconst 0, 1) := by decide +kernel
theorem dX8_isText_63 : decode cX8_isText 63 = .ok (.iadd, 1) := by decide +kernel
theorem dX8_isText_64 : decode cX8_isText 64 = .ok (.putfield 125, 3) := by decide +kernel
theorem dX8_isText_67 : decode cX8_isText 67 = .ok (.goto (-50), 3) := by decide +kernel
theorem dX8_isText_70 : decode cX8_isText 70 = .ok (.aload_n 0, 1) := by decide +kernel
theorem dX8_isText_71 : decode cX8_isText 71 = .ok (.aload_n 0, 1) := by decide +kernel
theorem dX8_isText_72 : decode cX8_isText 72 = .ok (.getfield 125, 3) := by decide +kernel
theorem dX8_isText_75 : decode cX8_isText 75 = .ok (.aload_n 0, 1) := by decide +kernel
theorem dX8_isText_76 : decode cX8_isText 76 = .ok (.getfield 122, 3) := by decide +kernel
theorem dX8_isText_79 : decode cX8_isText 79 = .ok (.if_icmp .ge 7, 3) := by decide +kernel
theorem dX8_isText_82 : decode cX8_isText 82 = .ok (.iconst 1, 1) := by decide +kernel
theorem dX8_isText_83 : decode cX8_isText 83 = .ok (.goto 4, 3) := by decide +kernel
theorem dX8_isText_86 : decode cX8_isText 86 = .ok (.iconst 0, 1) := by decide +kernel
theorem dX8_isText_87 : decode cX8_isText 87 = .ok (.putfield 127, 3) := by decide +kernel
theorem dX8_isText_90 : decode cX8_isText 90 = .ok (.aload_n 0, 1) := by decide +kernel
theorem dX8_isText_91 : decode cX8_isText 91 = .ok (.getfield 125, 3) := by decide +kernel
theorem dX8_isText_94 : decode cX8_isText 94 = .ok (.aload_n 0, 1) := by decide +kernel
theorem dX8_isText_95 : decode cX8_isText 95 = .ok (.getfield 122, 3) := by decide +kernel
theorem dX8_isText_98 : decode cX8_isText 98 = .ok (.if_icmp .ne 7, 3) := by decide +kernel
theorem dX8_isText_101 : decode cX8_isText 101 = .ok (.iconst 1, 1) := by decide +kernel
theorem dX8_isText_102 : decode cX8_isText 102 = .ok (.goto 4, 3) := by decide +kernel
theorem dX8_isText_105 : decode cX8_isText 105 = .ok (.iconst 0, 1) := by decide +kernel
theorem dX8_isText_106 : decode cX8_isText 106 = .ok (.ireturn, 1) := by decide +kernel
theorem dX8_firstError_0 : decode cX8_firstError 0 = .ok (.aload_n 0, 1) := by decide +kernel
theorem dX8_firstError_1 : decode cX8_firstError 1 = .ok (.iconst 0, 1) := by decide +kernel
theorem dX8_firstError_2 : decode cX8_firstError 2 = .ok (.putfield 35, 3) := by decide +kernel
theorem dX8_firstError_5 : decode cX8_firstError 5 = .ok (.aload_n 0, 1) := by decide +kernel
theorem dX8_firstError_6 : decode cX8_firstError 6 = .ok (.invokevirtual 162, 3) := by decide +kernel
theorem dX8_firstError_9 : decode cX8_firstError 9 = .ok (.istore_n 1, 1) := by decide +kernel
theorem dX8_firstError_10 : decode cX8_firstError 10 = .ok (.iload_n 1, 1) := by decide +kernel
theorem dX8_firstError_11 : decode cX8_firstError 11 = .ok (.ifCond .ne 17, 3) := by decide +kernel
theorem dX8_firstError_14 : decode cX8_firstError 14 = .ok (.aload_n 0, 1) := by decide +kernel
theorem dX8_firstError_15 : decode cX8_firstError 15 = .ok (.getfield 127, 3) := by decide +kernel
theorem dX8_firstError_18 : decode cX8_firstError 18 = .ok (.ifCond .eq 10, 3) := by decide +kernel
theorem dX8_firstError_21 : decode cX8_firstError 21 = .ok (.aload_n 0, 1) := by decide +kernel
theorem dX8_firstError_22 : decode cX8_firstError 22 = .ok (.getfield 125, 3) := by decide +kernel
theorem dX8_firstError_25 : decode cX8_firstError 25 = .ok (.goto 7, 3) := by decide +kernel
theorem dX8_firstError_28 : decode cX8_firstError 28 = .ok (.aload_n 0, 1) := by decide +kernel
theorem dX8_firstError_29 : decode cX8_firstError 29 = .ok (.getfield 122, 3) := by decide +kernel
theorem dX8_firstError_32 : decode cX8_firstError 32 = .ok (.ireturn, 1) := by decide +kernel
theorem dX8_addAll_0 : decode cX8_addAll 0 = .ok (.aload_n 0, 1) := by decide +kernel
theorem dX8_addAll_1 : decode cX8_addAll 1 = .ok (.iconst 0, 1) := by decide +kernel
theorem dX8_addAll_2 : decode cX8_addAll 2 = .ok (.putfield 35, 3) := by decide +kernel
theorem dX8_addAll_5 : decode cX8_addAll 5 = .ok (.aload_n 0, 1) := by decide +kernel
theorem dX8_addAll_6 : decode cX8_addAll 6 = .ok (.invokevirtual 162, 3) := by decide +kernel
theorem dX8_addAll_9 : decode cX8_addAll 9 = .ok (.ifCond .ne 9, 3) := by decide +kernel
theorem dX8_addAll_12 : decode cX8_addAll 12 = .ok (.aload_n 0, 1) := by decide +kernel
theorem dX8_addAll_13 : decode cX8_addAll 13 = .ok (.iconst 1, 1) := by decide +kernel
theorem dX8_addAll_14 : decode cX8_addAll 14 = .ok (.invokevirtual 46, 3) := by decide +kernel
theorem dX8_addAll_17 : decode cX8_addAll 17 = .ok (.ireturn, 1) := by decide +kernel
theorem dX8_addAll_18 : decode cX8_addAll 18 = .ok (.aload_n 0, 1) := by decide +kernel
theorem dX8_addAll_19 : decode cX8_addAll 19 = .ok (.getfield 7, 3) := by decide +kernel
theorem dX8_addAll_22 : decode cX8_addAll 22 = .ok (.iconst 1, 1) := by decide +kernel
theorem dX8_addAll_23 : decode cX8_addAll 23 = .ok (.iaload, 1) := by decide +kernel
theorem dX8_addAll_24 : decode cX8_addAll 24 = .ok (.aload_n 0, 1) := by decide +kernel
theorem dX8_addAll_25 : decode cX8_addAll 25 = .ok (.getfield 144, 3) := by decide +kernel
theorem dX8_addAll_28 : decode cX8_addAll 28 = .ok (.iadd, 1) := by decide +kernel
theorem dX8_addAll_29 : decode cX8_addAll 29 = .ok (.bipush 20, 2) := by decide +kernel
theorem dX8_addAll_31 : decode cX8_addAll 31 = .ok (.if_icmp .le 9, 3) := by decide +kernel
theorem dX8_addAll_34 : decode cX8_addAll 34 = .ok (.aload_n 0, 1) := by decide +kernel
theorem dX8_addAll_35 : decode cX8_addAll 35 = .ok (.iconst 2, 1) := by decide +kernel
theorem dX8_addAll_36 : decode cX8_addAll 36 = .ok (.invokevirtual 46, 3) := by decide +kernel
theorem dX8_addAll_39 : decode cX8_addAll 39 = .ok (.ireturn, 1) := by decide +kernel
theorem dX8_addAll_40 : decode cX8_addAll 40 = .ok (.aload_n 0, 1) := by decide +kernel
theorem dX8_addAll_41 : decode cX8_addAll 41 = .ok (.invokevirtual 71, 3) := by decide +kernel
theorem dX8_addAll_44 : decode cX8_addAll 44 = .ok (.aload_n 0, 1) := by decide +kernel
theorem dX8_addAll_45 : decode cX8_addAll 45 = .ok (.iconst 0, 1) := by decide +kernel
theorem dX8_addAll_46 : decode cX8_addAll 46 = .ok (.putfield 122, 3) := by decide +kernel
theorem dX8_addAll_49 : decode cX8_addAll 49 = .ok (.iconst 0, 1) := by decide +kernel
theorem dX8_addAll_50 : decode cX8_addAll 50 = .ok (.istore_n 1, 1) := by decide +kernel
theorem dX8_addAll_51 : decode cX8_addAll 51 = .ok (.iload_n 1, 1) := by decide +kernel
theorem dX8_addAll_52 : decode cX8_addAll 52 = .ok (.aload_n 0, 1) := by decide +kernel
theorem dX8_addAll_53 : decode cX8_addAll 53 = .ok (.getfield 144, 3) := by decide +kernel
theorem dX8_addAll_56 : decode cX8_addAll 56 = .ok (.if_icmp .ge 51, 3) := by decide +kernel
theorem dX8_addAll_59 : decode cX8_addAll 59 = .ok (.aload_n 0, 1) := by decide +kernel
theorem dX8_addAll_60 : decode cX8_addAll 60 = .ok (.aload_n 0, 1) := by decide +kernel
theorem dX8_addAll_61 : decode cX8_addAll 61 = .ok (.getfield 19, 3) := by decide +kernel
theorem dX8_addAll_64 : decode cX8_addAll 64 = .ok (.iconst 4, 1) := by decide +kernel
theorem dX8_addAll_65 : decode cX8_addAll 65 = .ok (.iload_n 1, 1) := by decide +kernel
theorem dX8_addAll_66 : decode cX8_addAll 66 = .ok (.imul, 1) := by decide +kernel
theorem dX8_addAll_67 : decode cX8_addAll 67 = .ok (.iaload, 1) := by decide +kernel
theorem dX8_addAll_68 : decode cX8_addAll 68 = .ok (.aload_n 0, 1) := by decide +kernel
theorem dX8_addAll_69 : decode cX8_addAll 69 = .ok (.getfield 19, 3) := by decide +kernel
theorem dX8_addAll_72 : decode cX8_addAll 72 = .ok (.iconst 4, 1) := by decide +kernel
theorem dX8_addAll_73 : decode cX8_addAll 73 = .ok (.iload_n 1, 1) := by decide +kernel
theorem dX8_addAll_74 : decode cX8_addAll 74 = .ok (.imul, 1) := by decide +kernel
theorem dX8_addAll_75 : decode cX8_addAll 75 = .ok (.iconst 1, 1) := by decide +kernel
theorem dX8_addAll_76 : decode cX8_addAll 76 = .ok (.iadd, 1) := by decide +kernel
theorem dX8_addAll_77 : decode cX8_addAll 77 = .ok (.iaload, 1) := by decide +kernel
theorem dX8_addAll_78 : decode cX8_addAll 78 = .ok (.aload_n 0, 1) := by decide +kernel
theorem dX8_addAll_79 : decode cX8_addAll 79 = .ok (.getfield 19, 3) := by decide +kernel
theorem dX8_addAll_82 : decode cX8_addAll 82 = .ok (.iconst 4, 1) := by decide +kernel
theorem dX8_addAll_83 : decode cX8_addAll 83 = .ok (.iload_n 1, 1) := by decide +kernel
theorem dX8_addAll_84 : decode cX8_addAll 84 = .ok (.imul, 1) := by decide +kernel
theorem dX8_addAll_85 : decode cX8_addAll 85 = .ok (.iconst 2, 1) := by decide +kernel
theorem dX8_addAll_86 : decode cX8_addAll 86 = .ok (.iadd, 1) := by decide +kernel
theorem dX8_addAll_87 : decode cX8_addAll 87 = .ok (.iaload, 1) := by decide +kernel
theorem dX8_addAll_88 : decode cX8_addAll 88 = .ok (.aload_n 0, 1) := by decide +kernel
theorem dX8_addAll_89 : decode cX8_addAll 89 = .ok (.getfield 19, 3) := by decide +kernel
theorem dX8_addAll_92 : decode cX8_addAll 92 = .ok (.iconst 4, 1) := by decide +kernel
theorem dX8_addAll_93 : decode cX8_addAll 93 = .ok (.iload_n 1, 1) := by decide +kernel
theorem dX8_addAll_94 : decode cX8_addAll 94 = .ok (.imul, 1) := by decide +kernel
theorem dX8_addAll_95 : decode cX8_addAll 95 = .ok (.iconst 3, 1) := by decide +kernel
theorem dX8_addAll_96 : decode cX8_addAll 96 = .ok (.iadd, 1) := by decide +kernel
theorem dX8_addAll_97 : decode cX8_addAll 97 = .ok (.iaload, 1) := by decide +kernel
theorem dX8_addAll_98 : decode cX8_addAll 98 = .ok (.invokevirtual 74, 3) := by decide +kernel
theorem dX8_addAll_101 : decode cX8_addAll 101 = .ok (.iinc 1 1, 3) := by decide +kernel
theorem dX8_addAll_104 : decode cX8_addAll 104 = .ok (.goto (-53), 3) := by decide +kernel
theorem dX8_addAll_107 : decode cX8_addAll 107 = .ok (.aload_n 0, 1) := by decide +kernel
theorem dX8_addAll_108 : decode cX8_addAll 108 = .ok (.getfield 7, 3) := by decide +kernel
theorem dX8_addAll_111 : decode cX8_addAll 111 = .ok (.iconst 1, 1) := by decide +kernel
theorem dX8_addAll_112 : decode cX8_addAll 112 = .ok (.iaload, 1) := by decide +kernel
theorem dX8_addAll_113 : decode cX8_addAll 113 = .ok (.ireturn, 1) := by decide +kernel
theorem dX8_firstMoment_0 : decode cX8_firstMoment 0 = .ok (.aload_n 0, 1) := by decide +kernel
theorem dX8_firstMoment_1 : decode cX8_firstMoment 1 = .ok (.iload_n 1, 1) := by decide +kernel
theorem dX8_firstMoment_2 : decode cX8_firstMoment 2 = .ok (.iconst 4, 1) := by decide +kernel
theorem dX8_firstMoment_3 : decode cX8_firstMoment 3 = .ok (.invokevirtual 50, 3) := by decide +kernel
theorem dX8_firstMoment_6 : decode cX8_firstMoment 6 = .ok (.istore_n 2, 1) := by decide +kernel
theorem dX8_firstMoment_7 : decode cX8_firstMoment 7 = .ok (.iload_n 2, 1) := by decide +kernel
theorem dX8_firstMoment_8 : decode cX8_firstMoment 8 = .ok (.aload_n 0, 1) := by decide +kernel
theorem dX8_firstMoment_9 : decode cX8_firstMoment 9 = .ok (.iload_n 1, 1) := by decide +kernel
theorem dX8_firstMoment_10 : decode cX8_firstMoment 10 = .ok (.iconst 5, 1) := by decide +kernel
theorem dX8_firstMoment_11 : decode cX8_firstMoment 11 = .ok (.invokevirtual 50, 3) := by decide +kernel
theorem dX8_firstMoment_14 : decode cX8_firstMoment 14 = .ok (.if_icmp .gt 45, 3) := by decide +kernel
theorem dX8_firstMoment_17 : decode cX8_firstMoment 17 = .ok (.aload_n 0, 1) := by decide +kernel
theorem dX8_firstMoment_18 : decode cX8_firstMoment 18 = .ok (.iload_n 1, 1) := by decide +kernel
theorem dX8_firstMoment_19 : decode cX8_firstMoment 19 = .ok (.iconst 2, 1) := by decide +kernel
theorem dX8_firstMoment_20 : decode cX8_firstMoment 20 = .ok (.invokevirtual 50, 3) := by decide +kernel
theorem dX8_firstMoment_23 : decode cX8_firstMoment 23 = .ok (.istore_n 3, 1) := by decide +kernel
theorem dX8_firstMoment_24 : decode cX8_firstMoment 24 = .ok (.iload_n 3, 1) := by decide +kernel
theorem dX8_firstMoment_25 : decode cX8_firstMoment 25 = .ok (.aload_n 0, 1) := by decide +kernel
theorem dX8_firstMoment_26 : decode cX8_firstMoment 26 = .ok (.iload_n 1, 1) := by decide +kernel
theorem dX8_firstMoment_27 : decode cX8_firstMoment 27 = .ok (.iconst 3, 1) := by decide +kernel
theorem dX8_firstMoment_28 : decode cX8_firstMoment 28 = .ok (.invokevirtual 50, 3) := by decide +kernel
theorem dX8_firstMoment_31 : decode cX8_firstMoment 31 = .ok (.if_icmp .gt 22, 3) := by decide +kernel
theorem dX8_firstMoment_34 : decode cX8_firstMoment 34 = .ok (.aload_n 0, 1) := by decide +kernel
theorem dX8_firstMoment_35 : decode cX8_firstMoment 35 = .ok (.iload_n 3, 1) := by decide +kernel
theorem dX8_firstMoment_36 : decode cX8_firstMoment 36 = .ok (.iload_n 2, 1) := by decide +kernel
theorem dX8_firstMoment_37 : decode cX8_firstMoment 37 = .ok (.iconst (-1), 1) := by decide +kernel
theorem dX8_firstMoment_38 : decode cX8_firstMoment 38 = .ok (.invokevirtual 60, 3) := by decide +kernel
theorem dX8_firstMoment_41 : decode cX8_firstMoment 41 = .ok (.iload_n 1, 1) := by decide +kernel
theorem dX8_firstMoment_42 : decode cX8_firstMoment 42 = .ok (.if_icmp .ne 5, 3) := by decide +kernel
theorem dX8_firstMoment_45 : decode cX8_firstMoment 45 = .ok (.iload_n 2, 1) := by decide +kernel
theorem dX8_firstMoment_46 : decode cX8_firstMoment 46 = .ok (.ireturn, 1) := by decide +kernel
theorem dX8_firstMoment_47 : decode cX8_firstMoment 47 = .ok (.iinc 3 1, 3) := by decide +kernel
theorem dX8_firstMoment_50 : decode cX8_firstMoment 50 = .ok (.goto (-26), 3) := by decide +kernel
theorem dX8_firstMoment_53 : decode cX8_firstMoment 53 = .ok (.iinc 2 1, 3) := by decide +kernel
theorem dX8_firstMoment_56 : decode cX8_firstMoment 56 = .ok (.goto (-49), 3) := by decide +kernel
theorem dX8_firstMoment_59 : decode cX8_firstMoment 59 = .ok (.iconst (-1), 1) := by decide +kernel
theorem dX8_firstMoment_60 : decode cX8_firstMoment 60 = .ok (.ireturn, 1) := by decide +kernel
theorem dX8_ofLine_0 : decode cX8_ofLine 0 = .ok (.iload_n 2, 1) := by decide +kernel
theorem dX8_ofLine_1 : decode cX8_ofLine 1 = .ok (.bipush 6, 2) := by decide +kernel
theorem dX8_ofLine_3 : decode cX8_ofLine 3 = .ok (.if_icmp .ge 10, 3) := by decide +kernel
theorem dX8_ofLine_6 : decode cX8_ofLine 6 = .ok (.aload_n 0, 1) := by decide +kernel
theorem dX8_ofLine_7 : decode cX8_ofLine 7 = .ok (.iload_n 1, 1) := by decide +kernel
theorem dX8_ofLine_8 : decode cX8_ofLine 8 = .ok (.iload_n 2, 1) := by decide +kernel
theorem dX8_ofLine_9 : decode cX8_ofLine 9 = .ok (.invokevirtual 50, 3) := by decide +kernel
theorem dX8_ofLine_12 : decode cX8_ofLine 12 = .ok (.ireturn, 1) := by decide +kernel
theorem dX8_ofLine_13 : decode cX8_ofLine 13 = .ok (.iload_n 2, 1) := by decide +kernel
theorem dX8_ofLine_14 : decode cX8_ofLine 14 = .ok (.bipush 8, 2) := by decide +kernel
theorem dX8_ofLine_16 : decode cX8_ofLine 16 = .ok (.if_icmp .ne 9, 3) := by decide +kernel
theorem dX8_ofLine_19 : decode cX8_ofLine 19 = .ok (.aload_n 0, 1) := by decide +kernel
theorem dX8_ofLine_20 : decode cX8_ofLine 20 = .ok (.iload_n 1, 1) := by decide +kernel
theorem dX8_ofLine_21 : decode cX8_ofLine 21 = .ok (.invokevirtual 165, 3) := by decide +kernel
theorem dX8_ofLine_24 : decode cX8_ofLine 24 = .ok (.ireturn, 1) := by decide +kernel
theorem dX8_ofLine_25 : decode cX8_ofLine 25 = .ok (.aload_n 0, 1) := by decide +kernel
theorem dX8_ofLine_26 : decode cX8_ofLine 26 = .ok (.invokevirtual 168, 3) := by decide +kernel
theorem dX8_ofLine_29 : decode cX8_ofLine 29 = .ok (.aload_n 0, 1) := by decide +kernel
theorem dX8_ofLine_30 : decode cX8_ofLine 30 = .ok (.invokevirtual 171, 3) := by decide +kernel
theorem dX8_ofLine_33 : decode cX8_ofLine 33 = .ok (.iconst 0, 1) := by decide +kernel
theorem dX8_ofLine_34 : decode cX8_ofLine 34 = .ok (.istore_n 3, 1) := by decide +kernel
theorem dX8_ofLine_35 : decode cX8_ofLine 35 = .ok (.iconst 0, 1) := by decide +kernel
theorem dX8_ofLine_36 : decode cX8_ofLine 36 = .ok (.istore 4, 2) := by decide +kernel
theorem dX8_ofLine_38 : decode cX8_ofLine 38 = .ok (.iload 4, 2) := by decide +kernel
theorem dX8_ofLine_40 : decode cX8_ofLine 40 = .ok (.iload_n 2, 1) := by decide +kernel
theorem dX8_ofLine_41 : decode cX8_ofLine 41 = .ok (.bipush 6, 2) := by decide +kernel
theorem dX8_ofLine_43 : decode cX8_ofLine 43 = .ok (.if_icmp .ne 8, 3) := by decide +kernel
theorem dX8_ofLine_46 : decode cX8_ofLine 46 = .ok (.bipush 64, 2) := by decide +kernel
theorem dX8_ofLine_48 : decode cX8_ofLine 48 = .ok (.goto 6, 3) := by decide +kernel
theorem dX8_ofLine_51 : decode cX8_ofLine 51 = .ok (.sipush 128, 3) := by decide +kernel
theorem dX8_ofLine_54 : decode cX8_ofLine 54 = .ok (.if_icmp .ge 44, 3) := by decide +kernel
theorem dX8_ofLine_57 : decode cX8_ofLine 57 = .ok (.iload_n 3, 1) := by decide +kernel
theorem dX8_ofLine_58 : decode cX8_ofLine 58 = .ok (.iload_n 2, 1) := by decide +kernel
theorem dX8_ofLine_59 : decode cX8_ofLine 59 = .ok (.bipush 6, 2) := by decide +kernel
theorem dX8_ofLine_61 : decode cX8_ofLine 61 = .ok (.if_icmp .ne 13, 3) := by decide +kernel
theorem dX8_ofLine_64 : decode cX8_ofLine 64 = .ok (.aload_n 0, 1) := by decide +kernel
theorem dX8_ofLine_65 : decode cX8_ofLine 65 = .ok (.getfield 28, 3) := by decide +kernel
theorem dX8_ofLine_68 : decode cX8_ofLine 68 = .ok (.iload 4, 2) := by decide +kernel
theorem dX8_ofLine_70 : decode cX8_ofLine 70 = .ok (.iaload, 1) := by decide +kernel
theorem dX8_ofLine_71 : decode cX8_ofLine 71 = .ok (.goto 10, 3) := by decide +kernel
theorem dX8_ofLine_74 : decode cX8_ofLine 74 = .ok (.aload_n 0, 1) := by decide +kernel
theorem dX8_ofLine_75 : decode cX8_ofLine 75 = .ok (.getfield 22, 3) := by decide +kernel
theorem dX8_ofLine_78 : decode cX8_ofLine 78 = .ok (.iload 4, 2) := by decide +kernel
theorem dX8_ofLine_80 : decode cX8_ofLine 80 = .ok (.iaload, 1) := by decide +kernel
theorem dX8_ofLine_81 : decode cX8_ofLine 81 = .ok (.iload_n 1, 1) := by decide +kernel
theorem dX8_ofLine_82 : decode cX8_ofLine 82 = .ok (.if_icmp .ne 7, 3) := by decide +kernel
theorem dX8_ofLine_85 : decode cX8_ofLine 85 = .ok (.iconst 1, 1) := by decide +kernel
theorem dX8_ofLine_86 : decode cX8_ofLine 86 = .ok (.goto 4, 3) := by decide +kernel
theorem dX8_ofLine_89 : decode cX8_ofLine 89 = .ok (.iconst 0, 1) := by decide +kernel
theorem dX8_ofLine_90 : decode cX8_ofLine 90 = .ok (.iadd, 1) := by decide +kernel
theorem dX8_ofLine_91 : decode cX8_ofLine 91 = .ok (.istore_n 3, 1) := by decide +kernel
theorem dX8_ofLine_92 : decode cX8_ofLine 92 = .ok (.iinc 4 1, 3) := by decide +kernel
theorem dX8_ofLine_95 : decode cX8_ofLine 95 = .ok (.goto (-57), 3) := by decide +kernel
theorem dX8_ofLine_98 : decode cX8_ofLine 98 = .ok (.iload_n 3, 1) := by decide +kernel
theorem dX8_ofLine_99 : decode cX8_ofLine 99 = .ok (.ireturn, 1) := by decide +kernel
theorem dX8_line_0 : decode cX8_line 0 = .ok (.aload_n 0, 1) := by decide +kernel
theorem dX8_line_1 : decode cX8_line 1 = .ok (.iconst 0, 1) := by decide +kernel
theorem dX8_line_2 : decode cX8_line 2 = .ok (.putfield 35, 3) := by decide +kernel
theorem dX8_line_5 : decode cX8_line 5 = .ok (.aload_n 0, 1) := by decide +kernel
theorem dX8_line_6 : decode cX8_line 6 = .ok (.iload_n 1, 1) := by decide +kernel
theorem dX8_line_7 : decode cX8_line 7 = .ok (.invokevirtual 78, 3) := by decide +kernel
theorem dX8_line_10 : decode cX8_line 10 = .ok (.ifCond .ne 9, 3) := by decide +kernel
theorem dX8_line_13 : decode cX8_line 13 = .ok (.aload_n 0, 1) := by decide +kernel
theorem dX8_line_14 : decode cX8_line 14 = .ok (.iconst 1, 1) := by decide +kernel
theorem dX8_line_15 : decode cX8_line 15 = .ok (.invokevirtual 46, 3) := by decide +kernel
theorem dX8_line_18 : decode cX8_line 18 = .ok (.ireturn, 1) := by decide +kernel
theorem dX8_line_19 : decode cX8_line 19 = .ok (.iload_n 2, 1) := by decide +kernel
theorem dX8_line_20 : decode cX8_line 20 = .ok (.iconst 0, 1) := by decide +kernel
theorem dX8_line_21 : decode cX8_line 21 = .ok (.bipush 8, 2) := by decide +kernel
theorem dX8_line_23 : decode cX8_line 23 = .ok (.invokestatic 39, 3) := by decide +kernel
theorem dX8_line_26 : decode cX8_line 26 = .ok (.ifCond .eq 12, 3) := by decide +kernel
theorem dX8_line_29 : decode cX8_line 29 = .ok (.aload_n 0, 1) := by decide +kernel
theorem dX8_line_30 : decode cX8_line 30 = .ok (.iload_n 1, 1) := by decide +kernel
theorem dX8_line_31 : decode cX8_line 31 = .ok (.iload_n 2, 1) := by decide +kernel
theorem dX8_line_32 : decode cX8_line 32 = .ok (.invokevirtual 174, 3) := by decide +kernel
theorem dX8_line_35 : decode cX8_line 35 = .ok (.goto 8, 3) := by decide +kernel
theorem dX8_line_38 : decode cX8_line 38 = .ok (.aload_n 0, 1) := by decide +kernel
theorem dX8_line_39 : decode cX8_line 39 = .ok (.iconst 2, 1) := by decide +kernel
theorem dX8_line_40 : decode cX8_line 40 = .ok (.invokevirtual 46, 3) := by decide +kernel
theorem dX8_line_43 : decode cX8_line 43 = .ok (.ireturn, 1) := by decide +kernel
theorem dX8_lowest_0 : decode cX8_lowest 0 = .ok (.aload_n 0, 1) := by decide +kernel
theorem dX8_lowest_1 : decode cX8_lowest 1 = .ok (.iconst 0, 1) := by decide +kernel
theorem dX8_lowest_2 : decode cX8_lowest 2 = .ok (.putfield 35, 3) := by decide +kernel
theorem dX8_lowest_5 : decode cX8_lowest 5 = .ok (.iload_n 1, 1) := by decide +kernel
theorem dX8_lowest_6 : decode cX8_lowest 6 = .ok (.invokestatic 81, 3) := by decide +kernel
theorem dX8_lowest_9 : decode cX8_lowest 9 = .ok (.ifCond .eq 20, 3) := by decide +kernel
theorem dX8_lowest_12 : decode cX8_lowest 12 = .ok (.iload_n 2, 1) := by decide +kernel
theorem dX8_lowest_13 : decode cX8_lowest 13 = .ok (.invokestatic 88, 3) := by decide +kernel
theorem dX8_lowest_16 : decode cX8_lowest 16 = .ok (.ifCond .eq 13, 3) := by decide +kernel
theorem dX8_lowest_19 : decode cX8_lowest 19 = .ok (.aload_n 0, 1) := by decide +kernel
theorem dX8_lowest_20 : decode cX8_lowest 20 = .ok (.iload_n 1, 1) := by decide +kernel
theorem dX8_lowest_21 : decode cX8_lowest 21 = .ok (.iload_n 2, 1) := by decide +kernel
theorem dX8_lowest_22 : decode cX8_lowest 22 = .ok (.iconst (-1), 1) := by decide +kernel
theorem dX8_lowest_23 : decode cX8_lowest 23 = .ok (.invokevirtual 60, 3) := by decide +kernel
theorem dX8_lowest_26 : decode cX8_lowest 26 = .ok (.goto 8, 3) := by decide +kernel
theorem dX8_lowest_29 : decode cX8_lowest 29 = .ok (.aload_n 0, 1) := by decide +kernel
theorem dX8_lowest_30 : decode cX8_lowest 30 = .ok (.iconst 1, 1) := by decide +kernel
theorem dX8_lowest_31 : decode cX8_lowest 31 = .ok (.invokevirtual 46, 3) := by decide +kernel
theorem dX8_lowest_34 : decode cX8_lowest 34 = .ok (.ireturn, 1) := by decide +kernel
theorem dX8_value_0 : decode cX8_value 0 = .ok (.aload_n 0, 1) := by decide +kernel
theorem dX8_value_1 : decode cX8_value 1 = .ok (.iconst 0, 1) := by decide +kernel
theorem dX8_value_2 : decode cX8_value 2 = .ok (.putfield 35, 3) := by decide +kernel
theorem dX8_value_5 : decode cX8_value 5 = .ok (.iload_n 1, 1) := by decide +kernel
theorem dX8_value_6 : decode cX8_value 6 = .ok (.invokestatic 81, 3) := by decide +kernel
theorem dX8_value_9 : decode cX8_value 9 = .ok (.ifCond .ne 9, 3) := by decide +kernel
theorem dX8_value_12 : decode cX8_value 12 = .ok (.aload_n 0, 1) := by decide +kernel
theorem dX8_value_13 : decode cX8_value 13 = .ok (.iconst 1, 1) := by decide +kernel
theorem dX8_value_14 : decode cX8_value 14 = .ok (.invokevirtual 46, 3) := by decide +kernel
theorem dX8_value_17 : decode cX8_value 17 = .ok (.ireturn, 1) := by decide +kernel
theorem dX8_value_18 : decode cX8_value 18 = .ok (.aload_n 0, 1) := by decide +kernel
theorem dX8_value_19 : decode cX8_value 19 = .ok (.iload_n 1, 1) := by decide +kernel
theorem dX8_value_20 : decode cX8_value 20 = .ok (.aload_n 0, 1) := by decide +kernel
theorem dX8_value_21 : decode cX8_value 21 = .ok (.getfield 7, 3) := by decide +kernel
theorem dX8_value_24 : decode cX8_value 24 = .ok (.iconst 0, 1) := by decide +kernel
theorem dX8_value_25 : decode cX8_value 25 = .ok (.iaload, 1) := by decide +kernel
theorem dX8_value_26 : decode cX8_value 26 = .ok (.iconst (-1), 1) := by decide +kernel
theorem dX8_value_27 : decode cX8_value 27 = .ok (.invokevirtual 60, 3) := by decide +kernel
theorem dX8_value_30 : decode cX8_value 30 = .ok (.istore_n 2, 1) := by decide +kernel
theorem dX8_value_31 : decode cX8_value 31 = .ok (.iload_n 2, 1) := by decide +kernel
theorem dX8_value_32 : decode cX8_value 32 = .ok (.iconst (-1), 1) := by decide +kernel
theorem dX8_value_33 : decode cX8_value 33 = .ok (.if_icmp .ne 11, 3) := by decide +kernel
theorem dX8_value_36 : decode cX8_value 36 = .ok (.aload_n 0, 1) := by decide +kernel
theorem dX8_value_37 : decode cX8_value 37 = .ok (.iconst 2, 1) := by decide +kernel
theorem dX8_value_38 : decode cX8_value 38 = .ok (.invokevirtual 46, 3) := by decide +kernel
theorem dX8_value_41 : decode cX8_value 41 = .ok (.goto 9, 3) := by decide +kernel
theorem dX8_value_44 : decode cX8_value 44 = .ok (.aload_n 0, 1) := by decide +kernel
theorem dX8_value_45 : decode cX8_value 45 = .ok (.iload_n 2, 1) := by decide +kernel
theorem dX8_value_46 : decode cX8_value 46 = .ok (.iload_n 1, 1) := by decide +kernel
theorem dX8_value_47 : decode cX8_value 47 = .ok (.invokevirtual 54, 3) := by decide +kernel
theorem dX8_value_50 : decode cX8_value 50 = .ok (.ireturn, 1) := by decide +kernel
theorem dX8_rankedAt_0 : decode cX8_rankedAt 0 = .ok (.iconst 0, 1) := by decide +kernel
theorem dX8_rankedAt_1 : decode cX8_rankedAt 1 = .ok (.istore_n 3, 1) := by decide +kernel
theorem dX8_rankedAt_2 : decode cX8_rankedAt 2 = .ok (.iload_n 3, 1) := by decide +kernel
theorem dX8_rankedAt_3 : decode cX8_rankedAt 3 = .ok (.aload_n 0, 1) := by decide +kernel
theorem dX8_rankedAt_4 : decode cX8_rankedAt 4 = .ok (.getfield 7, 3) := by decide +kernel
theorem dX8_rankedAt_7 : decode cX8_rankedAt 7 = .ok (.iconst 1, 1) := by decide +kernel
theorem dX8_rankedAt_8 : decode cX8_rankedAt 8 = .ok (.iaload, 1) := by decide +kernel
theorem dX8_rankedAt_9 : decode cX8_rankedAt 9 = .ok (.if_icmp .ge 98, 3) := by decide +kernel
theorem dX8_rankedAt_12 : decode cX8_rankedAt 12 = .ok (.iconst 0, 1) := by decide +kernel
theorem dX8_rankedAt_13 : decode cX8_rankedAt 13 = .ok (.istore 4, 2) := by decide +kernel
theorem dX8_rankedAt_15 : decode cX8_rankedAt 15 = .ok (.iconst 0, 1) := by decide +kernel
theorem dX8_rankedAt_16 : decode cX8_rankedAt 16 = .ok (.istore 5, 2) := by decide +kernel
theorem dX8_rankedAt_18 : decode cX8_rankedAt 18 = .ok (.iload 5, 2) := by decide +kernel
theorem dX8_rankedAt_20 : decode cX8_rankedAt 20 = .ok (.aload_n 0, 1) := by decide +kernel
theorem dX8_rankedAt_21 : decode cX8_rankedAt 21 = .ok (.getfield 7, 3) := by decide +kernel
theorem dX8_rankedAt_24 : decode cX8_rankedAt 24 = .ok (.iconst 1, 1) := by decide +kernel
theorem dX8_rankedAt_25 : decode cX8_rankedAt 25 = .ok (.iaload, 1) := by decide +kernel
theorem dX8_rankedAt_26 : decode cX8_rankedAt 26 = .ok (.if_icmp .ge 52, 3) := by decide +kernel
theorem dX8_rankedAt_29 : decode cX8_rankedAt 29 = .ok (.iload 4, 2) := by decide +kernel
theorem dX8_rankedAt_31 : decode cX8_rankedAt 31 = .ok (.iload 5, 2) := by decide +kernel
theorem dX8_rankedAt_33 : decode cX8_rankedAt 33 = .ok (.iload_n 3, 1) := by decide +kernel
theorem dX8_rankedAt_34 : decode cX8_rankedAt 34 = .ok (.if_icmp .eq 34, 3) := by decide +kernel
theorem dX8_rankedAt_37 : decode cX8_rankedAt 37 = .ok (.aload_n 0, 1) := by decide +kernel
theorem dX8_rankedAt_38 : decode cX8_rankedAt 38 = .ok (.iload 5, 2) := by decide +kernel
theorem dX8_rankedAt_40 : decode cX8_rankedAt 40 = .ok (.iload_n 1, 1) := by decide +kernel
theorem dX8_rankedAt_41 : decode cX8_rankedAt 41 = .ok (.aload_n 0, 1) := by decide +kernel
theorem dX8_rankedAt_42 : decode cX8_rankedAt 42 = .ok (.getfield 7, 3) := by decide +kernel
theorem dX8_rankedAt_45 : decode cX8_rankedAt 45 = .ok (.iconst 0, 1) := by decide +kernel
theorem dX8_rankedAt_46 : decode cX8_rankedAt 46 = .ok (.iaload, 1) := by decide +kernel
theorem dX8_rankedAt_47 : decode cX8_rankedAt 47 = .ok (.invokevirtual 57, 3) := by decide +kernel
theorem dX8_rankedAt_50 : decode cX8_rankedAt 50 = .ok (.ifCond .eq 18, 3) := by decide +kernel
theorem dX8_rankedAt_53 : decode cX8_rankedAt 53 = .ok (.aload_n 0, 1) := by decide +kernel
theorem dX8_rankedAt_54 : decode cX8_rankedAt 54 = .ok (.iload 5, 2) := by decide +kernel
theorem dX8_rankedAt_56 : decode cX8_rankedAt 56 = .ok (.iload_n 3, 1) := by decide +kernel
theorem dX8_rankedAt_57 : decode cX8_rankedAt 57 = .ok (.iload_n 1, 1) := by decide +kernel
theorem dX8_rankedAt_58 : decode cX8_rankedAt 58 = .ok (.invokevirtual 111, 3) := by decide +kernel
theorem dX8_rankedAt_61 : decode cX8_rankedAt 61 = .ok (.ifCond .eq 7, 3) := by decide +kernel
theorem dX8_rankedAt_64 : decode cX8_rankedAt 64 = .ok (.iconst 1, 1) := by decide +kernel
theorem dX8_rankedAt_65 : decode cX8_rankedAt 65 = .ok (.goto 4, 3) := by decide +kernel
theorem dX8_rankedAt_68 : decode cX8_rankedAt 68 = .ok (.iconst 0, 1) := by decide +kernel
theorem dX8_rankedAt_69 : decode cX8_rankedAt 69 = .ok (.iadd, 1) := by decide +kernel
theorem dX8_rankedAt_70 : decode cX8_rankedAt 70 = .ok (.istore 4, 2) := by decide +kernel
theorem dX8_rankedAt_72 : decode cX8_rankedAt 72 = .ok (.iinc 5 1, 3) := by decide +kernel
theorem dX8_rankedAt_75 : decode cX8_rankedAt 75 = .ok (.goto (-57), 3) := by decide +kernel
theorem dX8_rankedAt_78 : decode cX8_rankedAt 78 = .ok (.aload_n 0, 1) := by decide +kernel
theorem dX8_rankedAt_79 : decode cX8_rankedAt 79 = .ok (.iload_n 3, 1) := by decide +kernel
theorem dX8_rankedAt_80 : decode cX8_rankedAt 80 = .ok (.iload_n 1, 1) := by decide +kernel
theorem dX8_rankedAt_81 : decode cX8_rankedAt 81 = .ok (.aload_n 0, 1) := by decide +kernel
theorem dX8_rankedAt_82 : decode cX8_rankedAt 82 = .ok (.getfield 7, 3) := by decide +kernel
theorem dX8_rankedAt_85 : decode cX8_rankedAt 85 = .ok (.iconst 0, 1) := by decide +kernel
theorem dX8_rankedAt_86 : decode cX8_rankedAt 86 = .ok (.iaload, 1) := by decide +kernel
theorem dX8_rankedAt_87 : decode cX8_rankedAt 87 = .ok (.invokevirtual 57, 3) := by decide +kernel
theorem dX8_rankedAt_90 : decode cX8_rankedAt 90 = .ok (.ifCond .eq 11, 3) := by decide +kernel
theorem dX8_rankedAt_93 : decode cX8_rankedAt 93 = .ok (.iload 4, 2) := by decide +kernel
theorem dX8_rankedAt_95 : decode cX8_rankedAt 95 = .ok (.iload_n 2, 1) := by decide +kernel
theorem dX8_rankedAt_96 : decode cX8_rankedAt 96 = .ok (.if_icmp .ne 5, 3) := by decide +kernel
theorem dX8_rankedAt_99 : decode cX8_rankedAt 99 = .ok (.iload_n 3, 1) := by decide +kernel
theorem dX8_rankedAt_100 : decode cX8_rankedAt 100 = .ok (.ireturn, 1) := by decide +kernel
theorem dX8_rankedAt_101 : decode cX8_rankedAt 101 = .ok (.iinc 3 1, 3) := by decide +kernel
theorem dX8_rankedAt_104 : decode cX8_rankedAt 104 = .ok (.goto (-102), 3) := by decide +kernel
theorem dX8_rankedAt_107 : decode cX8_rankedAt 107 = .ok (.iconst (-1), 1) := by decide +kernel
theorem dX8_rankedAt_108 : decode cX8_rankedAt 108 = .ok (.ireturn, 1) := by decide +kernel
theorem dX8_ranked_0 : decode cX8_ranked 0 = .ok (.aload_n 0, 1) := by decide +kernel
theorem dX8_ranked_1 : decode cX8_ranked 1 = .ok (.iconst 0, 1) := by decide +kernel
theorem dX8_ranked_2 : decode cX8_ranked 2 = .ok (.putfield 35, 3) := by decide +kernel
theorem dX8_ranked_5 : decode cX8_ranked 5 = .ok (.iload_n 1, 1) := by decide +kernel
theorem dX8_ranked_6 : decode cX8_ranked 6 = .ok (.invokestatic 81, 3) := by decide +kernel
theorem dX8_ranked_9 : decode cX8_ranked 9 = .ok (.ifCond .eq 16, 3) := by decide +kernel
theorem dX8_ranked_12 : decode cX8_ranked 12 = .ok (.iload_n 2, 1) := by decide +kernel
theorem dX8_ranked_13 : decode cX8_ranked 13 = .ok (.ifCond .lt 12, 3) := by decide +kernel
theorem dX8_ranked_16 : decode cX8_ranked 16 = .ok (.aload_n 0, 1) := by decide +kernel
theorem dX8_ranked_17 : decode cX8_ranked 17 = .ok (.iload_n 1, 1) := by decide +kernel
theorem dX8_ranked_18 : decode cX8_ranked 18 = .ok (.iload_n 2, 1) := by decide +kernel
theorem dX8_ranked_19 : decode cX8_ranked 19 = .ok (.invokevirtual 177, 3) := by decide +kernel
theorem dX8_ranked_22 : decode cX8_ranked 22 = .ok (.goto 8, 3) := by decide +kernel
theorem dX8_ranked_25 : decode cX8_ranked 25 = .ok (.aload_n 0, 1) := by decide +kernel
theorem dX8_ranked_26 : decode cX8_ranked 26 = .ok (.iconst 1, 1) := by decide +kernel
theorem dX8_ranked_27 : decode cX8_ranked 27 = .ok (.invokevirtual 46, 3) := by decide +kernel
theorem dX8_ranked_30 : decode cX8_ranked 30 = .ok (.ireturn, 1) := by decide +kernel
theorem dX8_ofNode_0 : decode cX8_ofNode 0 = .ok (.iload_n 2, 1) := by decide +kernel
theorem dX8_ofNode_1 : decode cX8_ofNode 1 = .ok (.ifCond .eq 8, 3) := by decide +kernel
theorem dX8_ofNode_4 : decode cX8_ofNode 4 = .ok (.iload_n 2, 1) := by decide +kernel
theorem dX8_ofNode_5 : decode cX8_ofNode 5 = .ok (.iconst 4, 1) := by decide +kernel
theorem dX8_ofNode_6 : decode cX8_ofNode 6 = .ok (.if_icmp .ne 27, 3) := by decide +kernel
theorem dX8_ofNode_9 : decode cX8_ofNode 9 = .ok (.aload_n 0, 1) := by decide +kernel
theorem dX8_ofNode_10 : decode cX8_ofNode 10 = .ok (.invokevirtual 171, 3) := by decide +kernel
theorem dX8_ofNode_13 : decode cX8_ofNode 13 = .ok (.iload_n 2, 1) := by decide +kernel
theorem dX8_ofNode_14 : decode cX8_ofNode 14 = .ok (.ifCond .ne 12, 3) := by decide +kernel
theorem dX8_ofNode_17 : decode cX8_ofNode 17 = .ok (.aload_n 0, 1) := by decide +kernel
theorem dX8_ofNode_18 : decode cX8_ofNode 18 = .ok (.getfield 22, 3) := by decide +kernel
theorem dX8_ofNode_21 : decode cX8_ofNode 21 = .ok (.iload_n 1, 1) := by decide +kernel
theorem dX8_ofNode_22 : decode cX8_ofNode 22 = .ok (.iaload, 1) := by decide +kernel
theorem dX8_ofNode_23 : decode cX8_ofNode 23 = .ok (.goto 9, 3) := by decide +kernel
theorem dX8_ofNode_26 : decode cX8_ofNode 26 = .ok (.aload_n 0, 1) := by decide +kernel
theorem dX8_ofNode_27 : decode cX8_ofNode 27 = .ok (.getfield 25, 3) := by decide +kernel
theorem dX8_ofNode_30 : decode cX8_ofNode 30 = .ok (.iload_n 1, 1) := by decide +kernel
theorem dX8_ofNode_31 : decode cX8_ofNode 31 = .ok (.iaload, 1) := by decide +kernel
theorem dX8_ofNode_32 : decode cX8_ofNode 32 = .ok (.ireturn, 1) := by decide +kernel
theorem dX8_ofNode_33 : decode cX8_ofNode 33 = .ok (.iload_n 2, 1) := by decide +kernel
theorem dX8_ofNode_34 : decode cX8_ofNode 34 = .ok (.iconst 1, 1) := by decide +kernel
theorem dX8_ofNode_35 : decode cX8_ofNode 35 = .ok (.if_icmp .ne 10, 3) := by decide +kernel
theorem dX8_ofNode_38 : decode cX8_ofNode 38 = .ok (.iload_n 1, 1) := by decide +kernel
theorem dX8_ofNode_39 : decode cX8_ofNode 39 = .ok (.invokestatic 99, 3) := by decide +kernel
theorem dX8_ofNode_42 : decode cX8_ofNode 42 = .ok (.goto 19, 3) := by decide +kernel
theorem dX8_ofNode_45 : decode cX8_ofNode 45 = .ok (.iload_n 2, 1) := by decide +kernel
theorem dX8_ofNode_46 : decode cX8_ofNode 46 = .ok (.iconst 2, 1) := by decide +kernel
theorem dX8_ofNode_47 : decode cX8_ofNode 47 = .ok (.if_icmp .ne 10, 3) := by decide +kernel
theorem dX8_ofNode_50 : decode cX8_ofNode 50 = .ok (.iload_n 1, 1) := by decide +kernel
theorem dX8_ofNode_51 : decode cX8_ofNode 51 = .ok (.invokestatic 105, 3) := by decide +kernel
theorem dX8_ofNode_54 : decode cX8_ofNode 54 = .ok (.goto 7, 3) := by decide +kernel
theorem dX8_ofNode_57 : decode cX8_ofNode 57 = .ok (.iload_n 1, 1) := by decide +kernel
theorem dX8_ofNode_58 : decode cX8_ofNode 58 = .ok (.invokestatic 108, 3) := by decide +kernel
theorem dX8_ofNode_61 : decode cX8_ofNode 61 = .ok (.ireturn, 1) := by decide +kernel
theorem dX8_node_0 : decode cX8_node 0 = .ok (.aload_n 0, 1) := by decide +kernel
theorem dX8_node_1 : decode cX8_node 1 = .ok (.iconst 0, 1) := by decide +kernel
theorem dX8_node_2 : decode cX8_node 2 = .ok (.putfield 35, 3) := by decide +kernel
theorem dX8_node_5 : decode cX8_node 5 = .ok (.iload_n 1, 1) := by decide +kernel
theorem dX8_node_6 : decode cX8_node 6 = .ok (.iconst 1, 1) := by decide +kernel
theorem dX8_node_7 : decode cX8_node 7 = .ok (.bipush 127, 2) := by decide +kernel
theorem dX8_node_9 : decode cX8_node 9 = .ok (.invokestatic 39, 3) := by decide +kernel
theorem dX8_node_12 : decode cX8_node 12 = .ok (.ifCond .ne 9, 3) := by decide +kernel
theorem dX8_node_15 : decode cX8_node 15 = .ok (.aload_n 0, 1) := by decide +kernel
theorem dX8_node_16 : decode cX8_node 16 = .ok (.iconst 1, 1) := by decide +kernel
theorem dX8_node_17 : decode cX8_node 17 = .ok (.invokevirtual 46, 3) := by decide +kernel
theorem dX8_node_20 : decode cX8_node 20 = .ok (.ireturn, 1) := by decide +kernel
theorem dX8_node_21 : decode cX8_node 21 = .ok (.iload_n 2, 1) := by decide +kernel
theorem dX8_node_22 : decode cX8_node 22 = .ok (.iconst 0, 1) := by decide +kernel
theorem dX8_node_23 : decode cX8_node 23 = .ok (.iconst 4, 1) := by decide +kernel
theorem dX8_node_24 : decode cX8_node 24 = .ok (.invokestatic 39, 3) := by decide +kernel
theorem dX8_node_27 : decode cX8_node 27 = .ok (.ifCond .eq 12, 3) := by decide +kernel
theorem dX8_node_30 : decode cX8_node 30 = .ok (.aload_n 0, 1) := by decide +kernel
theorem dX8_node_31 : decode cX8_node 31 = .ok (.iload_n 1, 1) := by decide +kernel
theorem dX8_node_32 : decode cX8_node 32 = .ok (.iload_n 2, 1) := by decide +kernel
theorem dX8_node_33 : decode cX8_node 33 = .ok (.invokevirtual 180, 3) := by decide +kernel
theorem dX8_node_36 : decode cX8_node 36 = .ok (.goto 8, 3) := by decide +kernel
theorem dX8_node_39 : decode cX8_node 39 = .ok (.aload_n 0, 1) := by decide +kernel
theorem dX8_node_40 : decode cX8_node 40 = .ok (.iconst 2, 1) := by decide +kernel
theorem dX8_node_41 : decode cX8_node 41 = .ok (.invokevirtual 46, 3) := by decide +kernel
theorem dX8_node_44 : decode cX8_node 44 = .ok (.ireturn, 1) := by decide +kernel
theorem dX8_ofRow_0 : decode cX8_ofRow 0 = .ok (.aload_n 0, 1) := by decide +kernel
theorem dX8_ofRow_1 : decode cX8_ofRow 1 = .ok (.invokevirtual 168, 3) := by decide +kernel
theorem dX8_ofRow_4 : decode cX8_ofRow 4 = .ok (.iconst (-1), 1) := by decide +kernel
theorem dX8_ofRow_5 : decode cX8_ofRow 5 = .ok (.istore_n 3, 1) := by decide +kernel
theorem dX8_ofRow_6 : decode cX8_ofRow 6 = .ok (.iconst 0, 1) := by decide +kernel
theorem dX8_ofRow_7 : decode cX8_ofRow 7 = .ok (.istore 4, 2) := by decide +kernel
theorem dX8_ofRow_9 : decode cX8_ofRow 9 = .ok (.iconst (-1), 1) := by decide +kernel
theorem dX8_ofRow_10 : decode cX8_ofRow 10 = .ok (.istore 5, 2) := by decide +kernel
theorem dX8_ofRow_12 : decode cX8_ofRow 12 = .ok (.iconst 0, 1) := by decide +kernel
theorem dX8_ofRow_13 : decode cX8_ofRow 13 = .ok (.istore 6, 2) := by decide +kernel
theorem dX8_ofRow_15 : decode cX8_ofRow 15 = .ok (.iload 6, 2) := by decide +kernel
theorem dX8_ofRow_17 : decode cX8_ofRow 17 = .ok (.bipush 64, 2) := by decide +kernel
theorem dX8_ofRow_19 : decode cX8_ofRow 19 = .ok (.if_icmp .gt 120, 3) := by decide +kernel
theorem dX8_ofRow_22 : decode cX8_ofRow 22 = .ok (.iload 6, 2) := by decide +kernel
theorem dX8_ofRow_24 : decode cX8_ofRow 24 = .ok (.bipush 64, 2) := by decide +kernel
theorem dX8_ofRow_26 : decode cX8_ofRow 26 = .ok (.if_icmp .eq 27, 3) := by decide +kernel
theorem dX8_ofRow_29 : decode cX8_ofRow 29 = .ok (.iload 6, 2) := by decide +kernel
theorem dX8_ofRow_31 : decode cX8_ofRow 31 = .ok (.ifCond .eq 22, 3) := by decide +kernel
theorem dX8_ofRow_34 : decode cX8_ofRow 34 = .ok (.aload_n 0, 1) := by decide +kernel
theorem dX8_ofRow_35 : decode cX8_ofRow 35 = .ok (.getfield 28, 3) := by decide +kernel
theorem dX8_ofRow_38 : decode cX8_ofRow 38 = .ok (.iload 6, 2) := by decide +kernel
theorem dX8_ofRow_40 : decode cX8_ofRow 40 = .ok (.iaload, 1) := by decide +kernel
theorem dX8_ofRow_41 : decode cX8_ofRow 41 = .ok (.aload_n 0, 1) := by decide +kernel
theorem dX8_ofRow_42 : decode cX8_ofRow 42 = .ok (.getfield 28, 3) := by decide +kernel
theorem dX8_ofRow_45 : decode cX8_ofRow 45 = .ok (.iload 6, 2) := by decide +kernel
theorem dX8_ofRow_47 : decode cX8_ofRow 47 = .ok (.iconst 1, 1) := by decide +kernel
theorem dX8_ofRow_48 : decode cX8_ofRow 48 = .ok (.isub, 1) := by decide +kernel
theorem dX8_ofRow_49 : decode cX8_ofRow 49 = .ok (.iaload, 1) := by decide +kernel
theorem dX8_ofRow_50 : decode cX8_ofRow 50 = .ok (.if_icmp .eq 7, 3) := by decide +kernel
theorem dX8_ofRow_53 : decode cX8_ofRow 53 = .ok (.iconst 1, 1) := by decide +kernel
theorem dX8_ofRow_54 : decode cX8_ofRow 54 = .ok (.goto 4, 3) := by decide +kernel
theorem dX8_ofRow_57 : decode cX8_ofRow 57 = .ok (.iconst 0, 1) := by decide +kernel
theorem dX8_ofRow_58 : decode cX8_ofRow 58 = .ok (.istore 7, 2) := by decide +kernel
theorem dX8_ofRow_60 : decode cX8_ofRow 60 = .ok (.iload 7, 2) := by decide +kernel
theorem dX8_ofRow_62 : decode cX8_ofRow 62 = .ok (.ifCond .eq 44, 3) := by decide +kernel
theorem dX8_ofRow_65 : decode cX8_ofRow 65 = .ok (.iload_n 3, 1) := by decide +kernel
theorem dX8_ofRow_66 : decode cX8_ofRow 66 = .ok (.iload_n 1, 1) := by decide +kernel
theorem dX8_ofRow_67 : decode cX8_ofRow 67 = .ok (.if_icmp .ne 39, 3) := by decide +kernel
theorem dX8_ofRow_70 : decode cX8_ofRow 70 = .ok (.iload_n 2, 1) := by decide +kernel
theorem dX8_ofRow_71 : decode cX8_ofRow 71 = .ok (.iconst 3, 1) := by decide +kernel
theorem dX8_ofRow_72 : decode cX8_ofRow 72 = .ok (.if_icmp .ge 34, 3) := by decide +kernel
theorem dX8_ofRow_75 : decode cX8_ofRow 75 = .ok (.iload_n 2, 1) := by decide +kernel
theorem dX8_ofRow_76 : decode cX8_ofRow 76 = .ok (.ifCond .ne 8, 3) := by decide +kernel
theorem dX8_ofRow_79 : decode cX8_ofRow 79 = .ok (.iload 4, 2) := by decide +kernel
theorem dX8_ofRow_81 : decode cX8_ofRow 81 = .ok (.goto 23, 3) := by decide +kernel
theorem dX8_ofRow_84 : decode cX8_ofRow 84 = .ok (.iload_n 2, 1) := by decide +kernel
theorem dX8_ofRow_85 : decode cX8_ofRow 85 = .ok (.iconst 1, 1) := by decide +kernel
theorem dX8_ofRow_86 : decode cX8_ofRow 86 = .ok (.if_icmp .ne 11, 3) := by decide +kernel
theorem dX8_ofRow_89 : decode cX8_ofRow 89 = .ok (.iload 6, 2) := by decide +kernel
theorem dX8_ofRow_91 : decode cX8_ofRow 91 = .ok (.iload 4, 2) := by decide +kernel
theorem dX8_ofRow_93 : decode cX8_ofRow 93 = .ok (.isub, 1) := by decide +kernel
theorem dX8_ofRow_94 : decode cX8_ofRow 94 = .ok (.goto 10, 3) := by decide +kernel
theorem dX8_ofRow_97 : decode cX8_ofRow 97 = .ok (.aload_n 0, 1) := by decide +kernel
theorem dX8_ofRow_98 : decode cX8_ofRow 98 = .ok (.getfield 28, 3) := by decide +kernel
theorem dX8_ofRow_101 : decode cX8_ofRow 101 = .ok (.iload 4, 2) := by decide +kernel
theorem dX8_ofRow_103 : decode cX8_ofRow 103 = .ok (.iaload, 1) := by decide +kernel
theorem dX8_ofRow_104 : decode cX8_ofRow 104 = .ok (.istore 5, 2) := by decide +kernel
theorem dX8_ofRow_106 : decode cX8_ofRow 106 = .ok (.iload_n 3, 1) := by decide +kernel
theorem dX8_ofRow_107 : decode cX8_ofRow 107 = .ok (.iload 7, 2) := by decide +kernel
theorem dX8_ofRow_109 : decode cX8_ofRow 109 = .ok (.ifCond .eq 7, 3) := by decide +kernel
theorem dX8_ofRow_112 : decode cX8_ofRow 112 = .ok (.iconst 1, 1) := by decide +kernel
theorem dX8_ofRow_113 : decode cX8_ofRow 113 = .ok (.goto 4, 3) := by decide +kernel
theorem dX8_ofRow_116 : decode cX8_ofRow 116 = .ok (.iconst 0, 1) := by decide +kernel
theorem dX8_ofRow_117 : decode cX8_ofRow 117 = .ok (.iadd, 1) := by decide +kernel
theorem dX8_ofRow_118 : decode cX8_ofRow 118 = .ok (.istore_n 3, 1) := by decide +kernel
theorem dX8_ofRow_119 : decode cX8_ofRow 119 = .ok (.iload 7, 2) := by decide +kernel
theorem dX8_ofRow_121 : decode cX8_ofRow 121 = .ok (.ifCond .eq 8, 3) := by decide +kernel
theorem dX8_ofRow_124 : decode cX8_ofRow 124 = .ok (.iload 6, 2) := by decide +kernel
theorem dX8_ofRow_126 : decode cX8_ofRow 126 = .ok (.goto 5, 3) := by decide +kernel
theorem dX8_ofRow_129 : decode cX8_ofRow 129 = .ok (.iload 4, 2) := by decide +kernel
theorem dX8_ofRow_131 : decode cX8_ofRow 131 = .ok (.istore 4, 2) := by decide +kernel
theorem dX8_ofRow_133 : decode cX8_ofRow 133 = .ok (.iinc 6 1, 3) := by decide +kernel
theorem dX8_ofRow_136 : decode cX8_ofRow 136 = .ok (.goto (-121), 3) := by decide +kernel
theorem dX8_ofRow_139 : decode cX8_ofRow 139 = .ok (.iload_n 2, 1) := by decide +kernel
theorem dX8_ofRow_140 : decode cX8_ofRow 140 = .ok (.iconst 3, 1) := by decide +kernel
theorem dX8_ofRow_141 : decode cX8_ofRow 141 = .ok (.if_icmp .ne 7, 3) := by decide +kernel
theorem dX8_ofRow_144 : decode cX8_ofRow 144 = .ok (.iload_n 3, 1) := by decide +kernel
theorem dX8_ofRow_145 : decode cX8_ofRow 145 = .ok (.goto 5, 3) := by decide +kernel
theorem dX8_ofRow_148 : decode cX8_ofRow 148 = .ok (.iload 5, 2) := by decide +kernel
theorem dX8_ofRow_150 : decode cX8_ofRow 150 = .ok (.ireturn, 1) := by decide +kernel
theorem dX8_row_0 : decode cX8_row 0 = .ok (.aload_n 0, 1) := by decide +kernel
theorem dX8_row_1 : decode cX8_row 1 = .ok (.iconst 0, 1) := by decide +kernel
theorem dX8_row_2 : decode cX8_row 2 = .ok (.putfield 35, 3) := by decide +kernel
theorem dX8_row_5 : decode cX8_row 5 = .ok (.iload_n 1, 1) := by decide +kernel
theorem dX8_row_6 : decode cX8_row 6 = .ok (.ifCond .lt 21, 3) := by decide +kernel
theorem dX8_row_9 : decode cX8_row 9 = .ok (.iload_n 2, 1) := by decide +kernel
theorem dX8_row_10 : decode cX8_row 10 = .ok (.iconst 0, 1) := by decide +kernel
theorem dX8_row_11 : decode cX8_row 11 = .ok (.iconst 2, 1) := by decide +kernel
theorem dX8_row_12 : decode cX8_row 12 = .ok (.invokestatic 39, 3) := by decide +kernel
theorem dX8_row_15 : decode cX8_row 15 = .ok (.ifCond .eq 12, 3) := by decide +kernel
theorem dX8_row_18 : decode cX8_row 18 = .ok (.aload_n 0, 1) := by decide +kernel
theorem dX8_row_19 : decode cX8_row 19 = .ok (.iload_n 1, 1) := by decide +kernel
theorem dX8_row_20 : decode cX8_row 20 = .ok (.iload_n 2, 1) := by decide +kernel
theorem dX8_row_21 : decode cX8_row 21 = .ok (.invokevirtual 183, 3) := by decide +kernel
theorem dX8_row_24 : decode cX8_row 24 = .ok (.goto 8, 3) := by decide +kernel
theorem dX8_row_27 : decode cX8_row 27 = .ok (.aload_n 0, 1) := by decide +kernel
theorem dX8_row_28 : decode cX8_row 28 = .ok (.iconst 1, 1) := by decide +kernel
theorem dX8_row_29 : decode cX8_row 29 = .ok (.invokevirtual 46, 3) := by decide +kernel
theorem dX8_row_32 : decode cX8_row 32 = .ok (.ireturn, 1) := by decide +kernel
theorem dX8_sumOf_0 : decode cX8_sumOf 0 = .ok (.aload_n 0, 1) := by decide +kernel
theorem dX8_sumOf_1 : decode cX8_sumOf 1 = .ok (.invokevirtual 168, 3) := by decide +kernel
theorem dX8_sumOf_4 : decode cX8_sumOf 4 = .ok (.iconst 0, 1) := by decide +kernel
theorem dX8_sumOf_5 : decode cX8_sumOf 5 = .ok (.istore_n 3, 1) := by decide +kernel
theorem dX8_sumOf_6 : decode cX8_sumOf 6 = .ok (.iload_n 1, 1) := by decide +kernel
theorem dX8_sumOf_7 : decode cX8_sumOf 7 = .ok (.istore 4, 2) := by decide +kernel
theorem dX8_sumOf_9 : decode cX8_sumOf 9 = .ok (.iload 4, 2) := by decide +kernel
theorem dX8_sumOf_11 : decode cX8_sumOf 11 = .ok (.iload_n 2, 1) := by decide +kernel
theorem dX8_sumOf_12 : decode cX8_sumOf 12 = .ok (.if_icmp .gt 40, 3) := by decide +kernel
theorem dX8_sumOf_15 : decode cX8_sumOf 15 = .ok (.iload_n 3, 1) := by decide +kernel
theorem dX8_sumOf_16 : decode cX8_sumOf 16 = .ok (.aload_n 0, 1) := by decide +kernel
theorem dX8_sumOf_17 : decode cX8_sumOf 17 = .ok (.getfield 28, 3) := by decide +kernel
theorem dX8_sumOf_20 : decode cX8_sumOf 20 = .ok (.iload 4, 2) := by decide +kernel
theorem dX8_sumOf_22 : decode cX8_sumOf 22 = .ok (.iaload, 1) := by decide +kernel
theorem dX8_sumOf_23 : decode cX8_sumOf 23 = .ok (.iconst (-1), 1) := by decide +kernel
theorem dX8_sumOf_24 : decode cX8_sumOf 24 = .ok (.if_icmp .ne 7, 3) := by decide +kernel
theorem dX8_sumOf_27 : decode cX8_sumOf 27 = .ok (.iconst 0, 1) := by decide +kernel
theorem dX8_sumOf_28 : decode cX8_sumOf 28 = .ok (.goto 16, 3) := by decide +kernel
theorem dX8_sumOf_31 : decode cX8_sumOf 31 = .ok (.aload_n 0, 1) := by decide +kernel
theorem dX8_sumOf_32 : decode cX8_sumOf 32 = .ok (.aload_n 0, 1) := by decide +kernel
theorem dX8_sumOf_33 : decode cX8_sumOf 33 = .ok (.getfield 28, 3) := by decide +kernel
theorem dX8_sumOf_36 : decode cX8_sumOf 36 = .ok (.iload 4, 2) := by decide +kernel
theorem dX8_sumOf_38 : decode cX8_sumOf 38 = .ok (.iaload, 1) := by decide +kernel
theorem dX8_sumOf_39 : decode cX8_sumOf 39 = .ok (.iload 4, 2) := by decide +kernel
theorem dX8_sumOf_41 : decode cX8_sumOf 41 = .ok (.invokevirtual 54, 3) := by decide +kernel
theorem dX8_sumOf_44 : decode cX8_sumOf 44 = .ok (.iadd, 1) := by decide +kernel
theorem dX8_sumOf_45 : decode cX8_sumOf 45 = .ok (.istore_n 3, 1) := by decide +kernel
theorem dX8_sumOf_46 : decode cX8_sumOf 46 = .ok (.iinc 4 1, 3) := by decide +kernel
theorem dX8_sumOf_49 : decode cX8_sumOf 49 = .ok (.goto (-40), 3) := by decide +kernel
theorem dX8_sumOf_52 : decode cX8_sumOf 52 = .ok (.iload_n 3, 1) := by decide +kernel
theorem dX8_sumOf_53 : decode cX8_sumOf 53 = .ok (.ireturn, 1) := by decide +kernel
theorem dX8_sum_0 : decode cX8_sum 0 = .ok (.aload_n 0, 1) := by decide +kernel
theorem dX8_sum_1 : decode cX8_sum 1 = .ok (.iconst 0, 1) := by decide +kernel
theorem dX8_sum_2 : decode cX8_sum 2 = .ok (.putfield 35, 3) := by decide +kernel
theorem dX8_sum_5 : decode cX8_sum 5 = .ok (.iload_n 1, 1) := by decide +kernel
theorem dX8_sum_6 : decode cX8_sum 6 = .ok (.invokestatic 81, 3) := by decide +kernel
theorem dX8_sum_9 : decode cX8_sum 9 = .ok (.ifCond .eq 24, 3) := by decide +kernel
theorem dX8_sum_12 : decode cX8_sum 12 = .ok (.iload_n 2, 1) := by decide +kernel
theorem dX8_sum_13 : decode cX8_sum 13 = .ok (.invokestatic 81, 3) := by decide +kernel
theorem dX8_sum_16 : decode cX8_sum 16 = .ok (.ifCond .eq 17, 3) := by decide +kernel
theorem dX8_sum_19 : decode cX8_sum 19 = .ok (.iload_n 1, 1) := by decide +kernel
theorem dX8_sum_20 : decode cX8_sum 20 = .ok (.iload_n 2, 1) := by decide +kernel
theorem dX8_sum_21 : decode cX8_sum 21 = .ok (.if_icmp .gt 12, 3) := by decide +kernel
theorem dX8_sum_24 : decode cX8_sum 24 = .ok (.aload_n 0, 1) := by decide +kernel
theorem dX8_sum_25 : decode cX8_sum 25 = .ok (.iload_n 1, 1) := by decide +kernel
theorem dX8_sum_26 : decode cX8_sum 26 = .ok (.iload_n 2, 1) := by decide +kernel
theorem dX8_sum_27 : decode cX8_sum 27 = .ok (.invokevirtual 186, 3) := by decide +kernel
theorem dX8_sum_30 : decode cX8_sum 30 = .ok (.goto 8, 3) := by decide +kernel
theorem dX8_sum_33 : decode cX8_sum 33 = .ok (.aload_n 0, 1) := by decide +kernel
theorem dX8_sum_34 : decode cX8_sum 34 = .ok (.iconst 1, 1) := by decide +kernel
theorem dX8_sum_35 : decode cX8_sum 35 = .ok (.invokevirtual 46, 3) := by decide +kernel
theorem dX8_sum_38 : decode cX8_sum 38 = .ok (.ireturn, 1) := by decide +kernel
theorem dX8_living_0 : decode cX8_living 0 = .ok (.iconst 0, 1) := by decide +kernel
theorem dX8_living_1 : decode cX8_living 1 = .ok (.istore_n 1, 1) := by decide +kernel
theorem dX8_living_2 : decode cX8_living 2 = .ok (.iconst 0, 1) := by decide +kernel
theorem dX8_living_3 : decode cX8_living 3 = .ok (.istore_n 2, 1) := by decide +kernel
theorem dX8_living_4 : decode cX8_living 4 = .ok (.iload_n 2, 1) := by decide +kernel
theorem dX8_living_5 : decode cX8_living 5 = .ok (.aload_n 0, 1) := by decide +kernel
theorem dX8_living_6 : decode cX8_living 6 = .ok (.getfield 7, 3) := by decide +kernel
theorem dX8_living_9 : decode cX8_living 9 = .ok (.iconst 1, 1) := by decide +kernel
theorem dX8_living_10 : decode cX8_living 10 = .ok (.iaload, 1) := by decide +kernel
theorem dX8_living_11 : decode cX8_living 11 = .ok (.if_icmp .ge 41, 3) := by decide +kernel
theorem dX8_living_14 : decode cX8_living 14 = .ok (.iload_n 1, 1) := by decide +kernel
theorem dX8_living_15 : decode cX8_living 15 = .ok (.aload_n 0, 1) := by decide +kernel
theorem dX8_living_16 : decode cX8_living 16 = .ok (.getfield 7, 3) := by decide +kernel
theorem dX8_living_19 : decode cX8_living 19 = .ok (.iconst 0, 1) := by decide +kernel
theorem dX8_living_20 : decode cX8_living 20 = .ok (.iaload, 1) := by decide +kernel
theorem dX8_living_21 : decode cX8_living 21 = .ok (.aload_n 0, 1) := by decide +kernel
theorem dX8_living_22 : decode cX8_living 22 = .ok (.iload_n 2, 1) := by decide +kernel
theorem dX8_living_23 : decode cX8_living 23 = .ok (.iconst 4, 1) := by decide +kernel
theorem dX8_living_24 : decode cX8_living 24 = .ok (.invokevirtual 50, 3) := by decide +kernel
theorem dX8_living_27 : decode cX8_living 27 = .ok (.aload_n 0, 1) := by decide +kernel
theorem dX8_living_28 : decode cX8_living 28 = .ok (.iload_n 2, 1) := by decide +kernel
theorem dX8_living_29 : decode cX8_living 29 = .ok (.iconst 5, 1) := by decide +kernel
theorem dX8_living_30 : decode cX8_living 30 = .ok (.invokevirtual 50, 3) := by decide +kernel
theorem dX8_living_33 : decode cX8_living 33 = .ok (.invokestatic 39, 3) := by decide +kernel
theorem dX8_living_36 : decode cX8_living 36 = .ok (.ifCond .eq 7, 3) := by decide +kernel
theorem dX8_living_39 : decode cX8_living 39 = .ok (.iconst 1, 1) := by decide +kernel
theorem dX8_living_40 : decode cX8_living 40 = .ok (.goto 4, 3) := by decide +kernel
theorem dX8_living_43 : decode cX8_living 43 = .ok (.iconst 0, 1) := by decide +kernel
theorem dX8_living_44 : decode cX8_living 44 = .ok (.iadd, 1) := by decide +kernel
theorem dX8_living_45 : decode cX8_living 45 = .ok (.istore_n 1, 1) := by decide +kernel
theorem dX8_living_46 : decode cX8_living 46 = .ok (.iinc 2 1, 3) := by decide +kernel
theorem dX8_living_49 : decode cX8_living 49 = .ok (.goto (-45), 3) := by decide +kernel
theorem dX8_living_52 : decode cX8_living 52 = .ok (.iload_n 1, 1) := by decide +kernel
theorem dX8_living_53 : decode cX8_living 53 = .ok (.ireturn, 1) := by decide +kernel
theorem dX8_bare_0 : decode cX8_bare 0 = .ok (.aload_n 0, 1) := by decide +kernel
theorem dX8_bare_1 : decode cX8_bare 1 = .ok (.invokevirtual 168, 3) := by decide +kernel
theorem dX8_bare_4 : decode cX8_bare 4 = .ok (.iconst 0, 1) := by decide +kernel
theorem dX8_bare_5 : decode cX8_bare 5 = .ok (.istore_n 1, 1) := by decide +kernel
theorem dX8_bare_6 : decode cX8_bare 6 = .ok (.iconst 0, 1) := by decide +kernel
theorem dX8_bare_7 : decode cX8_bare 7 = .ok (.istore_n 2, 1) := by decide +kernel
theorem dX8_bare_8 : decode cX8_bare 8 = .ok (.iload_n 2, 1) := by decide +kernel
theorem dX8_bare_9 : decode cX8_bare 9 = .ok (.bipush 64, 2) := by decide +kernel
theorem dX8_bare_11 : decode cX8_bare 11 = .ok (.if_icmp .ge 27, 3) := by decide +kernel
theorem dX8_bare_14 : decode cX8_bare 14 = .ok (.iload_n 1, 1) := by decide +kernel
theorem dX8_bare_15 : decode cX8_bare 15 = .ok (.aload_n 0, 1) := by decide +kernel
theorem dX8_bare_16 : decode cX8_bare 16 = .ok (.getfield 28, 3) := by decide +kernel
theorem dX8_bare_19 : decode cX8_bare 19 = .ok (.iload_n 2, 1) := by decide +kernel
theorem dX8_bare_20 : decode cX8_bare 20 = .ok (.iaload, 1) := by decide +kernel
theorem dX8_bare_21 : decode cX8_bare 21 = .ok (.iconst (-1), 1) := by decide +kernel
theorem dX8_bare_22 : decode cX8_bare 22 = .ok (.if_icmp .ne 7, 3) := by decide +kernel
theorem dX8_bare_25 : decode cX8_bare 25 = .ok (.iconst 1, 1) := by decide +kernel
theorem dX8_bare_26 : decode cX8_bare 26 = .ok (.goto 4, 3) := by decide +kernel
theorem dX8_bare_29 : decode cX8_bare 29 = .ok (.iconst 0, 1) := by decide +kernel
theorem dX8_bare_30 : decode cX8_bare 30 = .ok (.iadd, 1) := by decide +kernel
theorem dX8_bare_31 : decode cX8_bare 31 = .ok (.istore_n 1, 1) := by decide +kernel
theorem dX8_bare_32 : decode cX8_bare 32 = .ok (.iinc 2 1, 3) := by decide +kernel
theorem dX8_bare_35 : decode cX8_bare 35 = .ok (.goto (-27), 3) := by decide +kernel
theorem dX8_bare_38 : decode cX8_bare 38 = .ok (.iload_n 1, 1) := by decide +kernel
theorem dX8_bare_39 : decode cX8_bare 39 = .ok (.ireturn, 1) := by decide +kernel
theorem dX8_inTree_0 : decode cX8_inTree 0 = .ok (.aload_n 0, 1) := by decide +kernel
theorem dX8_inTree_1 : decode cX8_inTree 1 = .ok (.invokevirtual 171, 3) := by decide +kernel
theorem dX8_inTree_4 : decode cX8_inTree 4 = .ok (.iconst 0, 1) := by decide +kernel
theorem dX8_inTree_5 : decode cX8_inTree 5 = .ok (.istore_n 2, 1) := by decide +kernel
theorem dX8_inTree_6 : decode cX8_inTree 6 = .ok (.iconst 1, 1) := by decide +kernel
theorem dX8_inTree_7 : decode cX8_inTree 7 = .ok (.istore_n 3, 1) := by decide +kernel
theorem dX8_inTree_8 : decode cX8_inTree 8 = .ok (.iload_n 3, 1) := by decide +kernel
theorem dX8_inTree_9 : decode cX8_inTree 9 = .ok (.sipush 128, 3) := by decide +kernel
theorem dX8_inTree_12 : decode cX8_inTree 12 = .ok (.if_icmp .ge 40, 3) := by decide +kernel
theorem dX8_inTree_15 : decode cX8_inTree 15 = .ok (.iload_n 2, 1) := by decide +kernel
theorem dX8_inTree_16 : decode cX8_inTree 16 = .ok (.iload_n 1, 1) := by decide +kernel
theorem dX8_inTree_17 : decode cX8_inTree 17 = .ok (.ifCond .eq 12, 3) := by decide +kernel
theorem dX8_inTree_20 : decode cX8_inTree 20 = .ok (.aload_n 0, 1) := by decide +kernel
theorem dX8_inTree_21 : decode cX8_inTree 21 = .ok (.getfield 25, 3) := by decide +kernel
theorem dX8_inTree_24 : decode cX8_inTree 24 = .ok (.iload_n 3, 1) := by decide +kernel
theorem dX8_inTree_25 : decode cX8_inTree 25 = .ok (.iaload, 1) := by decide +kernel
theorem dX8_inTree_26 : decode cX8_inTree 26 = .ok (.goto 18, 3) := by decide +kernel
theorem dX8_inTree_29 : decode cX8_inTree 29 = .ok (.aload_n 0, 1) := by decide +kernel
theorem dX8_inTree_30 : decode cX8_inTree 30 = .ok (.getfield 22, 3) := by decide +kernel
theorem dX8_inTree_33 : decode cX8_inTree 33 = .ok (.iload_n 3, 1) := by decide +kernel
theorem dX8_inTree_34 : decode cX8_inTree 34 = .ok (.iaload, 1) := by decide +kernel
theorem dX8_inTree_35 : decode cX8_inTree 35 = .ok (.iconst (-1), 1) := by decide +kernel
theorem dX8_inTree_36 : decode cX8_inTree 36 = .ok (.if_icmp .ne 7, 3) := by decide +kernel
theorem dX8_inTree_39 : decode cX8_inTree 39 = .ok (.iconst 0, 1) := by decide +kernel
theorem dX8_inTree_40 : decode cX8_inTree 40 = .ok (.goto 4, 3) := by decide +kernel
theorem dX8_inTree_43 : decode cX8_inTree 43 = .ok (.iconst 1, 1) := by decide +kernel
theorem dX8_inTree_44 : decode cX8_inTree 44 = .ok (.iadd, 1) := by decide +kernel
theorem dX8_inTree_45 : decode cX8_inTree 45 = .ok (.istore_n 2, 1) := by decide +kernel
theorem dX8_inTree_46 : decode cX8_inTree 46 = .ok (.iinc 3 1, 3) := by decide +kernel
theorem dX8_inTree_49 : decode cX8_inTree 49 = .ok (.goto (-41), 3) := by decide +kernel
theorem dX8_inTree_52 : decode cX8_inTree 52 = .ok (.iload_n 2, 1) := by decide +kernel
theorem dX8_inTree_53 : decode cX8_inTree 53 = .ok (.ireturn, 1) := by decide +kernel
theorem dX8_counted_0 : decode cX8_counted 0 = .ok (.iload_n 1, 1) := by decide +kernel
theorem dX8_counted_1 : decode cX8_counted 1 = .ok (.iconst 2, 1) := by decide +kernel
theorem dX8_counted_2 : decode cX8_counted 2 = .ok (.if_icmp .ge 10, 3) := by decide +kernel
theorem dX8_counted_5 : decode cX8_counted 5 = .ok (.aload_n 0, 1) := by decide +kernel
theorem dX8_counted_6 : decode cX8_counted 6 = .ok (.getfield 7, 3) := by decide +kernel
theorem dX8_counted_9 : decode cX8_counted 9 = .ok (.iload_n 1, 1) := by decide +kernel
theorem dX8_counted_10 : decode cX8_counted 10 = .ok (.iaload, 1) := by decide +kernel
theorem dX8_counted_11 : decode cX8_counted 11 = .ok (.ireturn, 1) := by decide +kernel
theorem dX8_counted_12 : decode cX8_counted 12 = .ok (.iload_n 1, 1) := by decide +kernel
theorem dX8_counted_13 : decode cX8_counted 13 = .ok (.iconst 5, 1) := by decide +kernel
theorem dX8_counted_14 : decode cX8_counted 14 = .ok (.if_icmp .ge 34, 3) := by decide +kernel
theorem dX8_counted_17 : decode cX8_counted 17 = .ok (.iload_n 1, 1) := by decide +kernel
theorem dX8_counted_18 : decode cX8_counted 18 = .ok (.iconst 2, 1) := by decide +kernel
theorem dX8_counted_19 : decode cX8_counted 19 = .ok (.if_icmp .ne 10, 3) := by decide +kernel
theorem dX8_counted_22 : decode cX8_counted 22 = .ok (.aload_n 0, 1) := by decide +kernel
theorem dX8_counted_23 : decode cX8_counted 23 = .ok (.invokevirtual 189, 3) := by decide +kernel
theorem dX8_counted_26 : decode cX8_counted 26 = .ok (.goto 21, 3) := by decide +kernel
theorem dX8_counted_29 : decode cX8_counted 29 = .ok (.iload_n 1, 1) := by decide +kernel
theorem dX8_counted_30 : decode cX8_counted 30 = .ok (.iconst 3, 1) := by decide +kernel
theorem dX8_counted_31 : decode cX8_counted 31 = .ok (.if_icmp .ne 12, 3) := by decide +kernel
theorem dX8_counted_34 : decode cX8_counted 34 = .ok (.aload_n 0, 1) := by decide +kernel
theorem dX8_counted_35 : decode cX8_counted 35 = .ok (.iconst 0, 1) := by decide +kernel
theorem dX8_counted_36 : decode cX8_counted 36 = .ok (.iconst 3, 1) := by decide +kernel
theorem dX8_counted_37 : decode cX8_counted 37 = .ok (.invokevirtual 183, 3) := by decide +kernel
theorem dX8_counted_40 : decode cX8_counted 40 = .ok (.goto 7, 3) := by decide +kernel
theorem dX8_counted_43 : decode cX8_counted 43 = .ok (.aload_n 0, 1) := by decide +kernel
theorem dX8_counted_44 : decode cX8_counted 44 = .ok (.invokevirtual 192, 3) := by decide +kernel
theorem dX8_counted_47 : decode cX8_counted 47 = .ok (.ireturn, 1) := by decide +kernel
theorem dX8_counted_48 : decode cX8_counted 48 = .ok (.iload_n 1, 1) := by decide +kernel
theorem dX8_counted_49 : decode cX8_counted 49 = .ok (.bipush 7, 2) := by decide +kernel
theorem dX8_counted_51 : decode cX8_counted 51 = .ok (.if_icmp .ge 20, 3) := by decide +kernel
theorem dX8_counted_54 : decode cX8_counted 54 = .ok (.aload_n 0, 1) := by decide +kernel
theorem dX8_counted_55 : decode cX8_counted 55 = .ok (.iload_n 1, 1) := by decide +kernel
theorem dX8_counted_56 : decode cX8_counted 56 = .ok (.iconst 5, 1) := by decide +kernel
theorem dX8_counted_57 : decode cX8_counted 57 = .ok (.if_icmp .ne 7, 3) := by decide +kernel
theorem dX8_counted_60 : decode cX8_counted 60 = .ok (.iconst 1, 1) := by decide +kernel
theorem dX8_counted_61 : decode cX8_counted 61 = .ok (.goto 4, 3) := by decide +kernel
theorem dX8_counted_64 : decode cX8_counted 64 = .ok (.iconst 0, 1) := by decide +kernel
theorem dX8_counted_65 : decode cX8_counted 65 = .ok (.invokevirtual 195, 3) := by decide +kernel
theorem dX8_counted_68 : decode cX8_counted 68 = .ok (.goto 20, 3) := by decide +kernel
theorem dX8_counted_71 : decode cX8_counted 71 = .ok (.iload_n 1, 1) := by decide +kernel
theorem dX8_counted_72 : decode cX8_counted 72 = .ok (.bipush 7, 2) := by decide +kernel
theorem dX8_counted_74 : decode cX8_counted 74 = .ok (.if_icmp .ne 10, 3) := by decide +kernel
theorem dX8_counted_77 : decode cX8_counted 77 = .ok (.aload_n 0, 1) := by decide +kernel
theorem dX8_counted_78 : decode cX8_counted 78 = .ok (.invokevirtual 95, 3) := by decide +kernel
theorem dX8_counted_81 : decode cX8_counted 81 = .ok (.goto 7, 3) := by decide +kernel
theorem dX8_counted_84 : decode cX8_counted 84 = .ok (.aload_n 0, 1) := by decide +kernel
theorem dX8_counted_85 : decode cX8_counted 85 = .ok (.getfield 43, 3) := by decide +kernel
theorem dX8_counted_88 : decode cX8_counted 88 = .ok (.ireturn, 1) := by decide +kernel
theorem dX8_count_0 : decode cX8_count 0 = .ok (.aload_n 0, 1) := by decide +kernel
theorem dX8_count_1 : decode cX8_count 1 = .ok (.iconst 0, 1) := by decide +kernel
theorem dX8_count_2 : decode cX8_count 2 = .ok (.putfield 35, 3) := by decide +kernel
theorem dX8_count_5 : decode cX8_count 5 = .ok (.iload_n 1, 1) := by decide +kernel
theorem dX8_count_6 : decode cX8_count 6 = .ok (.iconst 0, 1) := by decide +kernel
theorem dX8_count_7 : decode cX8_count 7 = .ok (.bipush 8, 2) := by decide +kernel
theorem dX8_count_9 : decode cX8_count 9 = .ok (.invokestatic 39, 3) := by decide +kernel
theorem dX8_count_12 : decode cX8_count 12 = .ok (.ifCond .eq 11, 3) := by decide +kernel
theorem dX8_count_15 : decode cX8_count 15 = .ok (.aload_n 0, 1) := by decide +kernel
theorem dX8_count_16 : decode cX8_count 16 = .ok (.iload_n 1, 1) := by decide +kernel
theorem dX8_count_17 : decode cX8_count 17 = .ok (.invokevirtual 199, 3) := by decide +kernel
theorem dX8_count_20 : decode cX8_count 20 = .ok (.goto 8, 3) := by decide +kernel
theorem dX8_count_23 : decode cX8_count 23 = .ok (.aload_n 0, 1) := by decide +kernel
theorem dX8_count_24 : decode cX8_count 24 = .ok (.iconst 1, 1) := by decide +kernel
theorem dX8_count_25 : decode cX8_count 25 = .ok (.invokevirtual 46, 3) := by decide +kernel
theorem dX8_count_28 : decode cX8_count 28 = .ok (.ireturn, 1) := by decide +kernel
theorem dX8_placesOf_0 : decode cX8_placesOf 0 = .ok (.aload_n 0, 1) := by decide +kernel
theorem dX8_placesOf_1 : decode cX8_placesOf 1 = .ok (.invokevirtual 168, 3) := by decide +kernel
theorem dX8_placesOf_4 : decode cX8_placesOf 4 = .ok (.iconst 0, 1) := by decide +kernel
theorem dX8_placesOf_5 : decode cX8_placesOf 5 = .ok (.istore_n 3, 1) := by decide +kernel
theorem dX8_placesOf_6 : decode cX8_placesOf 6 = .ok (.iconst 0, 1) := by decide +kernel
theorem dX8_placesOf_7 : decode cX8_placesOf 7 = .ok (.istore 4, 2) := by decide +kernel
theorem dX8_placesOf_9 : decode cX8_placesOf 9 = .ok (.iload 4, 2) := by decide +kernel
theorem dX8_placesOf_11 : decode cX8_placesOf 11 = .ok (.bipush 64, 2) := by decide +kernel
theorem dX8_placesOf_13 : decode cX8_placesOf 13 = .ok (.if_icmp .ge 50, 3) := by decide +kernel
theorem dX8_placesOf_16 : decode cX8_placesOf 16 = .ok (.iload_n 3, 1) := by decide +kernel
theorem dX8_placesOf_17 : decode cX8_placesOf 17 = .ok (.aload_n 0, 1) := by decide +kernel
theorem dX8_placesOf_18 : decode cX8_placesOf 18 = .ok (.getfield 28, 3) := by decide +kernel
theorem dX8_placesOf_21 : decode cX8_placesOf 21 = .ok (.iload 4, 2) := by decide +kernel
theorem dX8_placesOf_23 : decode cX8_placesOf 23 = .ok (.iaload, 1) := by decide +kernel
theorem dX8_placesOf_24 : decode cX8_placesOf 24 = .ok (.iconst (-1), 1) := by decide +kernel
theorem dX8_placesOf_25 : decode cX8_placesOf 25 = .ok (.if_icmp .eq 25, 3) := by decide +kernel
theorem dX8_placesOf_28 : decode cX8_placesOf 28 = .ok (.iload_n 1, 1) := by decide +kernel
theorem dX8_placesOf_29 : decode cX8_placesOf 29 = .ok (.iload 4, 2) := by decide +kernel
theorem dX8_placesOf_31 : decode cX8_placesOf 31 = .ok (.imul, 1) := by decide +kernel
theorem dX8_placesOf_32 : decode cX8_placesOf 32 = .ok (.iload_n 2, 1) := by decide +kernel
theorem dX8_placesOf_33 : decode cX8_placesOf 33 = .ok (.iadd, 1) := by decide +kernel
theorem dX8_placesOf_34 : decode cX8_placesOf 34 = .ok (.aload_n 0, 1) := by decide +kernel
theorem dX8_placesOf_35 : decode cX8_placesOf 35 = .ok (.aload_n 0, 1) := by decide +kernel
theorem dX8_placesOf_36 : decode cX8_placesOf 36 = .ok (.getfield 28, 3) := by decide +kernel
theorem dX8_placesOf_39 : decode cX8_placesOf 39 = .ok (.iload 4, 2) := by decide +kernel
theorem dX8_placesOf_41 : decode cX8_placesOf 41 = .ok (.iaload, 1) := by decide +kernel
theorem dX8_placesOf_42 : decode cX8_placesOf 42 = .ok (.iload 4, 2) := by decide +kernel
theorem dX8_placesOf_44 : decode cX8_placesOf 44 = .ok (.invokevirtual 54, 3) := by decide +kernel
theorem dX8_placesOf_47 : decode cX8_placesOf 47 = .ok (.if_icmp .ge 7, 3) := by decide +kernel
theorem dX8_placesOf_50 : decode cX8_placesOf 50 = .ok (.iconst 1, 1) := by decide +kernel
theorem dX8_placesOf_51 : decode cX8_placesOf 51 = .ok (.goto 4, 3) := by decide +kernel
theorem dX8_placesOf_54 : decode cX8_placesOf 54 = .ok (.iconst 0, 1) := by decide +kernel
theorem dX8_placesOf_55 : decode cX8_placesOf 55 = .ok (.iadd, 1) := by decide +kernel
theorem dX8_placesOf_56 : decode cX8_placesOf 56 = .ok (.istore_n 3, 1) := by decide +kernel
theorem dX8_placesOf_57 : decode cX8_placesOf 57 = .ok (.iinc 4 1, 3) := by decide +kernel
theorem dX8_placesOf_60 : decode cX8_placesOf 60 = .ok (.goto (-51), 3) := by decide +kernel
theorem dX8_placesOf_63 : decode cX8_placesOf 63 = .ok (.iload_n 3, 1) := by decide +kernel
theorem dX8_placesOf_64 : decode cX8_placesOf 64 = .ok (.ireturn, 1) := by decide +kernel
theorem dX8_ifAdded_0 : decode cX8_ifAdded 0 = .ok (.aload_n 0, 1) := by decide +kernel
theorem dX8_ifAdded_1 : decode cX8_ifAdded 1 = .ok (.iconst 0, 1) := by decide +kernel
theorem dX8_ifAdded_2 : decode cX8_ifAdded 2 = .ok (.putfield 35, 3) := by decide +kernel
theorem dX8_ifAdded_5 : decode cX8_ifAdded 5 = .ok (.iload_n 1, 1) := by decide +kernel
theorem dX8_ifAdded_6 : decode cX8_ifAdded 6 = .ok (.invokestatic 64, 3) := by decide +kernel
theorem dX8_ifAdded_9 : decode cX8_ifAdded 9 = .ok (.ifCond .eq 19, 3) := by decide +kernel
theorem dX8_ifAdded_12 : decode cX8_ifAdded 12 = .ok (.iload_n 2, 1) := by decide +kernel
theorem dX8_ifAdded_13 : decode cX8_ifAdded 13 = .ok (.invokestatic 68, 3) := by decide +kernel
theorem dX8_ifAdded_16 : decode cX8_ifAdded 16 = .ok (.ifCond .eq 12, 3) := by decide +kernel
theorem dX8_ifAdded_19 : decode cX8_ifAdded 19 = .ok (.aload_n 0, 1) := by decide +kernel
theorem dX8_ifAdded_20 : decode cX8_ifAdded 20 = .ok (.iload_n 1, 1) := by decide +kernel
theorem dX8_ifAdded_21 : decode cX8_ifAdded 21 = .ok (.iload_n 2, 1) := by decide +kernel
theorem dX8_ifAdded_22 : decode cX8_ifAdded 22 = .ok (.invokevirtual 202, 3) := by decide +kernel
theorem dX8_ifAdded_25 : decode cX8_ifAdded 25 = .ok (.goto 8, 3) := by decide +kernel
theorem dX8_ifAdded_28 : decode cX8_ifAdded 28 = .ok (.aload_n 0, 1) := by decide +kernel
theorem dX8_ifAdded_29 : decode cX8_ifAdded 29 = .ok (.iconst 1, 1) := by decide +kernel
theorem dX8_ifAdded_30 : decode cX8_ifAdded 30 = .ok (.invokevirtual 46, 3) := by decide +kernel
theorem dX8_ifAdded_33 : decode cX8_ifAdded 33 = .ok (.ireturn, 1) := by decide +kernel
theorem dX8_highestOf_0 : decode cX8_highestOf 0 = .ok (.aload_n 0, 1) := by decide +kernel
theorem dX8_highestOf_1 : decode cX8_highestOf 1 = .ok (.invokevirtual 168, 3) := by decide +kernel
theorem dX8_highestOf_4 : decode cX8_highestOf 4 = .ok (.sipush (-10000), 3) := by decide +kernel
theorem dX8_highestOf_7 : decode cX8_highestOf 7 = .ok (.istore_n 2, 1) := by decide +kernel
theorem dX8_highestOf_8 : decode cX8_highestOf 8 = .ok (.iconst 0, 1) := by decide +kernel
theorem dX8_highestOf_9 : decode cX8_highestOf 9 = .ok (.istore_n 3, 1) := by decide +kernel
theorem dX8_highestOf_10 : decode cX8_highestOf 10 = .ok (.iload_n 3, 1) := by decide +kernel
theorem dX8_highestOf_11 : decode cX8_highestOf 11 = .ok (.bipush 64, 2) := by decide +kernel
theorem dX8_highestOf_13 : decode cX8_highestOf 13 = .ok (.if_icmp .ge 57, 3) := by decide +kernel
theorem dX8_highestOf_16 : decode cX8_highestOf 16 = .ok (.aload_n 0, 1) := by decide +kernel
theorem dX8_highestOf_17 : decode cX8_highestOf 17 = .ok (.getfield 28, 3) := by decide +kernel
theorem dX8_highestOf_20 : decode cX8_highestOf 20 = .ok (.iload_n 3, 1) := by decide +kernel
theorem dX8_highestOf_21 : decode cX8_highestOf 21 = .ok (.iaload, 1) := by decide +kernel
theorem dX8_highestOf_22 : decode cX8_highestOf 22 = .ok (.iconst (-1), 1) := by decide +kernel
theorem dX8_highestOf_23 : decode cX8_highestOf 23 = .ok (.if_icmp .ne 9, 3) := by decide +kernel
theorem dX8_highestOf_26 : decode cX8_highestOf 26 = .ok (.sipush 9999, 3) := by decide +kernel
theorem dX8_highestOf_29 : decode cX8_highestOf 29 = .ok (.goto 20, 3) := by decide +kernel
theorem dX8_highestOf_32 : decode cX8_highestOf 32 = .ok (.aload_n 0, 1) := by decide +kernel
theorem dX8_highestOf_33 : decode cX8_highestOf 33 = .ok (.aload_n 0, 1) := by decide +kernel
theorem dX8_highestOf_34 : decode cX8_highestOf 34 = .ok (.getfield 28, 3) := by decide +kernel
theorem dX8_highestOf_37 : decode cX8_highestOf 37 = .ok (.iload_n 3, 1) := by decide +kernel
theorem dX8_highestOf_38 : decode cX8_highestOf 38 = .ok (.iaload, 1) := by decide +kernel
theorem dX8_highestOf_39 : decode cX8_highestOf 39 = .ok (.iload_n 3, 1) := by decide +kernel
theorem dX8_highestOf_40 : decode cX8_highestOf 40 = .ok (.invokevirtual 54, 3) := by decide +kernel
theorem dX8_highestOf_43 : decode cX8_highestOf 43 = .ok (.iload_n 1, 1) := by decide +kernel
theorem dX8_highestOf_44 : decode cX8_highestOf 44 = .ok (.iload_n 3, 1) := by decide +kernel
theorem dX8_highestOf_45 : decode cX8_highestOf 45 = .ok (.imul, 1) := by decide +kernel
theorem dX8_highestOf_46 : decode cX8_highestOf 46 = .ok (.isub, 1) := by decide +kernel
theorem dX8_highestOf_47 : decode cX8_highestOf 47 = .ok (.iconst 1, 1) := by decide +kernel
theorem dX8_highestOf_48 : decode cX8_highestOf 48 = .ok (.isub, 1) := by decide +kernel
theorem dX8_highestOf_49 : decode cX8_highestOf 49 = .ok (.istore 4, 2) := by decide +kernel
theorem dX8_highestOf_51 : decode cX8_highestOf 51 = .ok (.iload 4, 2) := by decide +kernel
theorem dX8_highestOf_53 : decode cX8_highestOf 53 = .ok (.iload_n 2, 1) := by decide +kernel
theorem dX8_highestOf_54 : decode cX8_highestOf 54 = .ok (.if_icmp .le 8, 3) := by decide +kernel
theorem dX8_highestOf_57 : decode cX8_highestOf 57 = .ok (.iload 4, 2) := by decide +kernel
theorem dX8_highestOf_59 : decode cX8_highestOf 59 = .ok (.goto 4, 3) := by decide +kernel
theorem dX8_highestOf_62 : decode cX8_highestOf 62 = .ok (.iload_n 2, 1) := by decide +kernel
theorem dX8_highestOf_63 : decode cX8_highestOf 63 = .ok (.istore_n 2, 1) := by decide +kernel
theorem dX8_highestOf_64 : decode cX8_highestOf 64 = .ok (.iinc 3 1, 3) := by decide +kernel
theorem dX8_highestOf_67 : decode cX8_highestOf 67 = .ok (.goto (-57), 3) := by decide +kernel
theorem dX8_highestOf_70 : decode cX8_highestOf 70 = .ok (.iload_n 2, 1) := by decide +kernel
theorem dX8_highestOf_71 : decode cX8_highestOf 71 = .ok (.sipush 9999, 3) := by decide +kernel
theorem dX8_highestOf_74 : decode cX8_highestOf 74 = .ok (.if_icmp .le 9, 3) := by decide +kernel
theorem dX8_highestOf_77 : decode cX8_highestOf 77 = .ok (.sipush 9999, 3) := by decide +kernel
theorem dX8_highestOf_80 : decode cX8_highestOf 80 = .ok (.goto 4, 3) := by decide +kernel
theorem dX8_highestOf_83 : decode cX8_highestOf 83 = .ok (.iload_n 2, 1) := by decide +kernel
theorem dX8_highestOf_84 : decode cX8_highestOf 84 = .ok (.ireturn, 1) := by decide +kernel
theorem dX8_highest_0 : decode cX8_highest 0 = .ok (.aload_n 0, 1) := by decide +kernel
theorem dX8_highest_1 : decode cX8_highest 1 = .ok (.iconst 0, 1) := by decide +kernel
theorem dX8_highest_2 : decode cX8_highest 2 = .ok (.putfield 35, 3) := by decide +kernel
theorem dX8_highest_5 : decode cX8_highest 5 = .ok (.iload_n 1, 1) := by decide +kernel
theorem dX8_highest_6 : decode cX8_highest 6 = .ok (.invokestatic 64, 3) := by decide +kernel
theorem dX8_highest_9 : decode cX8_highest 9 = .ok (.ifCond .eq 11, 3) := by decide +kernel
theorem dX8_highest_12 : decode cX8_highest 12 = .ok (.aload_n 0, 1) := by decide +kernel
theorem dX8_highest_13 : decode cX8_highest 13 = .ok (.iload_n 1, 1) := by decide +kernel
theorem dX8_highest_14 : decode cX8_highest 14 = .ok (.invokevirtual 205, 3) := by decide +kernel
theorem dX8_highest_17 : decode cX8_highest 17 = .ok (.goto 8, 3) := by decide +kernel
theorem dX8_highest_20 : decode cX8_highest 20 = .ok (.aload_n 0, 1) := by decide +kernel
theorem dX8_highest_21 : decode cX8_highest 21 = .ok (.iconst 1, 1) := by decide +kernel
theorem dX8_highest_22 : decode cX8_highest 22 = .ok (.invokevirtual 46, 3) := by decide +kernel
theorem dX8_highest_25 : decode cX8_highest 25 = .ok (.ireturn, 1) := by decide +kernel
theorem dX8_worthOf_0 : decode cX8_worthOf 0 = .ok (.aload_n 0, 1) := by decide +kernel
theorem dX8_worthOf_1 : decode cX8_worthOf 1 = .ok (.invokevirtual 168, 3) := by decide +kernel
theorem dX8_worthOf_4 : decode cX8_worthOf 4 = .ok (.iconst 0, 1) := by decide +kernel
theorem dX8_worthOf_5 : decode cX8_worthOf 5 = .ok (.istore_n 2, 1) := by decide +kernel
theorem dX8_worthOf_6 : decode cX8_worthOf 6 = .ok (.iconst 0, 1) := by decide +kernel
theorem dX8_worthOf_7 : decode cX8_worthOf 7 = .ok (.istore_n 3, 1) := by decide +kernel
theorem dX8_worthOf_8 : decode cX8_worthOf 8 = .ok (.iload_n 3, 1) := by decide +kernel
theorem dX8_worthOf_9 : decode cX8_worthOf 9 = .ok (.bipush 64, 2) := by decide +kernel
theorem dX8_worthOf_11 : decode cX8_worthOf 11 = .ok (.if_icmp .ge 58, 3) := by decide +kernel
theorem dX8_worthOf_14 : decode cX8_worthOf 14 = .ok (.aload_n 0, 1) := by decide +kernel
theorem dX8_worthOf_15 : decode cX8_worthOf 15 = .ok (.getfield 28, 3) := by decide +kernel
theorem dX8_worthOf_18 : decode cX8_worthOf 18 = .ok (.iload_n 3, 1) := by decide +kernel
theorem dX8_worthOf_19 : decode cX8_worthOf 19 = .ok (.iaload, 1) := by decide +kernel
theorem dX8_worthOf_20 : decode cX8_worthOf 20 = .ok (.iload_n 1, 1) := by decide +kernel
theorem dX8_worthOf_21 : decode cX8_worthOf 21 = .ok (.if_icmp .ne 42, 3) := by decide +kernel
theorem dX8_worthOf_24 : decode cX8_worthOf 24 = .ok (.aload_n 0, 1) := by decide +kernel
theorem dX8_worthOf_25 : decode cX8_worthOf 25 = .ok (.iload_n 3, 1) := by decide +kernel
theorem dX8_worthOf_26 : decode cX8_worthOf 26 = .ok (.aload_n 0, 1) := by decide +kernel
theorem dX8_worthOf_27 : decode cX8_worthOf 27 = .ok (.getfield 7, 3) := by decide +kernel
theorem dX8_worthOf_30 : decode cX8_worthOf 30 = .ok (.iconst 0, 1) := by decide +kernel
theorem dX8_worthOf_31 : decode cX8_worthOf 31 = .ok (.iaload, 1) := by decide +kernel
theorem dX8_worthOf_32 : decode cX8_worthOf 32 = .ok (.iload_n 1, 1) := by decide +kernel
theorem dX8_worthOf_33 : decode cX8_worthOf 33 = .ok (.invokevirtual 60, 3) := by decide +kernel
theorem dX8_worthOf_36 : decode cX8_worthOf 36 = .ok (.istore 4, 2) := by decide +kernel
theorem dX8_worthOf_38 : decode cX8_worthOf 38 = .ok (.iload 4, 2) := by decide +kernel
theorem dX8_worthOf_40 : decode cX8_worthOf 40 = .ok (.iconst (-1), 1) := by decide +kernel
theorem dX8_worthOf_41 : decode cX8_worthOf 41 = .ok (.if_icmp .ne 5, 3) := by decide +kernel
theorem dX8_worthOf_44 : decode cX8_worthOf 44 = .ok (.iconst (-1), 1) := by decide +kernel
theorem dX8_worthOf_45 : decode cX8_worthOf 45 = .ok (.ireturn, 1) := by decide +kernel
theorem dX8_worthOf_46 : decode cX8_worthOf 46 = .ok (.iload_n 2, 1) := by decide +kernel
theorem dX8_worthOf_47 : decode cX8_worthOf 47 = .ok (.aload_n 0, 1) := by decide +kernel
theorem dX8_worthOf_48 : decode cX8_worthOf 48 = .ok (.iload 4, 2) := by decide +kernel
theorem dX8_worthOf_50 : decode cX8_worthOf 50 = .ok (.iload_n 3, 1) := by decide +kernel
theorem dX8_worthOf_51 : decode cX8_worthOf 51 = .ok (.invokevirtual 54, 3) := by decide +kernel
theorem dX8_worthOf_54 : decode cX8_worthOf 54 = .ok (.aload_n 0, 1) := by decide +kernel
theorem dX8_worthOf_55 : decode cX8_worthOf 55 = .ok (.iload_n 1, 1) := by decide +kernel
theorem dX8_worthOf_56 : decode cX8_worthOf 56 = .ok (.iload_n 3, 1) := by decide +kernel
theorem dX8_worthOf_57 : decode cX8_worthOf 57 = .ok (.invokevirtual 54, 3) := by decide +kernel
theorem dX8_worthOf_60 : decode cX8_worthOf 60 = .ok (.isub, 1) := by decide +kernel
theorem dX8_worthOf_61 : decode cX8_worthOf 61 = .ok (.iadd, 1) := by decide +kernel
theorem dX8_worthOf_62 : decode cX8_worthOf 62 = .ok (.istore_n 2, 1) := by decide +kernel
theorem dX8_worthOf_63 : decode cX8_worthOf 63 = .ok (.iinc 3 1, 3) := by decide +kernel
theorem dX8_worthOf_66 : decode cX8_worthOf 66 = .ok (.goto (-58), 3) := by decide +kernel
theorem dX8_worthOf_69 : decode cX8_worthOf 69 = .ok (.iload_n 2, 1) := by decide +kernel
theorem dX8_worthOf_70 : decode cX8_worthOf 70 = .ok (.ireturn, 1) := by decide +kernel
theorem dX8_worth_0 : decode cX8_worth 0 = .ok (.aload_n 0, 1) := by decide +kernel
theorem dX8_worth_1 : decode cX8_worth 1 = .ok (.iconst 0, 1) := by decide +kernel
theorem dX8_worth_2 : decode cX8_worth 2 = .ok (.putfield 35, 3) := by decide +kernel
theorem dX8_worth_5 : decode cX8_worth 5 = .ok (.aload_n 0, 1) := by decide +kernel
theorem dX8_worth_6 : decode cX8_worth 6 = .ok (.iload_n 1, 1) := by decide +kernel
theorem dX8_worth_7 : decode cX8_worth 7 = .ok (.invokevirtual 78, 3) := by decide +kernel
theorem dX8_worth_10 : decode cX8_worth 10 = .ok (.ifCond .eq 11, 3) := by decide +kernel
theorem dX8_worth_13 : decode cX8_worth 13 = .ok (.aload_n 0, 1) := by decide +kernel
theorem dX8_worth_14 : decode cX8_worth 14 = .ok (.iload_n 1, 1) := by decide +kernel
theorem dX8_worth_15 : decode cX8_worth 15 = .ok (.invokevirtual 208, 3) := by decide +kernel
theorem dX8_worth_18 : decode cX8_worth 18 = .ok (.goto 8, 3) := by decide +kernel
theorem dX8_worth_21 : decode cX8_worth 21 = .ok (.aload_n 0, 1) := by decide +kernel
theorem dX8_worth_22 : decode cX8_worth 22 = .ok (.iconst 1, 1) := by decide +kernel
theorem dX8_worth_23 : decode cX8_worth 23 = .ok (.invokevirtual 46, 3) := by decide +kernel
theorem dX8_worth_26 : decode cX8_worth 26 = .ok (.ireturn, 1) := by decide +kernel
theorem dX8_changeAt_0 : decode cX8_changeAt 0 = .ok (.aload_n 0, 1) := by decide +kernel
theorem dX8_changeAt_1 : decode cX8_changeAt 1 = .ok (.iload_n 1, 1) := by decide +kernel
theorem dX8_changeAt_2 : decode cX8_changeAt 2 = .ok (.aload_n 0, 1) := by decide +kernel
theorem dX8_changeAt_3 : decode cX8_changeAt 3 = .ok (.getfield 7, 3) := by decide +kernel
theorem dX8_changeAt_6 : decode cX8_changeAt 6 = .ok (.iconst 0, 1) := by decide +kernel
theorem dX8_changeAt_7 : decode cX8_changeAt 7 = .ok (.iaload, 1) := by decide +kernel
theorem dX8_changeAt_8 : decode cX8_changeAt 8 = .ok (.iconst (-1), 1) := by decide +kernel
theorem dX8_changeAt_9 : decode cX8_changeAt 9 = .ok (.invokevirtual 60, 3) := by decide +kernel
theorem dX8_changeAt_12 : decode cX8_changeAt 12 = .ok (.istore_n 2, 1) := by decide +kernel
theorem dX8_changeAt_13 : decode cX8_changeAt 13 = .ok (.aload_n 0, 1) := by decide +kernel
theorem dX8_changeAt_14 : decode cX8_changeAt 14 = .ok (.getfield 7, 3) := by decide +kernel
theorem dX8_changeAt_17 : decode cX8_changeAt 17 = .ok (.iconst 0, 1) := by decide +kernel
theorem dX8_changeAt_18 : decode cX8_changeAt 18 = .ok (.iaload, 1) := by decide +kernel
theorem dX8_changeAt_19 : decode cX8_changeAt 19 = .ok (.iconst 1, 1) := by decide +kernel
theorem dX8_changeAt_20 : decode cX8_changeAt 20 = .ok (.iadd, 1) := by decide +kernel
theorem dX8_changeAt_21 : decode cX8_changeAt 21 = .ok (.istore_n 3, 1) := by decide +kernel
theorem dX8_changeAt_22 : decode cX8_changeAt 22 = .ok (.iload_n 3, 1) := by decide +kernel
theorem dX8_changeAt_23 : decode cX8_changeAt 23 = .ok (.bipush 100, 2) := by decide +kernel
theorem dX8_changeAt_25 : decode cX8_changeAt 25 = .ok (.if_icmp .ge 22, 3) := by decide +kernel
theorem dX8_changeAt_28 : decode cX8_changeAt 28 = .ok (.aload_n 0, 1) := by decide +kernel
theorem dX8_changeAt_29 : decode cX8_changeAt 29 = .ok (.iload_n 1, 1) := by decide +kernel
theorem dX8_changeAt_30 : decode cX8_changeAt 30 = .ok (.iload_n 3, 1) := by decide +kernel
theorem dX8_changeAt_31 : decode cX8_changeAt 31 = .ok (.iconst (-1), 1) := by decide +kernel
theorem dX8_changeAt_32 : decode cX8_changeAt 32 = .ok (.invokevirtual 60, 3) := by decide +kernel
theorem dX8_changeAt_35 : decode cX8_changeAt 35 = .ok (.iload_n 2, 1) := by decide +kernel
theorem dX8_changeAt_36 : decode cX8_changeAt 36 = .ok (.if_icmp .eq 5, 3) := by decide +kernel
theorem dX8_changeAt_39 : decode cX8_changeAt 39 = .ok (.iload_n 3, 1) := by decide +kernel
theorem dX8_changeAt_40 : decode cX8_changeAt 40 = .ok (.ireturn, 1) := by decide +kernel
theorem dX8_changeAt_41 : decode cX8_changeAt 41 = .ok (.iinc 3 1, 3) := by decide +kernel
theorem dX8_changeAt_44 : decode cX8_changeAt 44 = .ok (.goto (-22), 3) := by decide +kernel
theorem dX8_changeAt_47 : decode cX8_changeAt 47 = .ok (.iconst (-1), 1) := by decide +kernel
theorem dX8_changeAt_48 : decode cX8_changeAt 48 = .ok (.ireturn, 1) := by decide +kernel
theorem dX8_changesAt_0 : decode cX8_changesAt 0 = .ok (.aload_n 0, 1) := by decide +kernel
theorem dX8_changesAt_1 : decode cX8_changesAt 1 = .ok (.iconst 0, 1) := by decide +kernel
theorem dX8_changesAt_2 : decode cX8_changesAt 2 = .ok (.putfield 35, 3) := by decide +kernel
theorem dX8_changesAt_5 : decode cX8_changesAt 5 = .ok (.iload_n 1, 1) := by decide +kernel
theorem dX8_changesAt_6 : decode cX8_changesAt 6 = .ok (.invokestatic 81, 3) := by decide +kernel
theorem dX8_changesAt_9 : decode cX8_changesAt 9 = .ok (.ifCond .eq 11, 3) := by decide +kernel
theorem dX8_changesAt_12 : decode cX8_changesAt 12 = .ok (.aload_n 0, 1) := by decide +kernel
theorem dX8_changesAt_13 : decode cX8_changesAt 13 = .ok (.iload_n 1, 1) := by decide +kernel
theorem dX8_changesAt_14 : decode cX8_changesAt 14 = .ok (.invokevirtual 211, 3) := by decide +kernel
theorem dX8_changesAt_17 : decode cX8_changesAt 17 = .ok (.goto 8, 3) := by decide +kernel
theorem dX8_changesAt_20 : decode cX8_changesAt 20 = .ok (.aload_n 0, 1) := by decide +kernel
theorem dX8_changesAt_21 : decode cX8_changesAt 21 = .ok (.iconst 1, 1) := by decide +kernel
theorem dX8_changesAt_22 : decode cX8_changesAt 22 = .ok (.invokevirtual 46, 3) := by decide +kernel
theorem dX8_changesAt_25 : decode cX8_changesAt 25 = .ok (.ireturn, 1) := by decide +kernel
theorem dX8_meetOf_0 : decode cX8_meetOf 0 = .ok (.iconst 0, 1) := by decide +kernel
theorem dX8_meetOf_1 : decode cX8_meetOf 1 = .ok (.istore_n 3, 1) := by decide +kernel
theorem dX8_meetOf_2 : decode cX8_meetOf 2 = .ok (.iload_n 3, 1) := by decide +kernel
theorem dX8_meetOf_3 : decode cX8_meetOf 3 = .ok (.bipush 64, 2) := by decide +kernel
theorem dX8_meetOf_5 : decode cX8_meetOf 5 = .ok (.if_icmp .ge 71, 3) := by decide +kernel
theorem dX8_meetOf_8 : decode cX8_meetOf 8 = .ok (.iload_n 3, 1) := by decide +kernel
theorem dX8_meetOf_9 : decode cX8_meetOf 9 = .ok (.aload_n 0, 1) := by decide +kernel
theorem dX8_meetOf_10 : decode cX8_meetOf 10 = .ok (.iload_n 1, 1) := by decide +kernel
theorem dX8_meetOf_11 : decode cX8_meetOf 11 = .ok (.iconst 2, 1) := by decide +kernel
theorem dX8_meetOf_12 : decode cX8_meetOf 12 = .ok (.invokevirtual 50, 3) := by decide +kernel
theorem dX8_meetOf_15 : decode cX8_meetOf 15 = .ok (.aload_n 0, 1) := by decide +kernel
theorem dX8_meetOf_16 : decode cX8_meetOf 16 = .ok (.iload_n 1, 1) := by decide +kernel
theorem dX8_meetOf_17 : decode cX8_meetOf 17 = .ok (.iconst 3, 1) := by decide +kernel
theorem dX8_meetOf_18 : decode cX8_meetOf 18 = .ok (.invokevirtual 50, 3) := by decide +kernel
theorem dX8_meetOf_21 : decode cX8_meetOf 21 = .ok (.invokestatic 39, 3) := by decide +kernel
theorem dX8_meetOf_24 : decode cX8_meetOf 24 = .ok (.ifCond .eq 26, 3) := by decide +kernel
theorem dX8_meetOf_27 : decode cX8_meetOf 27 = .ok (.iload_n 3, 1) := by decide +kernel
theorem dX8_meetOf_28 : decode cX8_meetOf 28 = .ok (.aload_n 0, 1) := by decide +kernel
theorem dX8_meetOf_29 : decode cX8_meetOf 29 = .ok (.iload_n 2, 1) := by decide +kernel
theorem dX8_meetOf_30 : decode cX8_meetOf 30 = .ok (.iconst 2, 1) := by decide +kernel
theorem dX8_meetOf_31 : decode cX8_meetOf 31 = .ok (.invokevirtual 50, 3) := by decide +kernel
theorem dX8_meetOf_34 : decode cX8_meetOf 34 = .ok (.aload_n 0, 1) := by decide +kernel
theorem dX8_meetOf_35 : decode cX8_meetOf 35 = .ok (.iload_n 2, 1) := by decide +kernel
theorem dX8_meetOf_36 : decode cX8_meetOf 36 = .ok (.iconst 3, 1) := by decide +kernel
theorem dX8_meetOf_37 : decode cX8_meetOf 37 = .ok (.invokevirtual 50, 3) := by decide +kernel
theorem dX8_meetOf_40 : decode cX8_meetOf 40 = .ok (.invokestatic 39, 3) := by decide +kernel
theorem dX8_meetOf_43 : decode cX8_meetOf 43 = .ok (.ifCond .eq 7, 3) := by decide +kernel
theorem dX8_meetOf_46 : decode cX8_meetOf 46 = .ok (.iconst 1, 1) := by decide +kernel
theorem dX8_meetOf_47 : decode cX8_meetOf 47 = .ok (.goto 4, 3) := by decide +kernel
theorem dX8_meetOf_50 : decode cX8_meetOf 50 = .ok (.iconst 0, 1) := by decide +kernel
theorem dX8_meetOf_51 : decode cX8_meetOf 51 = .ok (.istore 4, 2) := by decide +kernel
theorem dX8_meetOf_53 : decode cX8_meetOf 53 = .ok (.iload 4, 2) := by decide +kernel
theorem dX8_meetOf_55 : decode cX8_meetOf 55 = .ok (.ifCond .eq 15, 3) := by decide +kernel
theorem dX8_meetOf_58 : decode cX8_meetOf 58 = .ok (.aload_n 0, 1) := by decide +kernel
theorem dX8_meetOf_59 : decode cX8_meetOf 59 = .ok (.iload_n 2, 1) := by decide +kernel
theorem dX8_meetOf_60 : decode cX8_meetOf 60 = .ok (.iload_n 1, 1) := by decide +kernel
theorem dX8_meetOf_61 : decode cX8_meetOf 61 = .ok (.iload_n 3, 1) := by decide +kernel
theorem dX8_meetOf_62 : decode cX8_meetOf 62 = .ok (.invokevirtual 111, 3) := by decide +kernel
theorem dX8_meetOf_65 : decode cX8_meetOf 65 = .ok (.ifCond .eq 5, 3) := by decide +kernel
theorem dX8_meetOf_68 : decode cX8_meetOf 68 = .ok (.iload_n 3, 1) := by decide +kernel
theorem dX8_meetOf_69 : decode cX8_meetOf 69 = .ok (.ireturn, 1) := by decide +kernel
theorem dX8_meetOf_70 : decode cX8_meetOf 70 = .ok (.iinc 3 1, 3) := by decide +kernel
theorem dX8_meetOf_73 : decode cX8_meetOf 73 = .ok (.goto (-71), 3) := by decide +kernel
theorem dX8_meetOf_76 : decode cX8_meetOf 76 = .ok (.iconst (-1), 1) := by decide +kernel
theorem dX8_meetOf_77 : decode cX8_meetOf 77 = .ok (.ireturn, 1) := by decide +kernel
theorem dX8_meet_0 : decode cX8_meet 0 = .ok (.aload_n 0, 1) := by decide +kernel
theorem dX8_meet_1 : decode cX8_meet 1 = .ok (.iconst 0, 1) := by decide +kernel
theorem dX8_meet_2 : decode cX8_meet 2 = .ok (.putfield 35, 3) := by decide +kernel
theorem dX8_meet_5 : decode cX8_meet 5 = .ok (.aload_n 0, 1) := by decide +kernel
theorem dX8_meet_6 : decode cX8_meet 6 = .ok (.iload_n 1, 1) := by decide +kernel
theorem dX8_meet_7 : decode cX8_meet 7 = .ok (.invokevirtual 78, 3) := by decide +kernel
theorem dX8_meet_10 : decode cX8_meet 10 = .ok (.ifCond .eq 11, 3) := by decide +kernel
theorem dX8_meet_13 : decode cX8_meet 13 = .ok (.aload_n 0, 1) := by decide +kernel
theorem dX8_meet_14 : decode cX8_meet 14 = .ok (.iload_n 2, 1) := by decide +kernel
theorem dX8_meet_15 : decode cX8_meet 15 = .ok (.invokevirtual 78, 3) := by decide +kernel
theorem dX8_meet_18 : decode cX8_meet 18 = .ok (.ifCond .ne 9, 3) := by decide +kernel
theorem dX8_meet_21 : decode cX8_meet 21 = .ok (.aload_n 0, 1) := by decide +kernel
theorem dX8_meet_22 : decode cX8_meet 22 = .ok (.iconst 1, 1) := by decide +kernel
theorem dX8_meet_23 : decode cX8_meet 23 = .ok (.invokevirtual 46, 3) := by decide +kernel
theorem dX8_meet_26 : decode cX8_meet 26 = .ok (.ireturn, 1) := by decide +kernel
theorem dX8_meet_27 : decode cX8_meet 27 = .ok (.iload_n 1, 1) := by decide +kernel
theorem dX8_meet_28 : decode cX8_meet 28 = .ok (.iload_n 2, 1) := by decide +kernel
theorem dX8_meet_29 : decode cX8_meet 29 = .ok (.if_icmp .ne 11, 3) := by decide +kernel
theorem dX8_meet_32 : decode cX8_meet 32 = .ok (.aload_n 0, 1) := by decide +kernel
theorem dX8_meet_33 : decode cX8_meet 33 = .ok (.iconst 2, 1) := by decide +kernel
theorem dX8_meet_34 : decode cX8_meet 34 = .ok (.invokevirtual 46, 3) := by decide +kernel
theorem dX8_meet_37 : decode cX8_meet 37 = .ok (.goto 9, 3) := by decide +kernel
theorem dX8_meet_40 : decode cX8_meet 40 = .ok (.aload_n 0, 1) := by decide +kernel
theorem dX8_meet_41 : decode cX8_meet 41 = .ok (.iload_n 1, 1) := by decide +kernel
theorem dX8_meet_42 : decode cX8_meet 42 = .ok (.iload_n 2, 1) := by decide +kernel
theorem dX8_meet_43 : decode cX8_meet 43 = .ok (.invokevirtual 214, 3) := by decide +kernel
theorem dX8_meet_46 : decode cX8_meet 46 = .ok (.ireturn, 1) := by decide +kernel
theorem dX8_meanOf_0 : decode cX8_meanOf 0 = .ok (.bipush 64, 2) := by decide +kernel
theorem dX8_meanOf_2 : decode cX8_meanOf 2 = .ok (.aload_n 0, 1) := by decide +kernel
theorem dX8_meanOf_3 : decode cX8_meanOf 3 = .ok (.invokevirtual 192, 3) := by decide +kernel
theorem dX8_meanOf_6 : decode cX8_meanOf 6 = .ok (.isub, 1) := by decide +kernel
theorem dX8_meanOf_7 : decode cX8_meanOf 7 = .ok (.istore_n 1, 1) := by decide +kernel
theorem dX8_meanOf_8 : decode cX8_meanOf 8 = .ok (.iload_n 1, 1) := by decide +kernel
theorem dX8_meanOf_9 : decode cX8_meanOf 9 = .ok (.ifCond .ne 7, 3) := by decide +kernel
theorem dX8_meanOf_12 : decode cX8_meanOf 12 = .ok (.dconst 0, 1) := by decide +kernel
theorem dX8_meanOf_13 : decode cX8_meanOf 13 = .ok (.goto 14, 3) := by decide +kernel
theorem dX8_meanOf_16 : decode cX8_meanOf 16 = .ok (.aload_n 0, 1) := by decide +kernel
theorem dX8_meanOf_17 : decode cX8_meanOf 17 = .ok (.iconst 0, 1) := by decide +kernel
theorem dX8_meanOf_18 : decode cX8_meanOf 18 = .ok (.bipush 63, 2) := by decide +kernel
theorem dX8_meanOf_20 : decode cX8_meanOf 20 = .ok (.invokevirtual 186, 3) := by decide +kernel
theorem dX8_meanOf_23 : decode cX8_meanOf 23 = .ok (.i2d, 1) := by decide +kernel
theorem dX8_meanOf_24 : decode cX8_meanOf 24 = .ok (.iload_n 1, 1) := by decide +kernel
theorem dX8_meanOf_25 : decode cX8_meanOf 25 = .ok (.i2d, 1) := by decide +kernel
theorem dX8_meanOf_26 : decode cX8_meanOf 26 = .ok (.ddiv, 1) := by decide +kernel
theorem dX8_meanOf_27 : decode cX8_meanOf 27 = .ok (.dreturn, 1) := by decide +kernel
theorem dX8_mean_0 : decode cX8_mean 0 = .ok (.aload_n 0, 1) := by decide +kernel
theorem dX8_mean_1 : decode cX8_mean 1 = .ok (.iconst 0, 1) := by decide +kernel
theorem dX8_mean_2 : decode cX8_mean 2 = .ok (.putfield 35, 3) := by decide +kernel
theorem dX8_mean_5 : decode cX8_mean 5 = .ok (.aload_n 0, 1) := by decide +kernel
theorem dX8_mean_6 : decode cX8_mean 6 = .ok (.invokevirtual 217, 3) := by decide +kernel
theorem dX8_mean_9 : decode cX8_mean 9 = .ok (.dreturn, 1) := by decide +kernel
theorem dX8_digest_0 : decode cX8_digest 0 = .ok (.aload_n 0, 1) := by decide +kernel
theorem dX8_digest_1 : decode cX8_digest 1 = .ok (.iconst 0, 1) := by decide +kernel
theorem dX8_digest_2 : decode cX8_digest 2 = .ok (.putfield 35, 3) := by decide +kernel
theorem dX8_digest_5 : decode cX8_digest 5 = .ok (.ldc2_w 221, 3) := by decide +kernel
theorem dX8_digest_8 : decode cX8_digest 8 = .ok (.lstore_n 1, 1) := by decide +kernel
theorem dX8_digest_9 : decode cX8_digest 9 = .ok (.iconst 0, 1) := by decide +kernel
theorem dX8_digest_10 : decode cX8_digest 10 = .ok (.istore_n 3, 1) := by decide +kernel
theorem dX8_digest_11 : decode cX8_digest 11 = .ok (.iload_n 3, 1) := by decide +kernel
theorem dX8_digest_12 : decode cX8_digest 12 = .ok (.bipush 9, 2) := by decide +kernel
theorem dX8_digest_14 : decode cX8_digest 14 = .ok (.if_icmp .ge 22, 3) := by decide +kernel
theorem dX8_digest_17 : decode cX8_digest 17 = .ok (.ldc2_w 223, 3) := by decide +kernel
theorem dX8_digest_20 : decode cX8_digest 20 = .ok (.lload_n 1, 1) := by decide +kernel
theorem dX8_digest_21 : decode cX8_digest 21 = .ok (.lmul, 1) := by decide +kernel
theorem dX8_digest_22 : decode cX8_digest 22 = .ok (.aload_n 0, 1) := by decide +kernel
theorem dX8_digest_23 : decode cX8_digest 23 = .ok (.iload_n 3, 1) := by decide +kernel
theorem dX8_digest_24 : decode cX8_digest 24 = .ok (.invokevirtual 199, 3) := by decide +kernel
theorem dX8_digest_27 : decode cX8_digest 27 = .ok (.i2l, 1) := by decide +kernel
theorem dX8_digest_28 : decode cX8_digest 28 = .ok (.ladd, 1) := by decide +kernel
theorem dX8_digest_29 : decode cX8_digest 29 = .ok (.lstore_n 1, 1) := by decide +kernel
theorem dX8_digest_30 : decode cX8_digest 30 = .ok (.iinc 3 1, 3) := by decide +kernel
theorem dX8_digest_33 : decode cX8_digest 33 = .ok (.goto (-22), 3) := by decide +kernel
theorem dX8_digest_36 : decode cX8_digest 36 = .ok (.iconst 0, 1) := by decide +kernel
theorem dX8_digest_37 : decode cX8_digest 37 = .ok (.istore_n 3, 1) := by decide +kernel
theorem dX8_digest_38 : decode cX8_digest 38 = .ok (.iload_n 3, 1) := by decide +kernel
theorem dX8_digest_39 : decode cX8_digest 39 = .ok (.aload_n 0, 1) := by decide +kernel
theorem dX8_digest_40 : decode cX8_digest 40 = .ok (.getfield 7, 3) := by decide +kernel
theorem dX8_digest_43 : decode cX8_digest 43 = .ok (.iconst 1, 1) := by decide +kernel
theorem dX8_digest_44 : decode cX8_digest 44 = .ok (.iaload, 1) := by decide +kernel
theorem dX8_digest_45 : decode cX8_digest 45 = .ok (.if_icmp .ge 71, 3) := by decide +kernel
theorem dX8_digest_48 : decode cX8_digest 48 = .ok (.iconst 0, 1) := by decide +kernel
theorem dX8_digest_49 : decode cX8_digest 49 = .ok (.istore 4, 2) := by decide +kernel
theorem dX8_digest_51 : decode cX8_digest 51 = .ok (.iload 4, 2) := by decide +kernel
theorem dX8_digest_53 : decode cX8_digest 53 = .ok (.bipush 9, 2) := by decide +kernel
theorem dX8_digest_55 : decode cX8_digest 55 = .ok (.if_icmp .ge 24, 3) := by decide +kernel
theorem dX8_digest_58 : decode cX8_digest 58 = .ok (.ldc2_w 223, 3) := by decide +kernel
theorem dX8_digest_61 : decode cX8_digest 61 = .ok (.lload_n 1, 1) := by decide +kernel
theorem dX8_digest_62 : decode cX8_digest 62 = .ok (.lmul, 1) := by decide +kernel
theorem dX8_digest_63 : decode cX8_digest 63 = .ok (.aload_n 0, 1) := by decide +kernel
theorem dX8_digest_64 : decode cX8_digest 64 = .ok (.iload_n 3, 1) := by decide +kernel
theorem dX8_digest_65 : decode cX8_digest 65 = .ok (.iload 4, 2) := by decide +kernel
theorem dX8_digest_67 : decode cX8_digest 67 = .ok (.invokevirtual 174, 3) := by decide +kernel
theorem dX8_digest_70 : decode cX8_digest 70 = .ok (.i2l, 1) := by decide +kernel
theorem dX8_digest_71 : decode cX8_digest 71 = .ok (.ladd, 1) := by decide +kernel
theorem dX8_digest_72 : decode cX8_digest 72 = .ok (.lstore_n 1, 1) := by decide +kernel
theorem dX8_digest_73 : decode cX8_digest 73 = .ok (.iinc 4 1, 3) := by decide +kernel
theorem dX8_digest_76 : decode cX8_digest 76 = .ok (.goto (-25), 3) := by decide +kernel
theorem dX8_digest_79 : decode cX8_digest 79 = .ok (.ldc2_w 223, 3) := by decide +kernel
theorem dX8_digest_82 : decode cX8_digest 82 = .ok (.lload_n 1, 1) := by decide +kernel
theorem dX8_digest_83 : decode cX8_digest 83 = .ok (.lmul, 1) := by decide +kernel
theorem dX8_digest_84 : decode cX8_digest 84 = .ok (.aload_n 0, 1) := by decide +kernel
theorem dX8_digest_85 : decode cX8_digest 85 = .ok (.iload_n 3, 1) := by decide +kernel
theorem dX8_digest_86 : decode cX8_digest 86 = .ok (.invokevirtual 208, 3) := by decide +kernel
theorem dX8_digest_89 : decode cX8_digest 89 = .ok (.i2l, 1) := by decide +kernel
theorem dX8_digest_90 : decode cX8_digest 90 = .ok (.ladd, 1) := by decide +kernel
theorem dX8_digest_91 : decode cX8_digest 91 = .ok (.lstore_n 1, 1) := by decide +kernel
theorem dX8_digest_92 : decode cX8_digest 92 = .ok (.iload_n 3, 1) := by decide +kernel
theorem dX8_digest_93 : decode cX8_digest 93 = .ok (.ifCond .le 17, 3) := by decide +kernel
theorem dX8_digest_96 : decode cX8_digest 96 = .ok (.ldc2_w 223, 3) := by decide +kernel
theorem dX8_digest_99 : decode cX8_digest 99 = .ok (.lload_n 1, 1) := by decide +kernel
theorem dX8_digest_100 : decode cX8_digest 100 = .ok (.lmul, 1) := by decide +kernel
theorem dX8_digest_101 : decode cX8_digest 101 = .ok (.aload_n 0, 1) := by decide +kernel
theorem dX8_digest_102 : decode cX8_digest 102 = .ok (.iload_n 3, 1) := by decide +kernel
theorem dX8_digest_103 : decode cX8_digest 103 = .ok (.iconst 0, 1) := by decide +kernel
theorem dX8_digest_104 : decode cX8_digest 104 = .ok (.invokevirtual 214, 3) := by decide +kernel
theorem dX8_digest_107 : decode cX8_digest 107 = .ok (.i2l, 1) := by decide +kernel
theorem dX8_digest_108 : decode cX8_digest 108 = .ok (.ladd, 1) := by decide +kernel
theorem dX8_digest_109 : decode cX8_digest 109 = .ok (.lstore_n 1, 1) := by decide +kernel
theorem dX8_digest_110 : decode cX8_digest 110 = .ok (.iinc 3 1, 3) := by decide +kernel
theorem dX8_digest_113 : decode cX8_digest 113 = .ok (.goto (-75), 3) := by decide +kernel
theorem dX8_digest_116 : decode cX8_digest 116 = .ok (.aload_n 0, 1) := by decide +kernel
theorem dX8_digest_117 : decode cX8_digest 117 = .ok (.invokevirtual 171, 3) := by decide +kernel
theorem dX8_digest_120 : decode cX8_digest 120 = .ok (.iconst 1, 1) := by decide +kernel
theorem dX8_digest_121 : decode cX8_digest 121 = .ok (.istore_n 3, 1) := by decide +kernel
theorem dX8_digest_122 : decode cX8_digest 122 = .ok (.iload_n 3, 1) := by decide +kernel
theorem dX8_digest_123 : decode cX8_digest 123 = .ok (.sipush 128, 3) := by decide +kernel
theorem dX8_digest_126 : decode cX8_digest 126 = .ok (.if_icmp .ge 86, 3) := by decide +kernel
theorem dX8_digest_129 : decode cX8_digest 129 = .ok (.aload_n 0, 1) := by decide +kernel
theorem dX8_digest_130 : decode cX8_digest 130 = .ok (.getfield 22, 3) := by decide +kernel
theorem dX8_digest_133 : decode cX8_digest 133 = .ok (.iload_n 3, 1) := by decide +kernel
theorem dX8_digest_134 : decode cX8_digest 134 = .ok (.iaload, 1) := by decide +kernel
theorem dX8_digest_135 : decode cX8_digest 135 = .ok (.iconst (-1), 1) := by decide +kernel
theorem dX8_digest_136 : decode cX8_digest 136 = .ok (.if_icmp .eq 70, 3) := by decide +kernel
theorem dX8_digest_139 : decode cX8_digest 139 = .ok (.ldc2_w 223, 3) := by decide +kernel
theorem dX8_digest_142 : decode cX8_digest 142 = .ok (.ldc2_w 223, 3) := by decide +kernel
theorem dX8_digest_145 : decode cX8_digest 145 = .ok (.lload_n 1, 1) := by decide +kernel
theorem dX8_digest_146 : decode cX8_digest 146 = .ok (.lmul, 1) := by decide +kernel
theorem dX8_digest_147 : decode cX8_digest 147 = .ok (.iload_n 3, 1) := by decide +kernel
theorem dX8_digest_148 : decode cX8_digest 148 = .ok (.i2l, 1) := by decide +kernel
theorem dX8_digest_149 : decode cX8_digest 149 = .ok (.ladd, 1) := by decide +kernel
theorem dX8_digest_150 : decode cX8_digest 150 = .ok (.lmul, 1) := by decide +kernel
theorem dX8_digest_151 : decode cX8_digest 151 = .ok (.aload_n 0, 1) := by decide +kernel
theorem dX8_digest_152 : decode cX8_digest 152 = .ok (.getfield 22, 3) := by decide +kernel
theorem dX8_digest_155 : decode cX8_digest 155 = .ok (.iload_n 3, 1) := by decide +kernel
theorem dX8_digest_156 : decode cX8_digest 156 = .ok (.iaload, 1) := by decide +kernel
theorem dX8_digest_157 : decode cX8_digest 157 = .ok (.i2l, 1) := by decide +kernel
theorem dX8_digest_158 : decode cX8_digest 158 = .ok (.ladd, 1) := by decide +kernel
theorem dX8_digest_159 : decode cX8_digest 159 = .ok (.lstore_n 1, 1) := by decide +kernel
theorem dX8_digest_160 : decode cX8_digest 160 = .ok (.ldc2_w 223, 3) := by decide +kernel
theorem dX8_digest_163 : decode cX8_digest 163 = .ok (.ldc2_w 223, 3) := by decide +kernel
theorem dX8_digest_166 : decode cX8_digest 166 = .ok (.lload_n 1, 1) := by decide +kernel
theorem dX8_digest_167 : decode cX8_digest 167 = .ok (.lmul, 1) := by decide +kernel
theorem dX8_digest_168 : decode cX8_digest 168 = .ok (.iload_n 3, 1) := by decide +kernel
theorem dX8_digest_169 : decode cX8_digest 169 = .ok (.invokestatic 99, 3) := by decide +kernel
theorem dX8_digest_172 : decode cX8_digest 172 = .ok (.i2l, 1) := by decide +kernel
theorem dX8_digest_173 : decode cX8_digest 173 = .ok (.ladd, 1) := by decide +kernel
theorem dX8_digest_174 : decode cX8_digest 174 = .ok (.lmul, 1) := by decide +kernel
theorem dX8_digest_175 : decode cX8_digest 175 = .ok (.iload_n 3, 1) := by decide +kernel
theorem dX8_digest_176 : decode cX8_digest 176 = .ok (.invokestatic 105, 3) := by decide +kernel
theorem dX8_digest_179 : decode cX8_digest 179 = .ok (.i2l, 1) := by decide +kernel
theorem dX8_digest_180 : decode cX8_digest 180 = .ok (.ladd, 1) := by decide +kernel
theorem dX8_digest_181 : decode cX8_digest 181 = .ok (.lstore_n 1, 1) := by decide +kernel
theorem dX8_digest_182 : decode cX8_digest 182 = .ok (.ldc2_w 223, 3) := by decide +kernel
theorem dX8_digest_185 : decode cX8_digest 185 = .ok (.ldc2_w 223, 3) := by decide +kernel
theorem dX8_digest_188 : decode cX8_digest 188 = .ok (.lload_n 1, 1) := by decide +kernel
theorem dX8_digest_189 : decode cX8_digest 189 = .ok (.lmul, 1) := by decide +kernel
theorem dX8_digest_190 : decode cX8_digest 190 = .ok (.iload_n 3, 1) := by decide +kernel
theorem dX8_digest_191 : decode cX8_digest 191 = .ok (.invokestatic 108, 3) := by decide +kernel
theorem dX8_digest_194 : decode cX8_digest 194 = .ok (.i2l, 1) := by decide +kernel
theorem dX8_digest_195 : decode cX8_digest 195 = .ok (.ladd, 1) := by decide +kernel
theorem dX8_digest_196 : decode cX8_digest 196 = .ok (.lmul, 1) := by decide +kernel
theorem dX8_digest_197 : decode cX8_digest 197 = .ok (.aload_n 0, 1) := by decide +kernel
theorem dX8_digest_198 : decode cX8_digest 198 = .ok (.getfield 25, 3) := by decide +kernel
theorem dX8_digest_201 : decode cX8_digest 201 = .ok (.iload_n 3, 1) := by decide +kernel
theorem dX8_digest_202 : decode cX8_digest 202 = .ok (.iaload, 1) := by decide +kernel
theorem dX8_digest_203 : decode cX8_digest 203 = .ok (.i2l, 1) := by decide +kernel
theorem dX8_digest_204 : decode cX8_digest 204 = .ok (.ladd, 1) := by decide +kernel
theorem dX8_digest_205 : decode cX8_digest 205 = .ok (.lstore_n 1, 1) := by decide +kernel
theorem dX8_digest_206 : decode cX8_digest 206 = .ok (.iinc 3 1, 3) := by decide +kernel
theorem dX8_digest_209 : decode cX8_digest 209 = .ok (.goto (-87), 3) := by decide +kernel
theorem dX8_digest_212 : decode cX8_digest 212 = .ok (.aload_n 0, 1) := by decide +kernel
theorem dX8_digest_213 : decode cX8_digest 213 = .ok (.iconst 0, 1) := by decide +kernel
theorem dX8_digest_214 : decode cX8_digest 214 = .ok (.iconst 3, 1) := by decide +kernel
theorem dX8_digest_215 : decode cX8_digest 215 = .ok (.invokevirtual 183, 3) := by decide +kernel
theorem dX8_digest_218 : decode cX8_digest 218 = .ok (.istore_n 3, 1) := by decide +kernel
theorem dX8_digest_219 : decode cX8_digest 219 = .ok (.iconst 0, 1) := by decide +kernel
theorem dX8_digest_220 : decode cX8_digest 220 = .ok (.istore 4, 2) := by decide +kernel
theorem dX8_digest_222 : decode cX8_digest 222 = .ok (.iload 4, 2) := by decide +kernel
theorem dX8_digest_224 : decode cX8_digest 224 = .ok (.iload_n 3, 1) := by decide +kernel
theorem dX8_digest_225 : decode cX8_digest 225 = .ok (.if_icmp .ge 40, 3) := by decide +kernel
theorem dX8_digest_228 : decode cX8_digest 228 = .ok (.iconst 0, 1) := by decide +kernel
theorem dX8_digest_229 : decode cX8_digest 229 = .ok (.istore 5, 2) := by decide +kernel
theorem dX8_digest_231 : decode cX8_digest 231 = .ok (.iload 5, 2) := by decide +kernel
theorem dX8_digest_233 : decode cX8_digest 233 = .ok (.iconst 3, 1) := by decide +kernel
theorem dX8_digest_234 : decode cX8_digest 234 = .ok (.if_icmp .ge 25, 3) := by decide +kernel
theorem dX8_digest_237 : decode cX8_digest 237 = .ok (.ldc2_w 223, 3) := by decide +kernel
theorem dX8_digest_240 : decode cX8_digest 240 = .ok (.lload_n 1, 1) := by decide +kernel
theorem dX8_digest_241 : decode cX8_digest 241 = .ok (.lmul, 1) := by decide +kernel
theorem dX8_digest_242 : decode cX8_digest 242 = .ok (.aload_n 0, 1) := by decide +kernel
theorem dX8_digest_243 : decode cX8_digest 243 = .ok (.iload 4, 2) := by decide +kernel
theorem dX8_digest_245 : decode cX8_digest 245 = .ok (.iload 5, 2) := by decide +kernel
theorem dX8_digest_247 : decode cX8_digest 247 = .ok (.invokevirtual 183, 3) := by decide +kernel
theorem dX8_digest_250 : decode cX8_digest 250 = .ok (.i2l, 1) := by decide +kernel
theorem dX8_digest_251 : decode cX8_digest 251 = .ok (.ladd, 1) := by decide +kernel
theorem dX8_digest_252 : decode cX8_digest 252 = .ok (.lstore_n 1, 1) := by decide +kernel
theorem dX8_digest_253 : decode cX8_digest 253 = .ok (.iinc 5 1, 3) := by decide +kernel
theorem dX8_digest_256 : decode cX8_digest 256 = .ok (.goto (-25), 3) := by decide +kernel
theorem dX8_digest_259 : decode cX8_digest 259 = .ok (.iinc 4 1, 3) := by decide +kernel
theorem dX8_digest_262 : decode cX8_digest 262 = .ok (.goto (-40), 3) := by decide +kernel
theorem dX8_digest_265 : decode cX8_digest 265 = .ok (.ldc2_w 223, 3) := by decide +kernel
theorem dX8_digest_268 : decode cX8_digest 268 = .ok (.lload_n 1, 1) := by decide +kernel
theorem dX8_digest_269 : decode cX8_digest 269 = .ok (.lmul, 1) := by decide +kernel
theorem dX8_digest_270 : decode cX8_digest 270 = .ok (.aload_n 0, 1) := by decide +kernel
theorem dX8_digest_271 : decode cX8_digest 271 = .ok (.iconst 0, 1) := by decide +kernel
theorem dX8_digest_272 : decode cX8_digest 272 = .ok (.bipush 63, 2) := by decide +kernel
theorem dX8_digest_274 : decode cX8_digest 274 = .ok (.invokevirtual 186, 3) := by decide +kernel
theorem dX8_digest_277 : decode cX8_digest 277 = .ok (.i2l, 1) := by decide +kernel
theorem dX8_digest_278 : decode cX8_digest 278 = .ok (.ladd, 1) := by decide +kernel
theorem dX8_digest_279 : decode cX8_digest 279 = .ok (.lstore_n 1, 1) := by decide +kernel
theorem dX8_digest_280 : decode cX8_digest 280 = .ok (.iconst 0, 1) := by decide +kernel
theorem dX8_digest_281 : decode cX8_digest 281 = .ok (.istore 4, 2) := by decide +kernel
theorem dX8_digest_283 : decode cX8_digest 283 = .ok (.iload 4, 2) := by decide +kernel
theorem dX8_digest_285 : decode cX8_digest 285 = .ok (.bipush 64, 2) := by decide +kernel
theorem dX8_digest_287 : decode cX8_digest 287 = .ok (.if_icmp .ge 53, 3) := by decide +kernel
theorem dX8_digest_290 : decode cX8_digest 290 = .ok (.ldc2_w 223, 3) := by decide +kernel
theorem dX8_digest_293 : decode cX8_digest 293 = .ok (.lload_n 1, 1) := by decide +kernel
theorem dX8_digest_294 : decode cX8_digest 294 = .ok (.lmul, 1) := by decide +kernel
theorem dX8_digest_295 : decode cX8_digest 295 = .ok (.aload_n 0, 1) := by decide +kernel
theorem dX8_digest_296 : decode cX8_digest 296 = .ok (.iload 4, 2) := by decide +kernel
theorem dX8_digest_298 : decode cX8_digest 298 = .ok (.bipush 50, 2) := by decide +kernel
theorem dX8_digest_300 : decode cX8_digest 300 = .ok (.iconst (-1), 1) := by decide +kernel
theorem dX8_digest_301 : decode cX8_digest 301 = .ok (.invokevirtual 60, 3) := by decide +kernel
theorem dX8_digest_304 : decode cX8_digest 304 = .ok (.i2l, 1) := by decide +kernel
theorem dX8_digest_305 : decode cX8_digest 305 = .ok (.ladd, 1) := by decide +kernel
theorem dX8_digest_306 : decode cX8_digest 306 = .ok (.lstore_n 1, 1) := by decide +kernel
theorem dX8_digest_307 : decode cX8_digest 307 = .ok (.ldc2_w 223, 3) := by decide +kernel
theorem dX8_digest_310 : decode cX8_digest 310 = .ok (.ldc2_w 223, 3) := by decide +kernel
theorem dX8_digest_313 : decode cX8_digest 313 = .ok (.lload_n 1, 1) := by decide +kernel
theorem dX8_digest_314 : decode cX8_digest 314 = .ok (.lmul, 1) := by decide +kernel
theorem dX8_digest_315 : decode cX8_digest 315 = .ok (.aload_n 0, 1) := by decide +kernel
theorem dX8_digest_316 : decode cX8_digest 316 = .ok (.iload 4, 2) := by decide +kernel
theorem dX8_digest_318 : decode cX8_digest 318 = .ok (.iconst 1, 1) := by decide +kernel
theorem dX8_digest_319 : decode cX8_digest 319 = .ok (.invokevirtual 177, 3) := by decide +kernel
theorem dX8_digest_322 : decode cX8_digest 322 = .ok (.i2l, 1) := by decide +kernel
theorem dX8_digest_323 : decode cX8_digest 323 = .ok (.ladd, 1) := by decide +kernel
theorem dX8_digest_324 : decode cX8_digest 324 = .ok (.lmul, 1) := by decide +kernel
theorem dX8_digest_325 : decode cX8_digest 325 = .ok (.aload_n 0, 1) := by decide +kernel
theorem dX8_digest_326 : decode cX8_digest 326 = .ok (.iload 4, 2) := by decide +kernel
theorem dX8_digest_328 : decode cX8_digest 328 = .ok (.invokevirtual 211, 3) := by decide +kernel
theorem dX8_digest_331 : decode cX8_digest 331 = .ok (.i2l, 1) := by decide +kernel
theorem dX8_digest_332 : decode cX8_digest 332 = .ok (.ladd, 1) := by decide +kernel
theorem dX8_digest_333 : decode cX8_digest 333 = .ok (.lstore_n 1, 1) := by decide +kernel
theorem dX8_digest_334 : decode cX8_digest 334 = .ok (.iinc 4 21, 3) := by decide +kernel
theorem dX8_digest_337 : decode cX8_digest 337 = .ok (.goto (-54), 3) := by decide +kernel
theorem dX8_digest_340 : decode cX8_digest 340 = .ok (.ldc2_w 223, 3) := by decide +kernel
theorem dX8_digest_343 : decode cX8_digest 343 = .ok (.ldc2_w 223, 3) := by decide +kernel
theorem dX8_digest_346 : decode cX8_digest 346 = .ok (.lload_n 1, 1) := by decide +kernel
theorem dX8_digest_347 : decode cX8_digest 347 = .ok (.lmul, 1) := by decide +kernel
theorem dX8_digest_348 : decode cX8_digest 348 = .ok (.aload_n 0, 1) := by decide +kernel
theorem dX8_digest_349 : decode cX8_digest 349 = .ok (.iconst 0, 1) := by decide +kernel
theorem dX8_digest_350 : decode cX8_digest 350 = .ok (.iconst 0, 1) := by decide +kernel
theorem dX8_digest_351 : decode cX8_digest 351 = .ok (.invokevirtual 202, 3) := by decide +kernel
theorem dX8_digest_354 : decode cX8_digest 354 = .ok (.i2l, 1) := by decide +kernel
theorem dX8_digest_355 : decode cX8_digest 355 = .ok (.ladd, 1) := by decide +kernel
theorem dX8_digest_356 : decode cX8_digest 356 = .ok (.lmul, 1) := by decide +kernel
theorem dX8_digest_357 : decode cX8_digest 357 = .ok (.aload_n 0, 1) := by decide +kernel
theorem dX8_digest_358 : decode cX8_digest 358 = .ok (.iconst 1, 1) := by decide +kernel
theorem dX8_digest_359 : decode cX8_digest 359 = .ok (.invokevirtual 205, 3) := by decide +kernel
theorem dX8_digest_362 : decode cX8_digest 362 = .ok (.i2l, 1) := by decide +kernel
theorem dX8_digest_363 : decode cX8_digest 363 = .ok (.ladd, 1) := by decide +kernel
theorem dX8_digest_364 : decode cX8_digest 364 = .ok (.lstore_n 1, 1) := by decide +kernel
theorem dX8_digest_365 : decode cX8_digest 365 = .ok (.ldc2_w 223, 3) := by decide +kernel
theorem dX8_digest_368 : decode cX8_digest 368 = .ok (.ldc2_w 223, 3) := by decide +kernel
theorem dX8_digest_371 : decode cX8_digest 371 = .ok (.lload_n 1, 1) := by decide +kernel
theorem dX8_digest_372 : decode cX8_digest 372 = .ok (.lmul, 1) := by decide +kernel
theorem dX8_digest_373 : decode cX8_digest 373 = .ok (.aload_n 0, 1) := by decide +kernel
theorem dX8_digest_374 : decode cX8_digest 374 = .ok (.invokevirtual 217, 3) := by decide +kernel
theorem dX8_digest_377 : decode cX8_digest 377 = .ok (.invokestatic 225, 3) := by decide +kernel
theorem dX8_digest_380 : decode cX8_digest 380 = .ok (.ladd, 1) := by decide +kernel
theorem dX8_digest_381 : decode cX8_digest 381 = .ok (.lmul, 1) := by decide +kernel
theorem dX8_digest_382 : decode cX8_digest 382 = .ok (.aload_n 0, 1) := by decide +kernel
theorem dX8_digest_383 : decode cX8_digest 383 = .ok (.getfield 122, 3) := by decide +kernel
theorem dX8_digest_386 : decode cX8_digest 386 = .ok (.i2l, 1) := by decide +kernel
theorem dX8_digest_387 : decode cX8_digest 387 = .ok (.ladd, 1) := by decide +kernel
theorem dX8_digest_388 : decode cX8_digest 388 = .ok (.lstore_n 1, 1) := by decide +kernel
theorem dX8_digest_389 : decode cX8_digest 389 = .ok (.iconst 0, 1) := by decide +kernel
theorem dX8_digest_390 : decode cX8_digest 390 = .ok (.istore 4, 2) := by decide +kernel
theorem dX8_digest_392 : decode cX8_digest 392 = .ok (.iload 4, 2) := by decide +kernel
theorem dX8_digest_394 : decode cX8_digest 394 = .ok (.aload_n 0, 1) := by decide +kernel
theorem dX8_digest_395 : decode cX8_digest 395 = .ok (.getfield 122, 3) := by decide +kernel
theorem dX8_digest_398 : decode cX8_digest 398 = .ok (.if_icmp .ge 24, 3) := by decide +kernel
theorem dX8_digest_401 : decode cX8_digest 401 = .ok (.ldc2_w 223, 3) := by decide +kernel
theorem dX8_digest_404 : decode cX8_digest 404 = .ok (.lload_n 1, 1) := by decide +kernel
theorem dX8_digest_405 : decode cX8_digest 405 = .ok (.lmul, 1) := by decide +kernel
theorem dX8_digest_406 : decode cX8_digest 406 = .ok (.aload_n 0, 1) := by decide +kernel
theorem dX8_digest_407 : decode cX8_digest 407 = .ok (.getfield 16, 3) := by decide +kernel
theorem dX8_digest_410 : decode cX8_digest 410 = .ok (.iload 4, 2) := by decide +kernel
theorem dX8_digest_412 : decode cX8_digest 412 = .ok (.iaload, 1) := by decide +kernel
theorem dX8_digest_413 : decode cX8_digest 413 = .ok (.i2l, 1) := by decide +kernel
theorem dX8_digest_414 : decode cX8_digest 414 = .ok (.ladd, 1) := by decide +kernel
theorem dX8_digest_415 : decode cX8_digest 415 = .ok (.lstore_n 1, 1) := by decide +kernel
theorem dX8_digest_416 : decode cX8_digest 416 = .ok (.iinc 4 1, 3) := by decide +kernel
theorem dX8_digest_419 : decode cX8_digest 419 = .ok (.goto (-27), 3) := by decide +kernel
theorem dX8_digest_422 : decode cX8_digest 422 = .ok (.lload_n 1, 1) := by decide +kernel
theorem dX8_digest_423 : decode cX8_digest 423 = .ok (.lreturn, 1) := by decide +kernel
theorem dJxe99ae_isNaN_b9ae7_0 : decode cJxe99ae_isNaN_b9ae7 0 = .ok (.dload_n 0, 1) := by decide +kernel
theorem dJxe99ae_isNaN_b9ae7_1 : decode cJxe99ae_isNaN_b9ae7 1 = .ok (.dload_n 0, 1) := by decide +kernel
theorem dJxe99ae_isNaN_b9ae7_2 : decode cJxe99ae_isNaN_b9ae7 2 = .ok (.dcmp .l, 1) := by decide +kernel
theorem dJxe99ae_isNaN_b9ae7_3 : decode cJxe99ae_isNaN_b9ae7 3 = .ok (.ifCond .eq 7, 3) := by decide +kernel
theorem dJxe99ae_isNaN_b9ae7_6 : decode cJxe99ae_isNaN_b9ae7 6 = .ok (.iconst 1, 1) := by decide +kernel
theorem dJxe99ae_isNaN_b9ae7_7 : decode cJxe99ae_isNaN_b9ae7 7 = .ok (.goto 4, 3) := by decide +kernel
theorem dJxe99ae_isNaN_b9ae7_10 : decode cJxe99ae_isNaN_b9ae7 10 = .ok (.iconst 0, 1) := by decide +kernel
theorem dJxe99ae_isNaN_b9ae7_11 : decode cJxe99ae_isNaN_b9ae7 11 = .ok (.ireturn, 1) := by decide +kernel
theorem dJxe99ae_doubleToLongBits_ccdee_0 : decode cJxe99ae_doubleToLongBits_ccdee 0 = .ok (.dload_n 0, 1) := by decide +kernel
theorem dJxe99ae_doubleToLongBits_ccdee_1 : decode cJxe99ae_doubleToLongBits_ccdee 1 = .ok (.invokestatic 122, 3) := by decide +kernel
theorem dJxe99ae_doubleToLongBits_ccdee_4 : decode cJxe99ae_doubleToLongBits_ccdee 4 = .ok (.ifCond .ne 8, 3) := by decide +kernel
theorem dJxe99ae_doubleToLongBits_ccdee_7 : decode cJxe99ae_doubleToLongBits_ccdee 7 = .ok (.dload_n 0, 1) := by decide +kernel
theorem dJxe99ae_doubleToLongBits_ccdee_8 : decode cJxe99ae_doubleToLongBits_ccdee 8 = .ok (.invokestatic 134, 3) := by decide +kernel
theorem dJxe99ae_doubleToLongBits_ccdee_11 : decode cJxe99ae_doubleToLongBits_ccdee 11 = .ok (.lreturn, 1) := by decide +kernel
theorem dJxe99ae_doubleToLongBits_ccdee_12 : decode cJxe99ae_doubleToLongBits_ccdee 12 = .ok (.ldc2_w 137, 3) := by decide +kernel
theorem dJxe99ae_doubleToLongBits_ccdee_15 : decode cJxe99ae_doubleToLongBits_ccdee 15 = .ok (.lreturn, 1) := by decide +kernel
theorem dJ6_bitCount_0f7a4_0 : decode cJ6_bitCount_0f7a4 0 = .ok (.iload_n 0, 1) := by decide +kernel
theorem dJ6_bitCount_0f7a4_1 : decode cJ6_bitCount_0f7a4 1 = .ok (.iload_n 0, 1) := by decide +kernel
theorem dJ6_bitCount_0f7a4_2 : decode cJ6_bitCount_0f7a4 2 = .ok (.iconst 1, 1) := by decide +kernel
theorem dJ6_bitCount_0f7a4_3 : decode cJ6_bitCount_0f7a4 3 = .ok (.iushr, 1) := by decide +kernel
theorem dJ6_bitCount_0f7a4_4 : decode cJ6_bitCount_0f7a4 4 = .ok (.ldc_w 265, 3) := by decide +kernel
theorem dJ6_bitCount_0f7a4_7 : decode cJ6_bitCount_0f7a4 7 = .ok (.iand, 1) := by decide +kernel
theorem dJ6_bitCount_0f7a4_8 : decode cJ6_bitCount_0f7a4 8 = .ok (.isub, 1) := by decide +kernel
theorem dJ6_bitCount_0f7a4_9 : decode cJ6_bitCount_0f7a4 9 = .ok (.istore_n 0, 1) := by decide +kernel
theorem dJ6_bitCount_0f7a4_10 : decode cJ6_bitCount_0f7a4 10 = .ok (.iload_n 0, 1) := by decide +kernel
theorem dJ6_bitCount_0f7a4_11 : decode cJ6_bitCount_0f7a4 11 = .ok (.ldc_w 266, 3) := by decide +kernel
theorem dJ6_bitCount_0f7a4_14 : decode cJ6_bitCount_0f7a4 14 = .ok (.iand, 1) := by decide +kernel
theorem dJ6_bitCount_0f7a4_15 : decode cJ6_bitCount_0f7a4 15 = .ok (.iload_n 0, 1) := by decide +kernel
theorem dJ6_bitCount_0f7a4_16 : decode cJ6_bitCount_0f7a4 16 = .ok (.iconst 2, 1) := by decide +kernel
theorem dJ6_bitCount_0f7a4_17 : decode cJ6_bitCount_0f7a4 17 = .ok (.iushr, 1) := by decide +kernel
theorem dJ6_bitCount_0f7a4_18 : decode cJ6_bitCount_0f7a4 18 = .ok (.ldc_w 266, 3) := by decide +kernel
theorem dJ6_bitCount_0f7a4_21 : decode cJ6_bitCount_0f7a4 21 = .ok (.iand, 1) := by decide +kernel
theorem dJ6_bitCount_0f7a4_22 : decode cJ6_bitCount_0f7a4 22 = .ok (.iadd, 1) := by decide +kernel
theorem dJ6_bitCount_0f7a4_23 : decode cJ6_bitCount_0f7a4 23 = .ok (.istore_n 0, 1) := by decide +kernel
theorem dJ6_bitCount_0f7a4_24 : decode cJ6_bitCount_0f7a4 24 = .ok (.iload_n 0, 1) := by decide +kernel
theorem dJ6_bitCount_0f7a4_25 : decode cJ6_bitCount_0f7a4 25 = .ok (.iload_n 0, 1) := by decide +kernel
theorem dJ6_bitCount_0f7a4_26 : decode cJ6_bitCount_0f7a4 26 = .ok (.iconst 4, 1) := by decide +kernel
theorem dJ6_bitCount_0f7a4_27 : decode cJ6_bitCount_0f7a4 27 = .ok (.iushr, 1) := by decide +kernel
theorem dJ6_bitCount_0f7a4_28 : decode cJ6_bitCount_0f7a4 28 = .ok (.iadd, 1) := by decide +kernel
theorem dJ6_bitCount_0f7a4_29 : decode cJ6_bitCount_0f7a4 29 = .ok (.ldc_w 267, 3) := by decide +kernel
theorem dJ6_bitCount_0f7a4_32 : decode cJ6_bitCount_0f7a4 32 = .ok (.iand, 1) := by decide +kernel
theorem dJ6_bitCount_0f7a4_33 : decode cJ6_bitCount_0f7a4 33 = .ok (.istore_n 0, 1) := by decide +kernel
theorem dJ6_bitCount_0f7a4_34 : decode cJ6_bitCount_0f7a4 34 = .ok (.iload_n 0, 1) := by decide +kernel
theorem dJ6_bitCount_0f7a4_35 : decode cJ6_bitCount_0f7a4 35 = .ok (.iload_n 0, 1) := by decide +kernel
theorem dJ6_bitCount_0f7a4_36 : decode cJ6_bitCount_0f7a4 36 = .ok (.bipush 8, 2) := by decide +kernel
theorem dJ6_bitCount_0f7a4_38 : decode cJ6_bitCount_0f7a4 38 = .ok (.iushr, 1) := by decide +kernel
theorem dJ6_bitCount_0f7a4_39 : decode cJ6_bitCount_0f7a4 39 = .ok (.iadd, 1) := by decide +kernel
theorem dJ6_bitCount_0f7a4_40 : decode cJ6_bitCount_0f7a4 40 = .ok (.istore_n 0, 1) := by decide +kernel
theorem dJ6_bitCount_0f7a4_41 : decode cJ6_bitCount_0f7a4 41 = .ok (.iload_n 0, 1) := by decide +kernel
theorem dJ6_bitCount_0f7a4_42 : decode cJ6_bitCount_0f7a4 42 = .ok (.iload_n 0, 1) := by decide +kernel
theorem dJ6_bitCount_0f7a4_43 : decode cJ6_bitCount_0f7a4 43 = .ok (.bipush 16, 2) := by decide +kernel
theorem dJ6_bitCount_0f7a4_45 : decode cJ6_bitCount_0f7a4 45 = .ok (.iushr, 1) := by decide +kernel
theorem dJ6_bitCount_0f7a4_46 : decode cJ6_bitCount_0f7a4 46 = .ok (.iadd, 1) := by decide +kernel
theorem dJ6_bitCount_0f7a4_47 : decode cJ6_bitCount_0f7a4 47 = .ok (.istore_n 0, 1) := by decide +kernel
theorem dJ6_bitCount_0f7a4_48 : decode cJ6_bitCount_0f7a4 48 = .ok (.iload_n 0, 1) := by decide +kernel
theorem dJ6_bitCount_0f7a4_49 : decode cJ6_bitCount_0f7a4 49 = .ok (.bipush 63, 2) := by decide +kernel
theorem dJ6_bitCount_0f7a4_51 : decode cJ6_bitCount_0f7a4 51 = .ok (.iand, 1) := by decide +kernel
theorem dJ6_bitCount_0f7a4_52 : decode cJ6_bitCount_0f7a4 52 = .ok (.ireturn, 1) := by decide +kernel
theorem dJ9_max_7cf53_0 : decode cJ9_max_7cf53 0 = .ok (.iload_n 0, 1) := by decide +kernel
theorem dJ9_max_7cf53_1 : decode cJ9_max_7cf53 1 = .ok (.iload_n 1, 1) := by decide +kernel
theorem dJ9_max_7cf53_2 : decode cJ9_max_7cf53 2 = .ok (.if_icmp .lt 7, 3) := by decide +kernel
theorem dJ9_max_7cf53_5 : decode cJ9_max_7cf53 5 = .ok (.iload_n 0, 1) := by decide +kernel
theorem dJ9_max_7cf53_6 : decode cJ9_max_7cf53 6 = .ok (.goto 4, 3) := by decide +kernel
theorem dJ9_max_7cf53_9 : decode cJ9_max_7cf53 9 = .ok (.iload_n 1, 1) := by decide +kernel
theorem dJ9_max_7cf53_10 : decode cJ9_max_7cf53 10 = .ok (.ireturn, 1) := by decide +kernel
theorem dJ9_min_7cf53_0 : decode cJ9_min_7cf53 0 = .ok (.iload_n 0, 1) := by decide +kernel
theorem dJ9_min_7cf53_1 : decode cJ9_min_7cf53 1 = .ok (.iload_n 1, 1) := by decide +kernel
theorem dJ9_min_7cf53_2 : decode cJ9_min_7cf53 2 = .ok (.if_icmp .gt 7, 3) := by decide +kernel
theorem dJ9_min_7cf53_5 : decode cJ9_min_7cf53 5 = .ok (.iload_n 0, 1) := by decide +kernel
theorem dJ9_min_7cf53_6 : decode cJ9_min_7cf53 6 = .ok (.goto 4, 3) := by decide +kernel
theorem dJ9_min_7cf53_9 : decode cJ9_min_7cf53 9 = .ok (.iload_n 1, 1) := by decide +kernel
theorem dJ9_min_7cf53_10 : decode cJ9_min_7cf53 10 = .ok (.ireturn, 1) := by decide +kernel
theorem dJ7_fill_53178_0 : decode cJ7_fill_53178 0 = .ok (.iconst 0, 1) := by decide +kernel
theorem dJ7_fill_53178_1 : decode cJ7_fill_53178 1 = .ok (.istore_n 2, 1) := by decide +kernel
theorem dJ7_fill_53178_2 : decode cJ7_fill_53178 2 = .ok (.aload_n 0, 1) := by decide +kernel
theorem dJ7_fill_53178_3 : decode cJ7_fill_53178 3 = .ok (.arraylength, 1) := by decide +kernel
theorem dJ7_fill_53178_4 : decode cJ7_fill_53178 4 = .ok (.istore_n 3, 1) := by decide +kernel
theorem dJ7_fill_53178_5 : decode cJ7_fill_53178 5 = .ok (.iload_n 2, 1) := by decide +kernel
theorem dJ7_fill_53178_6 : decode cJ7_fill_53178 6 = .ok (.iload_n 3, 1) := by decide +kernel
theorem dJ7_fill_53178_7 : decode cJ7_fill_53178 7 = .ok (.if_icmp .ge 13, 3) := by decide +kernel
theorem dJ7_fill_53178_10 : decode cJ7_fill_53178 10 = .ok (.aload_n 0, 1) := by decide +kernel
theorem dJ7_fill_53178_11 : decode cJ7_fill_53178 11 = .ok (.iload_n 2, 1) := by decide +kernel
theorem dJ7_fill_53178_12 : decode cJ7_fill_53178 12 = .ok (.iload_n 1, 1) := by decide +kernel
theorem dJ7_fill_53178_13 : decode cJ7_fill_53178 13 = .ok (.iastore, 1) := by decide +kernel
theorem dJ7_fill_53178_14 : decode cJ7_fill_53178 14 = .ok (.iinc 2 1, 3) := by decide +kernel
theorem dJ7_fill_53178_17 : decode cJ7_fill_53178 17 = .ok (.goto (-12), 3) := by decide +kernel
theorem dJ7_fill_53178_20 : decode cJ7_fill_53178 20 = .ok (.return_, 1) := by decide +kernel
theorem dL_add_0 : decode cL_add 0 = .ok (.aload_n 3, 1) := by decide +kernel
theorem dL_add_1 : decode cL_add 1 = .ok (.iconst 0, 1) := by decide +kernel
theorem dL_add_2 : decode cL_add 2 = .ok (.aload_n 0, 1) := by decide +kernel
theorem dL_add_3 : decode cL_add 3 = .ok (.iload_n 1, 1) := by decide +kernel
theorem dL_add_4 : decode cL_add 4 = .ok (.iload_n 2, 1) := by decide +kernel
theorem dL_add_5 : decode cL_add 5 = .ok (.invokevirtual 7, 3) := by decide +kernel
theorem dL_add_8 : decode cL_add 8 = .ok (.i2l, 1) := by decide +kernel
theorem dL_add_9 : decode cL_add 9 = .ok (.lastore, 1) := by decide +kernel
theorem dL_add_10 : decode cL_add 10 = .ok (.goto 11, 3) := by decide +kernel
theorem dL_add_13 : decode cL_add 13 = .ok (.astore 4, 2) := by decide +kernel
theorem dL_add_15 : decode cL_add 15 = .ok (.iconst 1, 1) := by decide +kernel
theorem dL_add_16 : decode cL_add 16 = .ok (.ireturn, 1) := by decide +kernel
theorem dL_add_17 : decode cL_add 17 = .ok (.astore 4, 2) := by decide +kernel
theorem dL_add_19 : decode cL_add 19 = .ok (.iconst 2, 1) := by decide +kernel
theorem dL_add_20 : decode cL_add 20 = .ok (.ireturn, 1) := by decide +kernel
theorem dL_add_21 : decode cL_add 21 = .ok (.iconst 0, 1) := by decide +kernel
theorem dL_add_22 : decode cL_add 22 = .ok (.ireturn, 1) := by decide +kernel
theorem dL_span_0 : decode cL_span 0 = .ok (.aload 4, 2) := by decide +kernel
theorem dL_span_2 : decode cL_span 2 = .ok (.iconst 0, 1) := by decide +kernel
theorem dL_span_3 : decode cL_span 3 = .ok (.aload_n 0, 1) := by decide +kernel
theorem dL_span_4 : decode cL_span 4 = .ok (.iload_n 1, 1) := by decide +kernel
theorem dL_span_5 : decode cL_span 5 = .ok (.iload_n 2, 1) := by decide +kernel
theorem dL_span_6 : decode cL_span 6 = .ok (.iload_n 3, 1) := by decide +kernel
theorem dL_span_7 : decode cL_span 7 = .ok (.invokevirtual 17, 3) := by decide +kernel
theorem dL_span_10 : decode cL_span 10 = .ok (.i2l, 1) := by decide +kernel
theorem dL_span_11 : decode cL_span 11 = .ok (.lastore, 1) := by decide +kernel
theorem dL_span_12 : decode cL_span 12 = .ok (.goto 11, 3) := by decide +kernel
theorem dL_span_15 : decode cL_span 15 = .ok (.astore 5, 2) := by decide +kernel
theorem dL_span_17 : decode cL_span 17 = .ok (.iconst 1, 1) := by decide +kernel
theorem dL_span_18 : decode cL_span 18 = .ok (.ireturn, 1) := by decide +kernel
theorem dL_span_19 : decode cL_span 19 = .ok (.astore 5, 2) := by decide +kernel
theorem dL_span_21 : decode cL_span 21 = .ok (.iconst 2, 1) := by decide +kernel
theorem dL_span_22 : decode cL_span 22 = .ok (.ireturn, 1) := by decide +kernel
theorem dL_span_23 : decode cL_span 23 = .ok (.iconst 0, 1) := by decide +kernel
theorem dL_span_24 : decode cL_span 24 = .ok (.ireturn, 1) := by decide +kernel
theorem dL_live_0 : decode cL_live 0 = .ok (.aload 4, 2) := by decide +kernel
theorem dL_live_2 : decode cL_live 2 = .ok (.iconst 0, 1) := by decide +kernel
theorem dL_live_3 : decode cL_live 3 = .ok (.aload_n 0, 1) := by decide +kernel
theorem dL_live_4 : decode cL_live 4 = .ok (.iload_n 1, 1) := by decide +kernel
theorem dL_live_5 : decode cL_live 5 = .ok (.iload_n 2, 1) := by decide +kernel
theorem dL_live_6 : decode cL_live 6 = .ok (.iload_n 3, 1) := by decide +kernel
theorem dL_live_7 : decode cL_live 7 = .ok (.invokevirtual 23, 3) := by decide +kernel
theorem dL_live_10 : decode cL_live 10 = .ok (.i2l, 1) := by decide +kernel
theorem dL_live_11 : decode cL_live 11 = .ok (.lastore, 1) := by decide +kernel
theorem dL_live_12 : decode cL_live 12 = .ok (.goto 11, 3) := by decide +kernel
theorem dL_live_15 : decode cL_live 15 = .ok (.astore 5, 2) := by decide +kernel
theorem dL_live_17 : decode cL_live 17 = .ok (.iconst 1, 1) := by decide +kernel
theorem dL_live_18 : decode cL_live 18 = .ok (.ireturn, 1) := by decide +kernel
theorem dL_live_19 : decode cL_live 19 = .ok (.astore 5, 2) := by decide +kernel
theorem dL_live_21 : decode cL_live 21 = .ok (.iconst 2, 1) := by decide +kernel
theorem dL_live_22 : decode cL_live 22 = .ok (.ireturn, 1) := by decide +kernel
theorem dL_live_23 : decode cL_live 23 = .ok (.iconst 0, 1) := by decide +kernel
theorem dL_live_24 : decode cL_live 24 = .ok (.ireturn, 1) := by decide +kernel
theorem dL_lift_0 : decode cL_lift 0 = .ok (.aload_n 3, 1) := by decide +kernel
theorem dL_lift_1 : decode cL_lift 1 = .ok (.iconst 0, 1) := by decide +kernel
theorem dL_lift_2 : decode cL_lift 2 = .ok (.aload_n 0, 1) := by decide +kernel
theorem dL_lift_3 : decode cL_lift 3 = .ok (.iload_n 1, 1) := by decide +kernel
theorem dL_lift_4 : decode cL_lift 4 = .ok (.iload_n 2, 1) := by decide +kernel
theorem dL_lift_5 : decode cL_lift 5 = .ok (.invokevirtual 26, 3) := by decide +kernel
theorem dL_lift_8 : decode cL_lift 8 = .ok (.i2l, 1) := by decide +kernel
theorem dL_lift_9 : decode cL_lift 9 = .ok (.lastore, 1) := by decide +kernel
theorem dL_lift_10 : decode cL_lift 10 = .ok (.goto 15, 3) := by decide +kernel
theorem dL_lift_13 : decode cL_lift 13 = .ok (.astore 4, 2) := by decide +kernel
theorem dL_lift_15 : decode cL_lift 15 = .ok (.iconst 1, 1) := by decide +kernel
theorem dL_lift_16 : decode cL_lift 16 = .ok (.ireturn, 1) := by decide +kernel
theorem dL_lift_17 : decode cL_lift 17 = .ok (.astore 4, 2) := by decide +kernel
theorem dL_lift_19 : decode cL_lift 19 = .ok (.iconst 2, 1) := by decide +kernel
theorem dL_lift_20 : decode cL_lift 20 = .ok (.ireturn, 1) := by decide +kernel
theorem dL_lift_21 : decode cL_lift 21 = .ok (.astore 4, 2) := by decide +kernel
theorem dL_lift_23 : decode cL_lift 23 = .ok (.iconst 3, 1) := by decide +kernel
theorem dL_lift_24 : decode cL_lift 24 = .ok (.ireturn, 1) := by decide +kernel
theorem dL_lift_25 : decode cL_lift 25 = .ok (.iconst 0, 1) := by decide +kernel
theorem dL_lift_26 : decode cL_lift 26 = .ok (.ireturn, 1) := by decide +kernel
theorem dL_turn_0 : decode cL_turn 0 = .ok (.aload 4, 2) := by decide +kernel
theorem dL_turn_2 : decode cL_turn 2 = .ok (.iconst 0, 1) := by decide +kernel
theorem dL_turn_3 : decode cL_turn 3 = .ok (.aload_n 0, 1) := by decide +kernel
theorem dL_turn_4 : decode cL_turn 4 = .ok (.iload_n 1, 1) := by decide +kernel
theorem dL_turn_5 : decode cL_turn 5 = .ok (.iload_n 2, 1) := by decide +kernel
theorem dL_turn_6 : decode cL_turn 6 = .ok (.iload_n 3, 1) := by decide +kernel
theorem dL_turn_7 : decode cL_turn 7 = .ok (.invokevirtual 29, 3) := by decide +kernel
theorem dL_turn_10 : decode cL_turn 10 = .ok (.i2l, 1) := by decide +kernel
theorem dL_turn_11 : decode cL_turn 11 = .ok (.lastore, 1) := by decide +kernel
theorem dL_turn_12 : decode cL_turn 12 = .ok (.goto 15, 3) := by decide +kernel
theorem dL_turn_15 : decode cL_turn 15 = .ok (.astore 5, 2) := by decide +kernel
theorem dL_turn_17 : decode cL_turn 17 = .ok (.iconst 1, 1) := by decide +kernel
theorem dL_turn_18 : decode cL_turn 18 = .ok (.ireturn, 1) := by decide +kernel
theorem dL_turn_19 : decode cL_turn 19 = .ok (.astore 5, 2) := by decide +kernel
theorem dL_turn_21 : decode cL_turn 21 = .ok (.iconst 2, 1) := by decide +kernel
theorem dL_turn_22 : decode cL_turn 22 = .ok (.ireturn, 1) := by decide +kernel
theorem dL_turn_23 : decode cL_turn 23 = .ok (.astore 5, 2) := by decide +kernel
theorem dL_turn_25 : decode cL_turn 25 = .ok (.iconst 3, 1) := by decide +kernel
theorem dL_turn_26 : decode cL_turn 26 = .ok (.ireturn, 1) := by decide +kernel
theorem dL_turn_27 : decode cL_turn 27 = .ok (.iconst 0, 1) := by decide +kernel
theorem dL_turn_28 : decode cL_turn 28 = .ok (.ireturn, 1) := by decide +kernel
theorem dL_remove_0 : decode cL_remove 0 = .ok (.aload_n 2, 1) := by decide +kernel
theorem dL_remove_1 : decode cL_remove 1 = .ok (.iconst 0, 1) := by decide +kernel
theorem dL_remove_2 : decode cL_remove 2 = .ok (.aload_n 0, 1) := by decide +kernel
theorem dL_remove_3 : decode cL_remove 3 = .ok (.iload_n 1, 1) := by decide +kernel
theorem dL_remove_4 : decode cL_remove 4 = .ok (.invokevirtual 32, 3) := by decide +kernel
theorem dL_remove_7 : decode cL_remove 7 = .ok (.i2l, 1) := by decide +kernel
theorem dL_remove_8 : decode cL_remove 8 = .ok (.lastore, 1) := by decide +kernel
theorem dL_remove_9 : decode cL_remove 9 = .ok (.goto 6, 3) := by decide +kernel
theorem dL_remove_12 : decode cL_remove 12 = .ok (.astore_n 3, 1) := by decide +kernel
theorem dL_remove_13 : decode cL_remove 13 = .ok (.iconst 1, 1) := by decide +kernel
theorem dL_remove_14 : decode cL_remove 14 = .ok (.ireturn, 1) := by decide +kernel
theorem dL_remove_15 : decode cL_remove 15 = .ok (.iconst 0, 1) := by decide +kernel
theorem dL_remove_16 : decode cL_remove 16 = .ok (.ireturn, 1) := by decide +kernel
theorem dL_go_0 : decode cL_go 0 = .ok (.aload_n 2, 1) := by decide +kernel
theorem dL_go_1 : decode cL_go 1 = .ok (.iconst 0, 1) := by decide +kernel
theorem dL_go_2 : decode cL_go 2 = .ok (.aload_n 0, 1) := by decide +kernel
theorem dL_go_3 : decode cL_go 3 = .ok (.iload_n 1, 1) := by decide +kernel
theorem dL_go_4 : decode cL_go 4 = .ok (.invokevirtual 36, 3) := by decide +kernel
theorem dL_go_7 : decode cL_go 7 = .ok (.i2l, 1) := by decide +kernel
theorem dL_go_8 : decode cL_go 8 = .ok (.lastore, 1) := by decide +kernel
theorem dL_go_9 : decode cL_go 9 = .ok (.goto 6, 3) := by decide +kernel
theorem dL_go_12 : decode cL_go 12 = .ok (.astore_n 3, 1) := by decide +kernel
theorem dL_go_13 : decode cL_go 13 = .ok (.iconst 1, 1) := by decide +kernel
theorem dL_go_14 : decode cL_go 14 = .ok (.ireturn, 1) := by decide +kernel
theorem dL_go_15 : decode cL_go 15 = .ok (.iconst 0, 1) := by decide +kernel
theorem dL_go_16 : decode cL_go 16 = .ok (.ireturn, 1) := by decide +kernel
theorem dL_append_0 : decode cL_append 0 = .ok (.aload_n 2, 1) := by decide +kernel
theorem dL_append_1 : decode cL_append 1 = .ok (.iconst 0, 1) := by decide +kernel
theorem dL_append_2 : decode cL_append 2 = .ok (.aload_n 0, 1) := by decide +kernel
theorem dL_append_3 : decode cL_append 3 = .ok (.iload_n 1, 1) := by decide +kernel
theorem dL_append_4 : decode cL_append 4 = .ok (.invokevirtual 39, 3) := by decide +kernel
theorem dL_append_7 : decode cL_append 7 = .ok (.i2l, 1) := by decide +kernel
theorem dL_append_8 : decode cL_append 8 = .ok (.lastore, 1) := by decide +kernel
theorem dL_append_9 : decode cL_append 9 = .ok (.goto 9, 3) := by decide +kernel
theorem dL_append_12 : decode cL_append 12 = .ok (.astore_n 3, 1) := by decide +kernel
theorem dL_append_13 : decode cL_append 13 = .ok (.iconst 1, 1) := by decide +kernel
theorem dL_append_14 : decode cL_append 14 = .ok (.ireturn, 1) := by decide +kernel
theorem dL_append_15 : decode cL_append 15 = .ok (.astore_n 3, 1) := by decide +kernel
theorem dL_append_16 : decode cL_append 16 = .ok (.iconst 2, 1) := by decide +kernel
theorem dL_append_17 : decode cL_append 17 = .ok (.ireturn, 1) := by decide +kernel
theorem dL_append_18 : decode cL_append 18 = .ok (.iconst 0, 1) := by decide +kernel
theorem dL_append_19 : decode cL_append 19 = .ok (.ireturn, 1) := by decide +kernel
theorem dL_addAll_0 : decode cL_addAll 0 = .ok (.aload_n 1, 1) := by decide +kernel
theorem dL_addAll_1 : decode cL_addAll 1 = .ok (.iconst 0, 1) := by decide +kernel
theorem dL_addAll_2 : decode cL_addAll 2 = .ok (.aload_n 0, 1) := by decide +kernel
theorem dL_addAll_3 : decode cL_addAll 3 = .ok (.invokevirtual 42, 3) := by decide +kernel
theorem dL_addAll_6 : decode cL_addAll 6 = .ok (.i2l, 1) := by decide +kernel
theorem dL_addAll_7 : decode cL_addAll 7 = .ok (.lastore, 1) := by decide +kernel
theorem dL_addAll_8 : decode cL_addAll 8 = .ok (.goto 9, 3) := by decide +kernel
theorem dL_addAll_11 : decode cL_addAll 11 = .ok (.astore_n 2, 1) := by decide +kernel
theorem dL_addAll_12 : decode cL_addAll 12 = .ok (.iconst 1, 1) := by decide +kernel
theorem dL_addAll_13 : decode cL_addAll 13 = .ok (.ireturn, 1) := by decide +kernel
theorem dL_addAll_14 : decode cL_addAll 14 = .ok (.astore_n 2, 1) := by decide +kernel
theorem dL_addAll_15 : decode cL_addAll 15 = .ok (.iconst 2, 1) := by decide +kernel
theorem dL_addAll_16 : decode cL_addAll 16 = .ok (.ireturn, 1) := by decide +kernel
theorem dL_addAll_17 : decode cL_addAll 17 = .ok (.iconst 0, 1) := by decide +kernel
theorem dL_addAll_18 : decode cL_addAll 18 = .ok (.ireturn, 1) := by decide +kernel
theorem dL_undo_0 : decode cL_undo 0 = .ok (.aload_n 1, 1) := by decide +kernel
theorem dL_undo_1 : decode cL_undo 1 = .ok (.iconst 0, 1) := by decide +kernel
theorem dL_undo_2 : decode cL_undo 2 = .ok (.aload_n 0, 1) := by decide +kernel
theorem dL_undo_3 : decode cL_undo 3 = .ok (.invokevirtual 46, 3) := by decide +kernel
theorem dL_undo_6 : decode cL_undo 6 = .ok (.i2l, 1) := by decide +kernel
theorem dL_undo_7 : decode cL_undo 7 = .ok (.lastore, 1) := by decide +kernel
theorem dL_undo_8 : decode cL_undo 8 = .ok (.goto 6, 3) := by decide +kernel
theorem dL_undo_11 : decode cL_undo 11 = .ok (.astore_n 2, 1) := by decide +kernel
theorem dL_undo_12 : decode cL_undo 12 = .ok (.iconst 1, 1) := by decide +kernel
theorem dL_undo_13 : decode cL_undo 13 = .ok (.ireturn, 1) := by decide +kernel
theorem dL_undo_14 : decode cL_undo 14 = .ok (.iconst 0, 1) := by decide +kernel
theorem dL_undo_15 : decode cL_undo 15 = .ok (.ireturn, 1) := by decide +kernel
theorem dL_line_0 : decode cL_line 0 = .ok (.aload_n 3, 1) := by decide +kernel
theorem dL_line_1 : decode cL_line 1 = .ok (.iconst 0, 1) := by decide +kernel
theorem dL_line_2 : decode cL_line 2 = .ok (.aload_n 0, 1) := by decide +kernel
theorem dL_line_3 : decode cL_line 3 = .ok (.iload_n 1, 1) := by decide +kernel
theorem dL_line_4 : decode cL_line 4 = .ok (.iload_n 2, 1) := by decide +kernel
theorem dL_line_5 : decode cL_line 5 = .ok (.invokevirtual 49, 3) := by decide +kernel
theorem dL_line_8 : decode cL_line 8 = .ok (.i2l, 1) := by decide +kernel
theorem dL_line_9 : decode cL_line 9 = .ok (.lastore, 1) := by decide +kernel
theorem dL_line_10 : decode cL_line 10 = .ok (.goto 11, 3) := by decide +kernel
theorem dL_line_13 : decode cL_line 13 = .ok (.astore 4, 2) := by decide +kernel
theorem dL_line_15 : decode cL_line 15 = .ok (.iconst 1, 1) := by decide +kernel
theorem dL_line_16 : decode cL_line 16 = .ok (.ireturn, 1) := by decide +kernel
theorem dL_line_17 : decode cL_line 17 = .ok (.astore 4, 2) := by decide +kernel
theorem dL_line_19 : decode cL_line 19 = .ok (.iconst 2, 1) := by decide +kernel
theorem dL_line_20 : decode cL_line 20 = .ok (.ireturn, 1) := by decide +kernel
theorem dL_line_21 : decode cL_line 21 = .ok (.iconst 0, 1) := by decide +kernel
theorem dL_line_22 : decode cL_line 22 = .ok (.ireturn, 1) := by decide +kernel
theorem dL_lowest_0 : decode cL_lowest 0 = .ok (.aload_n 3, 1) := by decide +kernel
theorem dL_lowest_1 : decode cL_lowest 1 = .ok (.iconst 0, 1) := by decide +kernel
theorem dL_lowest_2 : decode cL_lowest 2 = .ok (.aload_n 0, 1) := by decide +kernel
theorem dL_lowest_3 : decode cL_lowest 3 = .ok (.iload_n 1, 1) := by decide +kernel
theorem dL_lowest_4 : decode cL_lowest 4 = .ok (.iload_n 2, 1) := by decide +kernel
theorem dL_lowest_5 : decode cL_lowest 5 = .ok (.invokevirtual 52, 3) := by decide +kernel
theorem dL_lowest_8 : decode cL_lowest 8 = .ok (.i2l, 1) := by decide +kernel
theorem dL_lowest_9 : decode cL_lowest 9 = .ok (.lastore, 1) := by decide +kernel
theorem dL_lowest_10 : decode cL_lowest 10 = .ok (.goto 7, 3) := by decide +kernel
theorem dL_lowest_13 : decode cL_lowest 13 = .ok (.astore 4, 2) := by decide +kernel
theorem dL_lowest_15 : decode cL_lowest 15 = .ok (.iconst 1, 1) := by decide +kernel
theorem dL_lowest_16 : decode cL_lowest 16 = .ok (.ireturn, 1) := by decide +kernel
theorem dL_lowest_17 : decode cL_lowest 17 = .ok (.iconst 0, 1) := by decide +kernel
theorem dL_lowest_18 : decode cL_lowest 18 = .ok (.ireturn, 1) := by decide +kernel
theorem dL_value_0 : decode cL_value 0 = .ok (.aload_n 2, 1) := by decide +kernel
theorem dL_value_1 : decode cL_value 1 = .ok (.iconst 0, 1) := by decide +kernel
theorem dL_value_2 : decode cL_value 2 = .ok (.aload_n 0, 1) := by decide +kernel
theorem dL_value_3 : decode cL_value 3 = .ok (.iload_n 1, 1) := by decide +kernel
theorem dL_value_4 : decode cL_value 4 = .ok (.invokevirtual 55, 3) := by decide +kernel
theorem dL_value_7 : decode cL_value 7 = .ok (.i2l, 1) := by decide +kernel
theorem dL_value_8 : decode cL_value 8 = .ok (.lastore, 1) := by decide +kernel
theorem dL_value_9 : decode cL_value 9 = .ok (.goto 9, 3) := by decide +kernel
theorem dL_value_12 : decode cL_value 12 = .ok (.astore_n 3, 1) := by decide +kernel
theorem dL_value_13 : decode cL_value 13 = .ok (.iconst 1, 1) := by decide +kernel
theorem dL_value_14 : decode cL_value 14 = .ok (.ireturn, 1) := by decide +kernel
theorem dL_value_15 : decode cL_value 15 = .ok (.astore_n 3, 1) := by decide +kernel
theorem dL_value_16 : decode cL_value 16 = .ok (.iconst 2, 1) := by decide +kernel
theorem dL_value_17 : decode cL_value 17 = .ok (.ireturn, 1) := by decide +kernel
theorem dL_value_18 : decode cL_value 18 = .ok (.iconst 0, 1) := by decide +kernel
theorem dL_value_19 : decode cL_value 19 = .ok (.ireturn, 1) := by decide +kernel
theorem dL_ranked_0 : decode cL_ranked 0 = .ok (.aload_n 3, 1) := by decide +kernel
theorem dL_ranked_1 : decode cL_ranked 1 = .ok (.iconst 0, 1) := by decide +kernel
theorem dL_ranked_2 : decode cL_ranked 2 = .ok (.aload_n 0, 1) := by decide +kernel
theorem dL_ranked_3 : decode cL_ranked 3 = .ok (.iload_n 1, 1) := by decide +kernel
theorem dL_ranked_4 : decode cL_ranked 4 = .ok (.iload_n 2, 1) := by decide +kernel
theorem dL_ranked_5 : decode cL_ranked 5 = .ok (.invokevirtual 58, 3) := by decide +kernel
theorem dL_ranked_8 : decode cL_ranked 8 = .ok (.i2l, 1) := by decide +kernel
theorem dL_ranked_9 : decode cL_ranked 9 = .ok (.lastore, 1) := by decide +kernel
theorem dL_ranked_10 : decode cL_ranked 10 = .ok (.goto 7, 3) := by decide +kernel
theorem dL_ranked_13 : decode cL_ranked 13 = .ok (.astore 4, 2) := by decide +kernel
theorem dL_ranked_15 : decode cL_ranked 15 = .ok (.iconst 1, 1) := by decide +kernel
theorem dL_ranked_16 : decode cL_ranked 16 = .ok (.ireturn, 1) := by decide +kernel
theorem dL_ranked_17 : decode cL_ranked 17 = .ok (.iconst 0, 1) := by decide +kernel
theorem dL_ranked_18 : decode cL_ranked 18 = .ok (.ireturn, 1) := by decide +kernel
theorem dL_node_0 : decode cL_node 0 = .ok (.aload_n 3, 1) := by decide +kernel
theorem dL_node_1 : decode cL_node 1 = .ok (.iconst 0, 1) := by decide +kernel
theorem dL_node_2 : decode cL_node 2 = .ok (.aload_n 0, 1) := by decide +kernel
theorem dL_node_3 : decode cL_node 3 = .ok (.iload_n 1, 1) := by decide +kernel
theorem dL_node_4 : decode cL_node 4 = .ok (.iload_n 2, 1) := by decide +kernel
theorem dL_node_5 : decode cL_node 5 = .ok (.invokevirtual 61, 3) := by decide +kernel
theorem dL_node_8 : decode cL_node 8 = .ok (.i2l, 1) := by decide +kernel
theorem dL_node_9 : decode cL_node 9 = .ok (.lastore, 1) := by decide +kernel
theorem dL_node_10 : decode cL_node 10 = .ok (.goto 11, 3) := by decide +kernel
theorem dL_node_13 : decode cL_node 13 = .ok (.astore 4, 2) := by decide +kernel
theorem dL_node_15 : decode cL_node 15 = .ok (.iconst 1, 1) := by decide +kernel
theorem dL_node_16 : decode cL_node 16 = .ok (.ireturn, 1) := by decide +kernel
theorem dL_node_17 : decode cL_node 17 = .ok (.astore 4, 2) := by decide +kernel
theorem dL_node_19 : decode cL_node 19 = .ok (.iconst 2, 1) := by decide +kernel
theorem dL_node_20 : decode cL_node 20 = .ok (.ireturn, 1) := by decide +kernel
theorem dL_node_21 : decode cL_node 21 = .ok (.iconst 0, 1) := by decide +kernel
theorem dL_node_22 : decode cL_node 22 = .ok (.ireturn, 1) := by decide +kernel
theorem dL_row_0 : decode cL_row 0 = .ok (.aload_n 3, 1) := by decide +kernel
theorem dL_row_1 : decode cL_row 1 = .ok (.iconst 0, 1) := by decide +kernel
theorem dL_row_2 : decode cL_row 2 = .ok (.aload_n 0, 1) := by decide +kernel
theorem dL_row_3 : decode cL_row 3 = .ok (.iload_n 1, 1) := by decide +kernel
theorem dL_row_4 : decode cL_row 4 = .ok (.iload_n 2, 1) := by decide +kernel
theorem dL_row_5 : decode cL_row 5 = .ok (.invokevirtual 64, 3) := by decide +kernel
theorem dL_row_8 : decode cL_row 8 = .ok (.i2l, 1) := by decide +kernel
theorem dL_row_9 : decode cL_row 9 = .ok (.lastore, 1) := by decide +kernel
theorem dL_row_10 : decode cL_row 10 = .ok (.goto 7, 3) := by decide +kernel
theorem dL_row_13 : decode cL_row 13 = .ok (.astore 4, 2) := by decide +kernel
theorem dL_row_15 : decode cL_row 15 = .ok (.iconst 1, 1) := by decide +kernel
theorem dL_row_16 : decode cL_row 16 = .ok (.ireturn, 1) := by decide +kernel
theorem dL_row_17 : decode cL_row 17 = .ok (.iconst 0, 1) := by decide +kernel
theorem dL_row_18 : decode cL_row 18 = .ok (.ireturn, 1) := by decide +kernel
theorem dL_sum_0 : decode cL_sum 0 = .ok (.aload_n 3, 1) := by decide +kernel
theorem dL_sum_1 : decode cL_sum 1 = .ok (.iconst 0, 1) := by decide +kernel
theorem dL_sum_2 : decode cL_sum 2 = .ok (.aload_n 0, 1) := by decide +kernel
theorem dL_sum_3 : decode cL_sum 3 = .ok (.iload_n 1, 1) := by decide +kernel
theorem dL_sum_4 : decode cL_sum 4 = .ok (.iload_n 2, 1) := by decide +kernel
theorem dL_sum_5 : decode cL_sum 5 = .ok (.invokevirtual 67, 3) := by decide +kernel
theorem dL_sum_8 : decode cL_sum 8 = .ok (.i2l, 1) := by decide +kernel
theorem dL_sum_9 : decode cL_sum 9 = .ok (.lastore, 1) := by decide +kernel
theorem dL_sum_10 : decode cL_sum 10 = .ok (.goto 7, 3) := by decide +kernel
theorem dL_sum_13 : decode cL_sum 13 = .ok (.astore 4, 2) := by decide +kernel
theorem dL_sum_15 : decode cL_sum 15 = .ok (.iconst 1, 1) := by decide +kernel
theorem dL_sum_16 : decode cL_sum 16 = .ok (.ireturn, 1) := by decide +kernel
theorem dL_sum_17 : decode cL_sum 17 = .ok (.iconst 0, 1) := by decide +kernel
theorem dL_sum_18 : decode cL_sum 18 = .ok (.ireturn, 1) := by decide +kernel
theorem dL_count_0 : decode cL_count 0 = .ok (.aload_n 2, 1) := by decide +kernel
theorem dL_count_1 : decode cL_count 1 = .ok (.iconst 0, 1) := by decide +kernel
theorem dL_count_2 : decode cL_count 2 = .ok (.aload_n 0, 1) := by decide +kernel
theorem dL_count_3 : decode cL_count 3 = .ok (.iload_n 1, 1) := by decide +kernel
theorem dL_count_4 : decode cL_count 4 = .ok (.invokevirtual 70, 3) := by decide +kernel
theorem dL_count_7 : decode cL_count 7 = .ok (.i2l, 1) := by decide +kernel
theorem dL_count_8 : decode cL_count 8 = .ok (.lastore, 1) := by decide +kernel
theorem dL_count_9 : decode cL_count 9 = .ok (.goto 6, 3) := by decide +kernel
theorem dL_count_12 : decode cL_count 12 = .ok (.astore_n 3, 1) := by decide +kernel
theorem dL_count_13 : decode cL_count 13 = .ok (.iconst 1, 1) := by decide +kernel
theorem dL_count_14 : decode cL_count 14 = .ok (.ireturn, 1) := by decide +kernel
theorem dL_count_15 : decode cL_count 15 = .ok (.iconst 0, 1) := by decide +kernel
theorem dL_count_16 : decode cL_count 16 = .ok (.ireturn, 1) := by decide +kernel
theorem dL_ifAdded_0 : decode cL_ifAdded 0 = .ok (.aload_n 3, 1) := by decide +kernel
theorem dL_ifAdded_1 : decode cL_ifAdded 1 = .ok (.iconst 0, 1) := by decide +kernel
theorem dL_ifAdded_2 : decode cL_ifAdded 2 = .ok (.aload_n 0, 1) := by decide +kernel
theorem dL_ifAdded_3 : decode cL_ifAdded 3 = .ok (.iload_n 1, 1) := by decide +kernel
theorem dL_ifAdded_4 : decode cL_ifAdded 4 = .ok (.iload_n 2, 1) := by decide +kernel
theorem dL_ifAdded_5 : decode cL_ifAdded 5 = .ok (.invokevirtual 73, 3) := by decide +kernel
theorem dL_ifAdded_8 : decode cL_ifAdded 8 = .ok (.i2l, 1) := by decide +kernel
theorem dL_ifAdded_9 : decode cL_ifAdded 9 = .ok (.lastore, 1) := by decide +kernel
theorem dL_ifAdded_10 : decode cL_ifAdded 10 = .ok (.goto 7, 3) := by decide +kernel
theorem dL_ifAdded_13 : decode cL_ifAdded 13 = .ok (.astore 4, 2) := by decide +kernel
theorem dL_ifAdded_15 : decode cL_ifAdded 15 = .ok (.iconst 1, 1) := by decide +kernel
theorem dL_ifAdded_16 : decode cL_ifAdded 16 = .ok (.ireturn, 1) := by decide +kernel
theorem dL_ifAdded_17 : decode cL_ifAdded 17 = .ok (.iconst 0, 1) := by decide +kernel
theorem dL_ifAdded_18 : decode cL_ifAdded 18 = .ok (.ireturn, 1) := by decide +kernel
theorem dL_highest_0 : decode cL_highest 0 = .ok (.aload_n 2, 1) := by decide +kernel
theorem dL_highest_1 : decode cL_highest 1 = .ok (.iconst 0, 1) := by decide +kernel
theorem dL_highest_2 : decode cL_highest 2 = .ok (.aload_n 0, 1) := by decide +kernel
theorem dL_highest_3 : decode cL_highest 3 = .ok (.iload_n 1, 1) := by decide +kernel
theorem dL_highest_4 : decode cL_highest 4 = .ok (.invokevirtual 76, 3) := by decide +kernel
theorem dL_highest_7 : decode cL_highest 7 = .ok (.i2l, 1) := by decide +kernel
theorem dL_highest_8 : decode cL_highest 8 = .ok (.lastore, 1) := by decide +kernel
theorem dL_highest_9 : decode cL_highest 9 = .ok (.goto 6, 3) := by decide +kernel
theorem dL_highest_12 : decode cL_highest 12 = .ok (.astore_n 3, 1) := by decide +kernel
theorem dL_highest_13 : decode cL_highest 13 = .ok (.iconst 1, 1) := by decide +kernel
theorem dL_highest_14 : decode cL_highest 14 = .ok (.ireturn, 1) := by decide +kernel
theorem dL_highest_15 : decode cL_highest 15 = .ok (.iconst 0, 1) := by decide +kernel
theorem dL_highest_16 : decode cL_highest 16 = .ok (.ireturn, 1) := by decide +kernel
theorem dL_worth_0 : decode cL_worth 0 = .ok (.aload_n 2, 1) := by decide +kernel
theorem dL_worth_1 : decode cL_worth 1 = .ok (.iconst 0, 1) := by decide +kernel
theorem dL_worth_2 : decode cL_worth 2 = .ok (.aload_n 0, 1) := by decide +kernel
theorem dL_worth_3 : decode cL_worth 3 = .ok (.iload_n 1, 1) := by decide +kernel
theorem dL_worth_4 : decode cL_worth 4 = .ok (.invokevirtual 79, 3) := by decide +kernel
theorem dL_worth_7 : decode cL_worth 7 = .ok (.i2l, 1) := by decide +kernel
theorem dL_worth_8 : decode cL_worth 8 = .ok (.lastore, 1) := by decide +kernel
theorem dL_worth_9 : decode cL_worth 9 = .ok (.goto 6, 3) := by decide +kernel
theorem dL_worth_12 : decode cL_worth 12 = .ok (.astore_n 3, 1) := by decide +kernel
theorem dL_worth_13 : decode cL_worth 13 = .ok (.iconst 1, 1) := by decide +kernel
theorem dL_worth_14 : decode cL_worth 14 = .ok (.ireturn, 1) := by decide +kernel
theorem dL_worth_15 : decode cL_worth 15 = .ok (.iconst 0, 1) := by decide +kernel
theorem dL_worth_16 : decode cL_worth 16 = .ok (.ireturn, 1) := by decide +kernel
theorem dL_changesAt_0 : decode cL_changesAt 0 = .ok (.aload_n 2, 1) := by decide +kernel
theorem dL_changesAt_1 : decode cL_changesAt 1 = .ok (.iconst 0, 1) := by decide +kernel
theorem dL_changesAt_2 : decode cL_changesAt 2 = .ok (.aload_n 0, 1) := by decide +kernel
theorem dL_changesAt_3 : decode cL_changesAt 3 = .ok (.iload_n 1, 1) := by decide +kernel
theorem dL_changesAt_4 : decode cL_changesAt 4 = .ok (.invokevirtual 82, 3) := by decide +kernel
theorem dL_changesAt_7 : decode cL_changesAt 7 = .ok (.i2l, 1) := by decide +kernel
theorem dL_changesAt_8 : decode cL_changesAt 8 = .ok (.lastore, 1) := by decide +kernel
theorem dL_changesAt_9 : decode cL_changesAt 9 = .ok (.goto 6, 3) := by decide +kernel
theorem dL_changesAt_12 : decode cL_changesAt 12 = .ok (.astore_n 3, 1) := by decide +kernel
theorem dL_changesAt_13 : decode cL_changesAt 13 = .ok (.iconst 1, 1) := by decide +kernel
theorem dL_changesAt_14 : decode cL_changesAt 14 = .ok (.ireturn, 1) := by decide +kernel
theorem dL_changesAt_15 : decode cL_changesAt 15 = .ok (.iconst 0, 1) := by decide +kernel
theorem dL_changesAt_16 : decode cL_changesAt 16 = .ok (.ireturn, 1) := by decide +kernel
theorem dL_meet_0 : decode cL_meet 0 = .ok (.aload_n 3, 1) := by decide +kernel
theorem dL_meet_1 : decode cL_meet 1 = .ok (.iconst 0, 1) := by decide +kernel
theorem dL_meet_2 : decode cL_meet 2 = .ok (.aload_n 0, 1) := by decide +kernel
theorem dL_meet_3 : decode cL_meet 3 = .ok (.iload_n 1, 1) := by decide +kernel
theorem dL_meet_4 : decode cL_meet 4 = .ok (.iload_n 2, 1) := by decide +kernel
theorem dL_meet_5 : decode cL_meet 5 = .ok (.invokevirtual 85, 3) := by decide +kernel
theorem dL_meet_8 : decode cL_meet 8 = .ok (.i2l, 1) := by decide +kernel
theorem dL_meet_9 : decode cL_meet 9 = .ok (.lastore, 1) := by decide +kernel
theorem dL_meet_10 : decode cL_meet 10 = .ok (.goto 11, 3) := by decide +kernel
theorem dL_meet_13 : decode cL_meet 13 = .ok (.astore 4, 2) := by decide +kernel
theorem dL_meet_15 : decode cL_meet 15 = .ok (.iconst 1, 1) := by decide +kernel
theorem dL_meet_16 : decode cL_meet 16 = .ok (.ireturn, 1) := by decide +kernel
theorem dL_meet_17 : decode cL_meet 17 = .ok (.astore 4, 2) := by decide +kernel
theorem dL_meet_19 : decode cL_meet 19 = .ok (.iconst 2, 1) := by decide +kernel
theorem dL_meet_20 : decode cL_meet 20 = .ok (.ireturn, 1) := by decide +kernel
theorem dL_meet_21 : decode cL_meet 21 = .ok (.iconst 0, 1) := by decide +kernel
theorem dL_meet_22 : decode cL_meet 22 = .ok (.ireturn, 1) := by decide +kernel
theorem dL_law_0 : decode cL_law 0 = .ok (.new 8, 3) := by decide +kernel
theorem dL_law_3 : decode cL_law 3 = .ok (.dup, 1) := by decide +kernel
theorem dL_law_4 : decode cL_law 4 = .ok (.invokespecial 88, 3) := by decide +kernel
theorem dL_law_7 : decode cL_law 7 = .ok (.astore_n 1, 1) := by decide +kernel
theorem dL_law_8 : decode cL_law 8 = .ok (.new 89, 3) := by decide +kernel
theorem dL_law_11 : decode cL_law 11 = .ok (.dup, 1) := by decide +kernel
theorem dL_law_12 : decode cL_law 12 = .ok (.invokespecial 91, 3) := by decide +kernel
theorem dL_law_15 : decode cL_law 15 = .ok (.astore_n 2, 1) := by decide +kernel
theorem dL_law_16 : decode cL_law 16 = .ok (.iconst 1, 1) := by decide +kernel
theorem dL_law_17 : decode cL_law 17 = .ok (.newarray .long, 2) := by decide +kernel
theorem dL_law_19 : decode cL_law 19 = .ok (.astore_n 3, 1) := by decide +kernel
theorem dL_law_20 : decode cL_law 20 = .ok (.iconst 0, 1) := by decide +kernel
theorem dL_law_21 : decode cL_law 21 = .ok (.istore 4, 2) := by decide +kernel
theorem dL_law_23 : decode cL_law 23 = .ok (.iload 4, 2) := by decide +kernel
theorem dL_law_25 : decode cL_law 25 = .ok (.aload_n 0, 1) := by decide +kernel
theorem dL_law_26 : decode cL_law 26 = .ok (.arraylength, 1) := by decide +kernel
theorem dL_law_27 : decode cL_law 27 = .ok (.iconst 4, 1) := by decide +kernel
theorem dL_law_28 : decode cL_law 28 = .ok (.isub, 1) := by decide +kernel
theorem dL_law_29 : decode cL_law 29 = .ok (.if_icmp .gt 1691, 3) := by decide +kernel
theorem dL_law_32 : decode cL_law 32 = .ok (.aload_n 0, 1) := by decide +kernel
theorem dL_law_33 : decode cL_law 33 = .ok (.iload 4, 2) := by decide +kernel
theorem dL_law_35 : decode cL_law 35 = .ok (.iaload, 1) := by decide +kernel
theorem dL_law_36 : decode cL_law 36 = .ok (.bipush 31, 2) := by decide +kernel
theorem dL_law_38 : decode cL_law 38 = .ok (.iand, 1) := by decide +kernel
theorem dL_law_39 : decode cL_law 39 = .ok (.tableswitch 1675 0 27 #[125, 193, 273, 353, 421, 501, 557, 570, 626, 682, 695, 708, 752, 796, 864, 932, 988, 1056, 1124, 1192, 1260, 1316, 1384, 1440, 1496, 1552, 1620, 1661], 125) := by decide +kernel
theorem dL_law_164 : decode cL_law 164 = .ok (.aload_n 1, 1) := by decide +kernel
theorem dL_law_165 : decode cL_law 165 = .ok (.aload_n 0, 1) := by decide +kernel
theorem dL_law_166 : decode cL_law 166 = .ok (.iload 4, 2) := by decide +kernel
theorem dL_law_168 : decode cL_law 168 = .ok (.iconst 1, 1) := by decide +kernel
theorem dL_law_169 : decode cL_law 169 = .ok (.iadd, 1) := by decide +kernel
theorem dL_law_170 : decode cL_law 170 = .ok (.iaload, 1) := by decide +kernel
theorem dL_law_171 : decode cL_law 171 = .ok (.aload_n 0, 1) := by decide +kernel
theorem dL_law_172 : decode cL_law 172 = .ok (.iload 4, 2) := by decide +kernel
theorem dL_law_174 : decode cL_law 174 = .ok (.iconst 2, 1) := by decide +kernel
theorem dL_law_175 : decode cL_law 175 = .ok (.iadd, 1) := by decide +kernel
theorem dL_law_176 : decode cL_law 176 = .ok (.iaload, 1) := by decide +kernel
theorem dL_law_177 : decode cL_law 177 = .ok (.aload_n 3, 1) := by decide +kernel
theorem dL_law_178 : decode cL_law 178 = .ok (.invokestatic 92, 3) := by decide +kernel
theorem dL_law_181 : decode cL_law 181 = .ok (.istore 5, 2) := by decide +kernel
theorem dL_law_183 : decode cL_law 183 = .ok (.aload_n 2, 1) := by decide +kernel
theorem dL_law_184 : decode cL_law 184 = .ok (.aload_n 0, 1) := by decide +kernel
theorem dL_law_185 : decode cL_law 185 = .ok (.iload 4, 2) := by decide +kernel
theorem dL_law_187 : decode cL_law 187 = .ok (.iconst 1, 1) := by decide +kernel
theorem dL_law_188 : decode cL_law 188 = .ok (.iadd, 1) := by decide +kernel
theorem dL_law_189 : decode cL_law 189 = .ok (.iaload, 1) := by decide +kernel
theorem dL_law_190 : decode cL_law 190 = .ok (.aload_n 0, 1) := by decide +kernel
theorem dL_law_191 : decode cL_law 191 = .ok (.iload 4, 2) := by decide +kernel
theorem dL_law_193 : decode cL_law 193 = .ok (.iconst 2, 1) := by decide +kernel
theorem dL_law_194 : decode cL_law 194 = .ok (.iadd, 1) := by decide +kernel
theorem dL_law_195 : decode cL_law 195 = .ok (.iaload, 1) := by decide +kernel
theorem dL_law_196 : decode cL_law 196 = .ok (.invokevirtual 97, 3) := by decide +kernel
theorem dL_law_199 : decode cL_law 199 = .ok (.istore 6, 2) := by decide +kernel
theorem dL_law_201 : decode cL_law 201 = .ok (.aload_n 2, 1) := by decide +kernel
theorem dL_law_202 : decode cL_law 202 = .ok (.invokevirtual 98, 3) := by decide +kernel
theorem dL_law_205 : decode cL_law 205 = .ok (.iload 5, 2) := by decide +kernel
theorem dL_law_207 : decode cL_law 207 = .ok (.if_icmp .eq 5, 3) := by decide +kernel
theorem dL_law_210 : decode cL_law 210 = .ok (.iconst 0, 1) := by decide +kernel
theorem dL_law_211 : decode cL_law 211 = .ok (.ireturn, 1) := by decide +kernel
theorem dL_law_212 : decode cL_law 212 = .ok (.iload 5, 2) := by decide +kernel
theorem dL_law_214 : decode cL_law 214 = .ok (.ifCond .ne 15, 3) := by decide +kernel
theorem dL_law_217 : decode cL_law 217 = .ok (.aload_n 3, 1) := by decide +kernel
theorem dL_law_218 : decode cL_law 218 = .ok (.iconst 0, 1) := by decide +kernel
theorem dL_law_219 : decode cL_law 219 = .ok (.laload, 1) := by decide +kernel
theorem dL_law_220 : decode cL_law 220 = .ok (.iload 6, 2) := by decide +kernel
theorem dL_law_222 : decode cL_law 222 = .ok (.i2l, 1) := by decide +kernel
theorem dL_law_223 : decode cL_law 223 = .ok (.lcmp, 1) := by decide +kernel
theorem dL_law_224 : decode cL_law 224 = .ok (.ifCond .eq 5, 3) := by decide +kernel
theorem dL_law_227 : decode cL_law 227 = .ok (.iconst 0, 1) := by decide +kernel
theorem dL_law_228 : decode cL_law 228 = .ok (.ireturn, 1) := by decide +kernel
theorem dL_law_229 : decode cL_law 229 = .ok (.goto 1485, 3) := by decide +kernel
theorem dL_law_232 : decode cL_law 232 = .ok (.aload_n 1, 1) := by decide +kernel
theorem dL_law_233 : decode cL_law 233 = .ok (.aload_n 0, 1) := by decide +kernel
theorem dL_law_234 : decode cL_law 234 = .ok (.iload 4, 2) := by decide +kernel
theorem dL_law_236 : decode cL_law 236 = .ok (.iconst 1, 1) := by decide +kernel
theorem dL_law_237 : decode cL_law 237 = .ok (.iadd, 1) := by decide +kernel
theorem dL_law_238 : decode cL_law 238 = .ok (.iaload, 1) := by decide +kernel
theorem dL_law_239 : decode cL_law 239 = .ok (.aload_n 0, 1) := by decide +kernel
theorem dL_law_240 : decode cL_law 240 = .ok (.iload 4, 2) := by decide +kernel
theorem dL_law_242 : decode cL_law 242 = .ok (.iconst 2, 1) := by decide +kernel
theorem dL_law_243 : decode cL_law 243 = .ok (.iadd, 1) := by decide +kernel
theorem dL_law_244 : decode cL_law 244 = .ok (.iaload, 1) := by decide +kernel
theorem dL_law_245 : decode cL_law 245 = .ok (.aload_n 0, 1) := by decide +kernel
theorem dL_law_246 : decode cL_law 246 = .ok (.iload 4, 2) := by decide +kernel
theorem dL_law_248 : decode cL_law 248 = .ok (.iconst 3, 1) := by decide +kernel
theorem dL_law_249 : decode cL_law 249 = .ok (.iadd, 1) := by decide +kernel
theorem dL_law_250 : decode cL_law 250 = .ok (.iaload, 1) := by decide +kernel
theorem dL_law_251 : decode cL_law 251 = .ok (.aload_n 3, 1) := by decide +kernel
theorem dL_law_252 : decode cL_law 252 = .ok (.invokestatic 101, 3) := by decide +kernel
theorem dL_law_255 : decode cL_law 255 = .ok (.istore 5, 2) := by decide +kernel
theorem dL_law_257 : decode cL_law 257 = .ok (.aload_n 2, 1) := by decide +kernel
theorem dL_law_258 : decode cL_law 258 = .ok (.aload_n 0, 1) := by decide +kernel
theorem dL_law_259 : decode cL_law 259 = .ok (.iload 4, 2) := by decide +kernel
theorem dL_law_261 : decode cL_law 261 = .ok (.iconst 1, 1) := by decide +kernel
theorem dL_law_262 : decode cL_law 262 = .ok (.iadd, 1) := by decide +kernel
theorem dL_law_263 : decode cL_law 263 = .ok (.iaload, 1) := by decide +kernel
theorem dL_law_264 : decode cL_law 264 = .ok (.aload_n 0, 1) := by decide +kernel
theorem dL_law_265 : decode cL_law 265 = .ok (.iload 4, 2) := by decide +kernel
theorem dL_law_267 : decode cL_law 267 = .ok (.iconst 2, 1) := by decide +kernel
theorem dL_law_268 : decode cL_law 268 = .ok (.iadd, 1) := by decide +kernel
theorem dL_law_269 : decode cL_law 269 = .ok (.iaload, 1) := by decide +kernel
theorem dL_law_270 : decode cL_law 270 = .ok (.aload_n 0, 1) := by decide +kernel
theorem dL_law_271 : decode cL_law 271 = .ok (.iload 4, 2) := by decide +kernel
theorem dL_law_273 : decode cL_law 273 = .ok (.iconst 3, 1) := by decide +kernel
theorem dL_law_274 : decode cL_law 274 = .ok (.iadd, 1) := by decide +kernel
theorem dL_law_275 : decode cL_law 275 = .ok (.iaload, 1) := by decide +kernel
theorem dL_law_276 : decode cL_law 276 = .ok (.invokevirtual 104, 3) := by decide +kernel
theorem dL_law_279 : decode cL_law 279 = .ok (.istore 6, 2) := by decide +kernel
theorem dL_law_281 : decode cL_law 281 = .ok (.aload_n 2, 1) := by decide +kernel
theorem dL_law_282 : decode cL_law 282 = .ok (.invokevirtual 98, 3) := by decide +kernel
theorem dL_law_285 : decode cL_law 285 = .ok (.iload 5, 2) := by decide +kernel
theorem dL_law_287 : decode cL_law 287 = .ok (.if_icmp .eq 5, 3) := by decide +kernel
theorem dL_law_290 : decode cL_law 290 = .ok (.iconst 0, 1) := by decide +kernel
theorem dL_law_291 : decode cL_law 291 = .ok (.ireturn, 1) := by decide +kernel
theorem dL_law_292 : decode cL_law 292 = .ok (.iload 5, 2) := by decide +kernel
theorem dL_law_294 : decode cL_law 294 = .ok (.ifCond .ne 15, 3) := by decide +kernel
theorem dL_law_297 : decode cL_law 297 = .ok (.aload_n 3, 1) := by decide +kernel
theorem dL_law_298 : decode cL_law 298 = .ok (.iconst 0, 1) := by decide +kernel
theorem dL_law_299 : decode cL_law 299 = .ok (.laload, 1) := by decide +kernel
theorem dL_law_300 : decode cL_law 300 = .ok (.iload 6, 2) := by decide +kernel
theorem dL_law_302 : decode cL_law 302 = .ok (.i2l, 1) := by decide +kernel
theorem dL_law_303 : decode cL_law 303 = .ok (.lcmp, 1) := by decide +kernel
theorem dL_law_304 : decode cL_law 304 = .ok (.ifCond .eq 5, 3) := by decide +kernel
theorem dL_law_307 : decode cL_law 307 = .ok (.iconst 0, 1) := by decide +kernel
theorem dL_law_308 : decode cL_law 308 = .ok (.ireturn, 1) := by decide +kernel
theorem dL_law_309 : decode cL_law 309 = .ok (.goto 1405, 3) := by decide +kernel
theorem dL_law_312 : decode cL_law 312 = .ok (.aload_n 1, 1) := by decide +kernel
theorem dL_law_313 : decode cL_law 313 = .ok (.aload_n 0, 1) := by decide +kernel
theorem dL_law_314 : decode cL_law 314 = .ok (.iload 4, 2) := by decide +kernel
theorem dL_law_316 : decode cL_law 316 = .ok (.iconst 1, 1) := by decide +kernel
theorem dL_law_317 : decode cL_law 317 = .ok (.iadd, 1) := by decide +kernel
theorem dL_law_318 : decode cL_law 318 = .ok (.iaload, 1) := by decide +kernel
theorem dL_law_319 : decode cL_law 319 = .ok (.aload_n 0, 1) := by decide +kernel
theorem dL_law_320 : decode cL_law 320 = .ok (.iload 4, 2) := by decide +kernel
theorem dL_law_322 : decode cL_law 322 = .ok (.iconst 2, 1) := by decide +kernel
theorem dL_law_323 : decode cL_law 323 = .ok (.iadd, 1) := by decide +kernel
theorem dL_law_324 : decode cL_law 324 = .ok (.iaload, 1) := by decide +kernel
theorem dL_law_325 : decode cL_law 325 = .ok (.aload_n 0, 1) := by decide +kernel
theorem dL_law_326 : decode cL_law 326 = .ok (.iload 4, 2) := by decide +kernel
theorem dL_law_328 : decode cL_law 328 = .ok (.iconst 3, 1) := by decide +kernel
theorem dL_law_329 : decode cL_law 329 = .ok (.iadd, 1) := by decide +kernel
theorem dL_law_330 : decode cL_law 330 = .ok (.iaload, 1) := by decide +kernel
theorem dL_law_331 : decode cL_law 331 = .ok (.aload_n 3, 1) := by decide +kernel
theorem dL_law_332 : decode cL_law 332 = .ok (.invokestatic 105, 3) := by decide +kernel
theorem dL_law_335 : decode cL_law 335 = .ok (.istore 5, 2) := by decide +kernel
theorem dL_law_337 : decode cL_law 337 = .ok (.aload_n 2, 1) := by decide +kernel
theorem dL_law_338 : decode cL_law 338 = .ok (.aload_n 0, 1) := by decide +kernel
theorem dL_law_339 : decode cL_law 339 = .ok (.iload 4, 2) := by decide +kernel
theorem dL_law_341 : decode cL_law 341 = .ok (.iconst 1, 1) := by decide +kernel
theorem dL_law_342 : decode cL_law 342 = .ok (.iadd, 1) := by decide +kernel
theorem dL_law_343 : decode cL_law 343 = .ok (.iaload, 1) := by decide +kernel
theorem dL_law_344 : decode cL_law 344 = .ok (.aload_n 0, 1) := by decide +kernel
theorem dL_law_345 : decode cL_law 345 = .ok (.iload 4, 2) := by decide +kernel
theorem dL_law_347 : decode cL_law 347 = .ok (.iconst 2, 1) := by decide +kernel
theorem dL_law_348 : decode cL_law 348 = .ok (.iadd, 1) := by decide +kernel
theorem dL_law_349 : decode cL_law 349 = .ok (.iaload, 1) := by decide +kernel
theorem dL_law_350 : decode cL_law 350 = .ok (.aload_n 0, 1) := by decide +kernel
theorem dL_law_351 : decode cL_law 351 = .ok (.iload 4, 2) := by decide +kernel
theorem dL_law_353 : decode cL_law 353 = .ok (.iconst 3, 1) := by decide +kernel
theorem dL_law_354 : decode cL_law 354 = .ok (.iadd, 1) := by decide +kernel
theorem dL_law_355 : decode cL_law 355 = .ok (.iaload, 1) := by decide +kernel
theorem dL_law_356 : decode cL_law 356 = .ok (.invokevirtual 107, 3) := by decide +kernel
theorem dL_law_359 : decode cL_law 359 = .ok (.istore 6, 2) := by decide +kernel
theorem dL_law_361 : decode cL_law 361 = .ok (.aload_n 2, 1) := by decide +kernel
theorem dL_law_362 : decode cL_law 362 = .ok (.invokevirtual 98, 3) := by decide +kernel
theorem dL_law_365 : decode cL_law 365 = .ok (.iload 5, 2) := by decide +kernel
theorem dL_law_367 : decode cL_law 367 = .ok (.if_icmp .eq 5, 3) := by decide +kernel
theorem dL_law_370 : decode cL_law 370 = .ok (.iconst 0, 1) := by decide +kernel
theorem dL_law_371 : decode cL_law 371 = .ok (.ireturn, 1) := by decide +kernel
theorem dL_law_372 : decode cL_law 372 = .ok (.iload 5, 2) := by decide +kernel
theorem dL_law_374 : decode cL_law 374 = .ok (.ifCond .ne 15, 3) := by decide +kernel
theorem dL_law_377 : decode cL_law 377 = .ok (.aload_n 3, 1) := by decide +kernel
theorem dL_law_378 : decode cL_law 378 = .ok (.iconst 0, 1) := by decide +kernel
theorem dL_law_379 : decode cL_law 379 = .ok (.laload, 1) := by decide +kernel
theorem dL_law_380 : decode cL_law 380 = .ok (.iload 6, 2) := by decide +kernel
theorem dL_law_382 : decode cL_law 382 = .ok (.i2l, 1) := by decide +kernel
theorem dL_law_383 : decode cL_law 383 = .ok (.lcmp, 1) := by decide +kernel
theorem dL_law_384 : decode cL_law 384 = .ok (.ifCond .eq 5, 3) := by decide +kernel
theorem dL_law_387 : decode cL_law 387 = .ok (.iconst 0, 1) := by decide +kernel
theorem dL_law_388 : decode cL_law 388 = .ok (.ireturn, 1) := by decide +kernel
theorem dL_law_389 : decode cL_law 389 = .ok (.goto 1325, 3) := by decide +kernel
theorem dL_law_392 : decode cL_law 392 = .ok (.aload_n 1, 1) := by decide +kernel
theorem dL_law_393 : decode cL_law 393 = .ok (.aload_n 0, 1) := by decide +kernel
theorem dL_law_394 : decode cL_law 394 = .ok (.iload 4, 2) := by decide +kernel
theorem dL_law_396 : decode cL_law 396 = .ok (.iconst 1, 1) := by decide +kernel
theorem dL_law_397 : decode cL_law 397 = .ok (.iadd, 1) := by decide +kernel
theorem dL_law_398 : decode cL_law 398 = .ok (.iaload, 1) := by decide +kernel
theorem dL_law_399 : decode cL_law 399 = .ok (.aload_n 0, 1) := by decide +kernel
theorem dL_law_400 : decode cL_law 400 = .ok (.iload 4, 2) := by decide +kernel
theorem dL_law_402 : decode cL_law 402 = .ok (.iconst 2, 1) := by decide +kernel
theorem dL_law_403 : decode cL_law 403 = .ok (.iadd, 1) := by decide +kernel
theorem dL_law_404 : decode cL_law 404 = .ok (.iaload, 1) := by decide +kernel
theorem dL_law_405 : decode cL_law 405 = .ok (.aload_n 3, 1) := by decide +kernel
theorem dL_law_406 : decode cL_law 406 = .ok (.invokestatic 108, 3) := by decide +kernel
theorem dL_law_409 : decode cL_law 409 = .ok (.istore 5, 2) := by decide +kernel
theorem dL_law_411 : decode cL_law 411 = .ok (.aload_n 2, 1) := by decide +kernel
theorem dL_law_412 : decode cL_law 412 = .ok (.aload_n 0, 1) := by decide +kernel
theorem dL_law_413 : decode cL_law 413 = .ok (.iload 4, 2) := by decide +kernel
theorem dL_law_415 : decode cL_law 415 = .ok (.iconst 1, 1) := by decide +kernel
theorem dL_law_416 : decode cL_law 416 = .ok (.iadd, 1) := by decide +kernel
theorem dL_law_417 : decode cL_law 417 = .ok (.iaload, 1) := by decide +kernel
theorem dL_law_418 : decode cL_law 418 = .ok (.aload_n 0, 1) := by decide +kernel
theorem dL_law_419 : decode cL_law 419 = .ok (.iload 4, 2) := by decide +kernel
theorem dL_law_421 : decode cL_law 421 = .ok (.iconst 2, 1) := by decide +kernel
theorem dL_law_422 : decode cL_law 422 = .ok (.iadd, 1) := by decide +kernel
theorem dL_law_423 : decode cL_law 423 = .ok (.iaload, 1) := by decide +kernel
theorem dL_law_424 : decode cL_law 424 = .ok (.invokevirtual 110, 3) := by decide +kernel
theorem dL_law_427 : decode cL_law 427 = .ok (.istore 6, 2) := by decide +kernel
theorem dL_law_429 : decode cL_law 429 = .ok (.aload_n 2, 1) := by decide +kernel
theorem dL_law_430 : decode cL_law 430 = .ok (.invokevirtual 98, 3) := by decide +kernel
theorem dL_law_433 : decode cL_law 433 = .ok (.iload 5, 2) := by decide +kernel
theorem dL_law_435 : decode cL_law 435 = .ok (.if_icmp .eq 5, 3) := by decide +kernel
theorem dL_law_438 : decode cL_law 438 = .ok (.iconst 0, 1) := by decide +kernel
theorem dL_law_439 : decode cL_law 439 = .ok (.ireturn, 1) := by decide +kernel
theorem dL_law_440 : decode cL_law 440 = .ok (.iload 5, 2) := by decide +kernel
theorem dL_law_442 : decode cL_law 442 = .ok (.ifCond .ne 15, 3) := by decide +kernel
theorem dL_law_445 : decode cL_law 445 = .ok (.aload_n 3, 1) := by decide +kernel
theorem dL_law_446 : decode cL_law 446 = .ok (.iconst 0, 1) := by decide +kernel
theorem dL_law_447 : decode cL_law 447 = .ok (.laload, 1) := by decide +kernel
theorem dL_law_448 : decode cL_law 448 = .ok (.iload 6, 2) := by decide +kernel
theorem dL_law_450 : decode cL_law 450 = .ok (.i2l, 1) := by decide +kernel
theorem dL_law_451 : decode cL_law 451 = .ok (.lcmp, 1) := by decide +kernel
theorem dL_law_452 : decode cL_law 452 = .ok (.ifCond .eq 5, 3) := by decide +kernel
theorem dL_law_455 : decode cL_law 455 = .ok (.iconst 0, 1) := by decide +kernel
theorem dL_law_456 : decode cL_law 456 = .ok (.ireturn, 1) := by decide +kernel
theorem dL_law_457 : decode cL_law 457 = .ok (.goto 1257, 3) := by decide +kernel
theorem dL_law_460 : decode cL_law 460 = .ok (.aload_n 1, 1) := by decide +kernel
theorem dL_law_461 : decode cL_law 461 = .ok (.aload_n 0, 1) := by decide +kernel
theorem dL_law_462 : decode cL_law 462 = .ok (.iload 4, 2) := by decide +kernel
theorem dL_law_464 : decode cL_law 464 = .ok (.iconst 1, 1) := by decide +kernel
theorem dL_law_465 : decode cL_law 465 = .ok (.iadd, 1) := by decide +kernel
theorem dL_law_466 : decode cL_law 466 = .ok (.iaload, 1) := by decide +kernel
theorem dL_law_467 : decode cL_law 467 = .ok (.aload_n 0, 1) := by decide +kernel
theorem dL_law_468 : decode cL_law 468 = .ok (.iload 4, 2) := by decide +kernel
theorem dL_law_470 : decode cL_law 470 = .ok (.iconst 2, 1) := by decide +kernel
theorem dL_law_471 : decode cL_law 471 = .ok (.iadd, 1) := by decide +kernel
theorem dL_law_472 : decode cL_law 472 = .ok (.iaload, 1) := by decide +kernel
theorem dL_law_473 : decode cL_law 473 = .ok (.aload_n 0, 1) := by decide +kernel
theorem dL_law_474 : decode cL_law 474 = .ok (.iload 4, 2) := by decide +kernel
theorem dL_law_476 : decode cL_law 476 = .ok (.iconst 3, 1) := by decide +kernel
theorem dL_law_477 : decode cL_law 477 = .ok (.iadd, 1) := by decide +kernel
theorem dL_law_478 : decode cL_law 478 = .ok (.iaload, 1) := by decide +kernel
theorem dL_law_479 : decode cL_law 479 = .ok (.aload_n 3, 1) := by decide +kernel
theorem dL_law_480 : decode cL_law 480 = .ok (.invokestatic 111, 3) := by decide +kernel
theorem dL_law_483 : decode cL_law 483 = .ok (.istore 5, 2) := by decide +kernel
theorem dL_law_485 : decode cL_law 485 = .ok (.aload_n 2, 1) := by decide +kernel
theorem dL_law_486 : decode cL_law 486 = .ok (.aload_n 0, 1) := by decide +kernel
theorem dL_law_487 : decode cL_law 487 = .ok (.iload 4, 2) := by decide +kernel
theorem dL_law_489 : decode cL_law 489 = .ok (.iconst 1, 1) := by decide +kernel
theorem dL_law_490 : decode cL_law 490 = .ok (.iadd, 1) := by decide +kernel
theorem dL_law_491 : decode cL_law 491 = .ok (.iaload, 1) := by decide +kernel
theorem dL_law_492 : decode cL_law 492 = .ok (.aload_n 0, 1) := by decide +kernel
theorem dL_law_493 : decode cL_law 493 = .ok (.iload 4, 2) := by decide +kernel
theorem dL_law_495 : decode cL_law 495 = .ok (.iconst 2, 1) := by decide +kernel
theorem dL_law_496 : decode cL_law 496 = .ok (.iadd, 1) := by decide +kernel
theorem dL_law_497 : decode cL_law 497 = .ok (.iaload, 1) := by decide +kernel
theorem dL_law_498 : decode cL_law 498 = .ok (.aload_n 0, 1) := by decide +kernel
theorem dL_law_499 : decode cL_law 499 = .ok (.iload 4, 2) := by decide +kernel
theorem dL_law_501 : decode cL_law 501 = .ok (.iconst 3, 1) := by decide +kernel
theorem dL_law_502 : decode cL_law 502 = .ok (.iadd, 1) := by decide +kernel
theorem dL_law_503 : decode cL_law 503 = .ok (.iaload, 1) := by decide +kernel
theorem dL_law_504 : decode cL_law 504 = .ok (.invokevirtual 113, 3) := by decide +kernel
theorem dL_law_507 : decode cL_law 507 = .ok (.istore 6, 2) := by decide +kernel
theorem dL_law_509 : decode cL_law 509 = .ok (.aload_n 2, 1) := by decide +kernel
theorem dL_law_510 : decode cL_law 510 = .ok (.invokevirtual 98, 3) := by decide +kernel
theorem dL_law_513 : decode cL_law 513 = .ok (.iload 5, 2) := by decide +kernel
theorem dL_law_515 : decode cL_law 515 = .ok (.if_icmp .eq 5, 3) := by decide +kernel
theorem dL_law_518 : decode cL_law 518 = .ok (.iconst 0, 1) := by decide +kernel
theorem dL_law_519 : decode cL_law 519 = .ok (.ireturn, 1) := by decide +kernel
theorem dL_law_520 : decode cL_law 520 = .ok (.iload 5, 2) := by decide +kernel
theorem dL_law_522 : decode cL_law 522 = .ok (.ifCond .ne 15, 3) := by decide +kernel
theorem dL_law_525 : decode cL_law 525 = .ok (.aload_n 3, 1) := by decide +kernel
theorem dL_law_526 : decode cL_law 526 = .ok (.iconst 0, 1) := by decide +kernel
theorem dL_law_527 : decode cL_law 527 = .ok (.laload, 1) := by decide +kernel
theorem dL_law_528 : decode cL_law 528 = .ok (.iload 6, 2) := by decide +kernel
theorem dL_law_530 : decode cL_law 530 = .ok (.i2l, 1) := by decide +kernel
theorem dL_law_531 : decode cL_law 531 = .ok (.lcmp, 1) := by decide +kernel
theorem dL_law_532 : decode cL_law 532 = .ok (.ifCond .eq 5, 3) := by decide +kernel
theorem dL_law_535 : decode cL_law 535 = .ok (.iconst 0, 1) := by decide +kernel
theorem dL_law_536 : decode cL_law 536 = .ok (.ireturn, 1) := by decide +kernel
theorem dL_law_537 : decode cL_law 537 = .ok (.goto 1177, 3) := by decide +kernel
theorem dL_law_540 : decode cL_law 540 = .ok (.aload_n 1, 1) := by decide +kernel
theorem dL_law_541 : decode cL_law 541 = .ok (.aload_n 0, 1) := by decide +kernel
theorem dL_law_542 : decode cL_law 542 = .ok (.iload 4, 2) := by decide +kernel
theorem dL_law_544 : decode cL_law 544 = .ok (.iconst 1, 1) := by decide +kernel
theorem dL_law_545 : decode cL_law 545 = .ok (.iadd, 1) := by decide +kernel
theorem dL_law_546 : decode cL_law 546 = .ok (.iaload, 1) := by decide +kernel
theorem dL_law_547 : decode cL_law 547 = .ok (.aload_n 3, 1) := by decide +kernel
theorem dL_law_548 : decode cL_law 548 = .ok (.invokestatic 114, 3) := by decide +kernel
theorem dL_law_551 : decode cL_law 551 = .ok (.istore 5, 2) := by decide +kernel
theorem dL_law_553 : decode cL_law 553 = .ok (.aload_n 2, 1) := by decide +kernel
theorem dL_law_554 : decode cL_law 554 = .ok (.aload_n 0, 1) := by decide +kernel
theorem dL_law_555 : decode cL_law 555 = .ok (.iload 4, 2) := by decide +kernel
theorem dL_law_557 : decode cL_law 557 = .ok (.iconst 1, 1) := by decide +kernel
theorem dL_law_558 : decode cL_law 558 = .ok (.iadd, 1) := by decide +kernel
theorem dL_law_559 : decode cL_law 559 = .ok (.iaload, 1) := by decide +kernel
theorem dL_law_560 : decode cL_law 560 = .ok (.invokevirtual 117, 3) := by decide +kernel
theorem dL_law_563 : decode cL_law 563 = .ok (.istore 6, 2) := by decide +kernel
theorem dL_law_565 : decode cL_law 565 = .ok (.aload_n 2, 1) := by decide +kernel
theorem dL_law_566 : decode cL_law 566 = .ok (.invokevirtual 98, 3) := by decide +kernel
theorem dL_law_569 : decode cL_law 569 = .ok (.iload 5, 2) := by decide +kernel
theorem dL_law_571 : decode cL_law 571 = .ok (.if_icmp .eq 5, 3) := by decide +kernel
theorem dL_law_574 : decode cL_law 574 = .ok (.iconst 0, 1) := by decide +kernel
theorem dL_law_575 : decode cL_law 575 = .ok (.ireturn, 1) := by decide +kernel
theorem dL_law_576 : decode cL_law 576 = .ok (.iload 5, 2) := by decide +kernel
theorem dL_law_578 : decode cL_law 578 = .ok (.ifCond .ne 15, 3) := by decide +kernel
theorem dL_law_581 : decode cL_law 581 = .ok (.aload_n 3, 1) := by decide +kernel
theorem dL_law_582 : decode cL_law 582 = .ok (.iconst 0, 1) := by decide +kernel
theorem dL_law_583 : decode cL_law 583 = .ok (.laload, 1) := by decide +kernel
theorem dL_law_584 : decode cL_law 584 = .ok (.iload 6, 2) := by decide +kernel
theorem dL_law_586 : decode cL_law 586 = .ok (.i2l, 1) := by decide +kernel
theorem dL_law_587 : decode cL_law 587 = .ok (.lcmp, 1) := by decide +kernel
theorem dL_law_588 : decode cL_law 588 = .ok (.ifCond .eq 5, 3) := by decide +kernel
theorem dL_law_591 : decode cL_law 591 = .ok (.iconst 0, 1) := by decide +kernel
theorem dL_law_592 : decode cL_law 592 = .ok (.ireturn, 1) := by decide +kernel
theorem dL_law_593 : decode cL_law 593 = .ok (.goto 1121, 3) := by decide +kernel
theorem dL_law_596 : decode cL_law 596 = .ok (.aload_n 1, 1) := by decide +kernel
theorem dL_law_597 : decode cL_law 597 = .ok (.invokevirtual 118, 3) := by decide +kernel
theorem dL_law_600 : decode cL_law 600 = .ok (.aload_n 2, 1) := by decide +kernel
theorem dL_law_601 : decode cL_law 601 = .ok (.invokevirtual 121, 3) := by decide +kernel
theorem dL_law_604 : decode cL_law 604 = .ok (.if_icmp .eq 1110, 3) := by decide +kernel
theorem dL_law_607 : decode cL_law 607 = .ok (.iconst 0, 1) := by decide +kernel
theorem dL_law_608 : decode cL_law 608 = .ok (.ireturn, 1) := by decide +kernel
theorem dL_law_609 : decode cL_law 609 = .ok (.aload_n 1, 1) := by decide +kernel
theorem dL_law_610 : decode cL_law 610 = .ok (.aload_n 0, 1) := by decide +kernel
theorem dL_law_611 : decode cL_law 611 = .ok (.iload 4, 2) := by decide +kernel
theorem dL_law_613 : decode cL_law 613 = .ok (.iconst 1, 1) := by decide +kernel
theorem dL_law_614 : decode cL_law 614 = .ok (.iadd, 1) := by decide +kernel
theorem dL_law_615 : decode cL_law 615 = .ok (.iaload, 1) := by decide +kernel
theorem dL_law_616 : decode cL_law 616 = .ok (.aload_n 3, 1) := by decide +kernel
theorem dL_law_617 : decode cL_law 617 = .ok (.invokestatic 122, 3) := by decide +kernel
theorem dL_law_620 : decode cL_law 620 = .ok (.istore 5, 2) := by decide +kernel
theorem dL_law_622 : decode cL_law 622 = .ok (.aload_n 2, 1) := by decide +kernel
theorem dL_law_623 : decode cL_law 623 = .ok (.aload_n 0, 1) := by decide +kernel
theorem dL_law_624 : decode cL_law 624 = .ok (.iload 4, 2) := by decide +kernel
theorem dL_law_626 : decode cL_law 626 = .ok (.iconst 1, 1) := by decide +kernel
theorem dL_law_627 : decode cL_law 627 = .ok (.iadd, 1) := by decide +kernel
theorem dL_law_628 : decode cL_law 628 = .ok (.iaload, 1) := by decide +kernel
theorem dL_law_629 : decode cL_law 629 = .ok (.invokevirtual 124, 3) := by decide +kernel
theorem dL_law_632 : decode cL_law 632 = .ok (.istore 6, 2) := by decide +kernel
theorem dL_law_634 : decode cL_law 634 = .ok (.aload_n 2, 1) := by decide +kernel
theorem dL_law_635 : decode cL_law 635 = .ok (.invokevirtual 98, 3) := by decide +kernel
theorem dL_law_638 : decode cL_law 638 = .ok (.iload 5, 2) := by decide +kernel
theorem dL_law_640 : decode cL_law 640 = .ok (.if_icmp .eq 5, 3) := by decide +kernel
theorem dL_law_643 : decode cL_law 643 = .ok (.iconst 0, 1) := by decide +kernel
theorem dL_law_644 : decode cL_law 644 = .ok (.ireturn, 1) := by decide +kernel
theorem dL_law_645 : decode cL_law 645 = .ok (.iload 5, 2) := by decide +kernel
theorem dL_law_647 : decode cL_law 647 = .ok (.ifCond .ne 15, 3) := by decide +kernel
theorem dL_law_650 : decode cL_law 650 = .ok (.aload_n 3, 1) := by decide +kernel
theorem dL_law_651 : decode cL_law 651 = .ok (.iconst 0, 1) := by decide +kernel
theorem dL_law_652 : decode cL_law 652 = .ok (.laload, 1) := by decide +kernel
theorem dL_law_653 : decode cL_law 653 = .ok (.iload 6, 2) := by decide +kernel
theorem dL_law_655 : decode cL_law 655 = .ok (.i2l, 1) := by decide +kernel
theorem dL_law_656 : decode cL_law 656 = .ok (.lcmp, 1) := by decide +kernel
theorem dL_law_657 : decode cL_law 657 = .ok (.ifCond .eq 5, 3) := by decide +kernel
theorem dL_law_660 : decode cL_law 660 = .ok (.iconst 0, 1) := by decide +kernel
theorem dL_law_661 : decode cL_law 661 = .ok (.ireturn, 1) := by decide +kernel
theorem dL_law_662 : decode cL_law 662 = .ok (.goto 1052, 3) := by decide +kernel
theorem dL_law_665 : decode cL_law 665 = .ok (.aload_n 1, 1) := by decide +kernel
theorem dL_law_666 : decode cL_law 666 = .ok (.aload_n 0, 1) := by decide +kernel
theorem dL_law_667 : decode cL_law 667 = .ok (.iload 4, 2) := by decide +kernel
theorem dL_law_669 : decode cL_law 669 = .ok (.iconst 1, 1) := by decide +kernel
theorem dL_law_670 : decode cL_law 670 = .ok (.iadd, 1) := by decide +kernel
theorem dL_law_671 : decode cL_law 671 = .ok (.iaload, 1) := by decide +kernel
theorem dL_law_672 : decode cL_law 672 = .ok (.aload_n 3, 1) := by decide +kernel
theorem dL_law_673 : decode cL_law 673 = .ok (.invokestatic 125, 3) := by decide +kernel
theorem dL_law_676 : decode cL_law 676 = .ok (.istore 5, 2) := by decide +kernel
theorem dL_law_678 : decode cL_law 678 = .ok (.aload_n 2, 1) := by decide +kernel
theorem dL_law_679 : decode cL_law 679 = .ok (.aload_n 0, 1) := by decide +kernel
theorem dL_law_680 : decode cL_law 680 = .ok (.iload 4, 2) := by decide +kernel
theorem dL_law_682 : decode cL_law 682 = .ok (.iconst 1, 1) := by decide +kernel
theorem dL_law_683 : decode cL_law 683 = .ok (.iadd, 1) := by decide +kernel
theorem dL_law_684 : decode cL_law 684 = .ok (.iaload, 1) := by decide +kernel
theorem dL_law_685 : decode cL_law 685 = .ok (.invokevirtual 127, 3) := by decide +kernel
theorem dL_law_688 : decode cL_law 688 = .ok (.istore 6, 2) := by decide +kernel
theorem dL_law_690 : decode cL_law 690 = .ok (.aload_n 2, 1) := by decide +kernel
theorem dL_law_691 : decode cL_law 691 = .ok (.invokevirtual 98, 3) := by decide +kernel
theorem dL_law_694 : decode cL_law 694 = .ok (.iload 5, 2) := by decide +kernel
theorem dL_law_696 : decode cL_law 696 = .ok (.if_icmp .eq 5, 3) := by decide +kernel
theorem dL_law_699 : decode cL_law 699 = .ok (.iconst 0, 1) := by decide +kernel
theorem dL_law_700 : decode cL_law 700 = .ok (.ireturn, 1) := by decide +kernel
theorem dL_law_701 : decode cL_law 701 = .ok (.iload 5, 2) := by decide +kernel
theorem dL_law_703 : decode cL_law 703 = .ok (.ifCond .ne 15, 3) := by decide +kernel
theorem dL_law_706 : decode cL_law 706 = .ok (.aload_n 3, 1) := by decide +kernel
theorem dL_law_707 : decode cL_law 707 = .ok (.iconst 0, 1) := by decide +kernel
theorem dL_law_708 : decode cL_law 708 = .ok (.laload, 1) := by decide +kernel
theorem dL_law_709 : decode cL_law 709 = .ok (.iload 6, 2) := by decide +kernel
theorem dL_law_711 : decode cL_law 711 = .ok (.i2l, 1) := by decide +kernel
theorem dL_law_712 : decode cL_law 712 = .ok (.lcmp, 1) := by decide +kernel
theorem dL_law_713 : decode cL_law 713 = .ok (.ifCond .eq 5, 3) := by decide +kernel
theorem dL_law_716 : decode cL_law 716 = .ok (.iconst 0, 1) := by decide +kernel
theorem dL_law_717 : decode cL_law 717 = .ok (.ireturn, 1) := by decide +kernel
theorem dL_law_718 : decode cL_law 718 = .ok (.goto 996, 3) := by decide +kernel
theorem dL_law_721 : decode cL_law 721 = .ok (.aload_n 1, 1) := by decide +kernel
theorem dL_law_722 : decode cL_law 722 = .ok (.invokevirtual 128, 3) := by decide +kernel
theorem dL_law_725 : decode cL_law 725 = .ok (.aload_n 2, 1) := by decide +kernel
theorem dL_law_726 : decode cL_law 726 = .ok (.invokevirtual 131, 3) := by decide +kernel
theorem dL_law_729 : decode cL_law 729 = .ok (.if_icmp .eq 985, 3) := by decide +kernel
theorem dL_law_732 : decode cL_law 732 = .ok (.iconst 0, 1) := by decide +kernel
theorem dL_law_733 : decode cL_law 733 = .ok (.ireturn, 1) := by decide +kernel
theorem dL_law_734 : decode cL_law 734 = .ok (.aload_n 1, 1) := by decide +kernel
theorem dL_law_735 : decode cL_law 735 = .ok (.invokevirtual 132, 3) := by decide +kernel
theorem dL_law_738 : decode cL_law 738 = .ok (.aload_n 2, 1) := by decide +kernel
theorem dL_law_739 : decode cL_law 739 = .ok (.invokevirtual 135, 3) := by decide +kernel
theorem dL_law_742 : decode cL_law 742 = .ok (.if_icmp .eq 972, 3) := by decide +kernel
theorem dL_law_745 : decode cL_law 745 = .ok (.iconst 0, 1) := by decide +kernel
theorem dL_law_746 : decode cL_law 746 = .ok (.ireturn, 1) := by decide +kernel
theorem dL_law_747 : decode cL_law 747 = .ok (.aload_n 1, 1) := by decide +kernel
theorem dL_law_748 : decode cL_law 748 = .ok (.aload_n 3, 1) := by decide +kernel
theorem dL_law_749 : decode cL_law 749 = .ok (.invokestatic 136, 3) := by decide +kernel
theorem dL_law_752 : decode cL_law 752 = .ok (.istore 5, 2) := by decide +kernel
theorem dL_law_754 : decode cL_law 754 = .ok (.aload_n 2, 1) := by decide +kernel
theorem dL_law_755 : decode cL_law 755 = .ok (.invokevirtual 139, 3) := by decide +kernel
theorem dL_law_758 : decode cL_law 758 = .ok (.istore 6, 2) := by decide +kernel
theorem dL_law_760 : decode cL_law 760 = .ok (.aload_n 2, 1) := by decide +kernel
theorem dL_law_761 : decode cL_law 761 = .ok (.invokevirtual 98, 3) := by decide +kernel
theorem dL_law_764 : decode cL_law 764 = .ok (.iload 5, 2) := by decide +kernel
theorem dL_law_766 : decode cL_law 766 = .ok (.if_icmp .eq 5, 3) := by decide +kernel
theorem dL_law_769 : decode cL_law 769 = .ok (.iconst 0, 1) := by decide +kernel
theorem dL_law_770 : decode cL_law 770 = .ok (.ireturn, 1) := by decide +kernel
theorem dL_law_771 : decode cL_law 771 = .ok (.iload 5, 2) := by decide +kernel
theorem dL_law_773 : decode cL_law 773 = .ok (.ifCond .ne 15, 3) := by decide +kernel
theorem dL_law_776 : decode cL_law 776 = .ok (.aload_n 3, 1) := by decide +kernel
theorem dL_law_777 : decode cL_law 777 = .ok (.iconst 0, 1) := by decide +kernel
theorem dL_law_778 : decode cL_law 778 = .ok (.laload, 1) := by decide +kernel
theorem dL_law_779 : decode cL_law 779 = .ok (.iload 6, 2) := by decide +kernel
theorem dL_law_781 : decode cL_law 781 = .ok (.i2l, 1) := by decide +kernel
theorem dL_law_782 : decode cL_law 782 = .ok (.lcmp, 1) := by decide +kernel
theorem dL_law_783 : decode cL_law 783 = .ok (.ifCond .eq 5, 3) := by decide +kernel
theorem dL_law_786 : decode cL_law 786 = .ok (.iconst 0, 1) := by decide +kernel
theorem dL_law_787 : decode cL_law 787 = .ok (.ireturn, 1) := by decide +kernel
theorem dL_law_788 : decode cL_law 788 = .ok (.goto 926, 3) := by decide +kernel
theorem dL_law_791 : decode cL_law 791 = .ok (.aload_n 1, 1) := by decide +kernel
theorem dL_law_792 : decode cL_law 792 = .ok (.aload_n 3, 1) := by decide +kernel
theorem dL_law_793 : decode cL_law 793 = .ok (.invokestatic 140, 3) := by decide +kernel
theorem dL_law_796 : decode cL_law 796 = .ok (.istore 5, 2) := by decide +kernel
theorem dL_law_798 : decode cL_law 798 = .ok (.aload_n 2, 1) := by decide +kernel
theorem dL_law_799 : decode cL_law 799 = .ok (.invokevirtual 142, 3) := by decide +kernel
theorem dL_law_802 : decode cL_law 802 = .ok (.istore 6, 2) := by decide +kernel
theorem dL_law_804 : decode cL_law 804 = .ok (.aload_n 2, 1) := by decide +kernel
theorem dL_law_805 : decode cL_law 805 = .ok (.invokevirtual 98, 3) := by decide +kernel
theorem dL_law_808 : decode cL_law 808 = .ok (.iload 5, 2) := by decide +kernel
theorem dL_law_810 : decode cL_law 810 = .ok (.if_icmp .eq 5, 3) := by decide +kernel
theorem dL_law_813 : decode cL_law 813 = .ok (.iconst 0, 1) := by decide +kernel
theorem dL_law_814 : decode cL_law 814 = .ok (.ireturn, 1) := by decide +kernel
theorem dL_law_815 : decode cL_law 815 = .ok (.iload 5, 2) := by decide +kernel
theorem dL_law_817 : decode cL_law 817 = .ok (.ifCond .ne 15, 3) := by decide +kernel
theorem dL_law_820 : decode cL_law 820 = .ok (.aload_n 3, 1) := by decide +kernel
theorem dL_law_821 : decode cL_law 821 = .ok (.iconst 0, 1) := by decide +kernel
theorem dL_law_822 : decode cL_law 822 = .ok (.laload, 1) := by decide +kernel
theorem dL_law_823 : decode cL_law 823 = .ok (.iload 6, 2) := by decide +kernel
theorem dL_law_825 : decode cL_law 825 = .ok (.i2l, 1) := by decide +kernel
theorem dL_law_826 : decode cL_law 826 = .ok (.lcmp, 1) := by decide +kernel
theorem dL_law_827 : decode cL_law 827 = .ok (.ifCond .eq 5, 3) := by decide +kernel
theorem dL_law_830 : decode cL_law 830 = .ok (.iconst 0, 1) := by decide +kernel
theorem dL_law_831 : decode cL_law 831 = .ok (.ireturn, 1) := by decide +kernel
theorem dL_law_832 : decode cL_law 832 = .ok (.goto 882, 3) := by decide +kernel
theorem dL_law_835 : decode cL_law 835 = .ok (.aload_n 1, 1) := by decide +kernel
theorem dL_law_836 : decode cL_law 836 = .ok (.aload_n 0, 1) := by decide +kernel
theorem dL_law_837 : decode cL_law 837 = .ok (.iload 4, 2) := by decide +kernel
theorem dL_law_839 : decode cL_law 839 = .ok (.iconst 1, 1) := by decide +kernel
theorem dL_law_840 : decode cL_law 840 = .ok (.iadd, 1) := by decide +kernel
theorem dL_law_841 : decode cL_law 841 = .ok (.iaload, 1) := by decide +kernel
theorem dL_law_842 : decode cL_law 842 = .ok (.aload_n 0, 1) := by decide +kernel
theorem dL_law_843 : decode cL_law 843 = .ok (.iload 4, 2) := by decide +kernel
theorem dL_law_845 : decode cL_law 845 = .ok (.iconst 2, 1) := by decide +kernel
theorem dL_law_846 : decode cL_law 846 = .ok (.iadd, 1) := by decide +kernel
theorem dL_law_847 : decode cL_law 847 = .ok (.iaload, 1) := by decide +kernel
theorem dL_law_848 : decode cL_law 848 = .ok (.aload_n 3, 1) := by decide +kernel
theorem dL_law_849 : decode cL_law 849 = .ok (.invokestatic 143, 3) := by decide +kernel
theorem dL_law_852 : decode cL_law 852 = .ok (.istore 5, 2) := by decide +kernel
theorem dL_law_854 : decode cL_law 854 = .ok (.aload_n 2, 1) := by decide +kernel
theorem dL_law_855 : decode cL_law 855 = .ok (.aload_n 0, 1) := by decide +kernel
theorem dL_law_856 : decode cL_law 856 = .ok (.iload 4, 2) := by decide +kernel
theorem dL_law_858 : decode cL_law 858 = .ok (.iconst 1, 1) := by decide +kernel
theorem dL_law_859 : decode cL_law 859 = .ok (.iadd, 1) := by decide +kernel
theorem dL_law_860 : decode cL_law 860 = .ok (.iaload, 1) := by decide +kernel
theorem dL_law_861 : decode cL_law 861 = .ok (.aload_n 0, 1) := by decide +kernel
theorem dL_law_862 : decode cL_law 862 = .ok (.iload 4, 2) := by decide +kernel
theorem dL_law_864 : decode cL_law 864 = .ok (.iconst 2, 1) := by decide +kernel
theorem dL_law_865 : decode cL_law 865 = .ok (.iadd, 1) := by decide +kernel
theorem dL_law_866 : decode cL_law 866 = .ok (.iaload, 1) := by decide +kernel
theorem dL_law_867 : decode cL_law 867 = .ok (.invokevirtual 145, 3) := by decide +kernel
theorem dL_law_870 : decode cL_law 870 = .ok (.istore 6, 2) := by decide +kernel
theorem dL_law_872 : decode cL_law 872 = .ok (.aload_n 2, 1) := by decide +kernel
theorem dL_law_873 : decode cL_law 873 = .ok (.invokevirtual 98, 3) := by decide +kernel
theorem dL_law_876 : decode cL_law 876 = .ok (.iload 5, 2) := by decide +kernel
theorem dL_law_878 : decode cL_law 878 = .ok (.if_icmp .eq 5, 3) := by decide +kernel
theorem dL_law_881 : decode cL_law 881 = .ok (.iconst 0, 1) := by decide +kernel
theorem dL_law_882 : decode cL_law 882 = .ok (.ireturn, 1) := by decide +kernel
theorem dL_law_883 : decode cL_law 883 = .ok (.iload 5, 2) := by decide +kernel
theorem dL_law_885 : decode cL_law 885 = .ok (.ifCond .ne 15, 3) := by decide +kernel
theorem dL_law_888 : decode cL_law 888 = .ok (.aload_n 3, 1) := by decide +kernel
theorem dL_law_889 : decode cL_law 889 = .ok (.iconst 0, 1) := by decide +kernel
theorem dL_law_890 : decode cL_law 890 = .ok (.laload, 1) := by decide +kernel
theorem dL_law_891 : decode cL_law 891 = .ok (.iload 6, 2) := by decide +kernel
theorem dL_law_893 : decode cL_law 893 = .ok (.i2l, 1) := by decide +kernel
theorem dL_law_894 : decode cL_law 894 = .ok (.lcmp, 1) := by decide +kernel
theorem dL_law_895 : decode cL_law 895 = .ok (.ifCond .eq 5, 3) := by decide +kernel
theorem dL_law_898 : decode cL_law 898 = .ok (.iconst 0, 1) := by decide +kernel
theorem dL_law_899 : decode cL_law 899 = .ok (.ireturn, 1) := by decide +kernel
theorem dL_law_900 : decode cL_law 900 = .ok (.goto 814, 3) := by decide +kernel
theorem dL_law_903 : decode cL_law 903 = .ok (.aload_n 1, 1) := by decide +kernel
theorem dL_law_904 : decode cL_law 904 = .ok (.aload_n 0, 1) := by decide +kernel
theorem dL_law_905 : decode cL_law 905 = .ok (.iload 4, 2) := by decide +kernel
theorem dL_law_907 : decode cL_law 907 = .ok (.iconst 1, 1) := by decide +kernel
theorem dL_law_908 : decode cL_law 908 = .ok (.iadd, 1) := by decide +kernel
theorem dL_law_909 : decode cL_law 909 = .ok (.iaload, 1) := by decide +kernel
theorem dL_law_910 : decode cL_law 910 = .ok (.aload_n 0, 1) := by decide +kernel
theorem dL_law_911 : decode cL_law 911 = .ok (.iload 4, 2) := by decide +kernel
theorem dL_law_913 : decode cL_law 913 = .ok (.iconst 2, 1) := by decide +kernel
theorem dL_law_914 : decode cL_law 914 = .ok (.iadd, 1) := by decide +kernel
theorem dL_law_915 : decode cL_law 915 = .ok (.iaload, 1) := by decide +kernel
theorem dL_law_916 : decode cL_law 916 = .ok (.aload_n 3, 1) := by decide +kernel
theorem dL_law_917 : decode cL_law 917 = .ok (.invokestatic 146, 3) := by decide +kernel
theorem dL_law_920 : decode cL_law 920 = .ok (.istore 5, 2) := by decide +kernel
theorem dL_law_922 : decode cL_law 922 = .ok (.aload_n 2, 1) := by decide +kernel
theorem dL_law_923 : decode cL_law 923 = .ok (.aload_n 0, 1) := by decide +kernel
theorem dL_law_924 : decode cL_law 924 = .ok (.iload 4, 2) := by decide +kernel
theorem dL_law_926 : decode cL_law 926 = .ok (.iconst 1, 1) := by decide +kernel
theorem dL_law_927 : decode cL_law 927 = .ok (.iadd, 1) := by decide +kernel
theorem dL_law_928 : decode cL_law 928 = .ok (.iaload, 1) := by decide +kernel
theorem dL_law_929 : decode cL_law 929 = .ok (.aload_n 0, 1) := by decide +kernel
theorem dL_law_930 : decode cL_law 930 = .ok (.iload 4, 2) := by decide +kernel
theorem dL_law_932 : decode cL_law 932 = .ok (.iconst 2, 1) := by decide +kernel
theorem dL_law_933 : decode cL_law 933 = .ok (.iadd, 1) := by decide +kernel
theorem dL_law_934 : decode cL_law 934 = .ok (.iaload, 1) := by decide +kernel
theorem dL_law_935 : decode cL_law 935 = .ok (.invokevirtual 148, 3) := by decide +kernel
theorem dL_law_938 : decode cL_law 938 = .ok (.istore 6, 2) := by decide +kernel
theorem dL_law_940 : decode cL_law 940 = .ok (.aload_n 2, 1) := by decide +kernel
theorem dL_law_941 : decode cL_law 941 = .ok (.invokevirtual 98, 3) := by decide +kernel
theorem dL_law_944 : decode cL_law 944 = .ok (.iload 5, 2) := by decide +kernel
theorem dL_law_946 : decode cL_law 946 = .ok (.if_icmp .eq 5, 3) := by decide +kernel
theorem dL_law_949 : decode cL_law 949 = .ok (.iconst 0, 1) := by decide +kernel
theorem dL_law_950 : decode cL_law 950 = .ok (.ireturn, 1) := by decide +kernel
theorem dL_law_951 : decode cL_law 951 = .ok (.iload 5, 2) := by decide +kernel
theorem dL_law_953 : decode cL_law 953 = .ok (.ifCond .ne 15, 3) := by decide +kernel
theorem dL_law_956 : decode cL_law 956 = .ok (.aload_n 3, 1) := by decide +kernel
theorem dL_law_957 : decode cL_law 957 = .ok (.iconst 0, 1) := by decide +kernel
theorem dL_law_958 : decode cL_law 958 = .ok (.laload, 1) := by decide +kernel
theorem dL_law_959 : decode cL_law 959 = .ok (.iload 6, 2) := by decide +kernel
theorem dL_law_961 : decode cL_law 961 = .ok (.i2l, 1) := by decide +kernel
theorem dL_law_962 : decode cL_law 962 = .ok (.lcmp, 1) := by decide +kernel
theorem dL_law_963 : decode cL_law 963 = .ok (.ifCond .eq 5, 3) := by decide +kernel
theorem dL_law_966 : decode cL_law 966 = .ok (.iconst 0, 1) := by decide +kernel
theorem dL_law_967 : decode cL_law 967 = .ok (.ireturn, 1) := by decide +kernel
theorem dL_law_968 : decode cL_law 968 = .ok (.goto 746, 3) := by decide +kernel
theorem dL_law_971 : decode cL_law 971 = .ok (.aload_n 1, 1) := by decide +kernel
theorem dL_law_972 : decode cL_law 972 = .ok (.aload_n 0, 1) := by decide +kernel
theorem dL_law_973 : decode cL_law 973 = .ok (.iload 4, 2) := by decide +kernel
theorem dL_law_975 : decode cL_law 975 = .ok (.iconst 1, 1) := by decide +kernel
theorem dL_law_976 : decode cL_law 976 = .ok (.iadd, 1) := by decide +kernel
theorem dL_law_977 : decode cL_law 977 = .ok (.iaload, 1) := by decide +kernel
theorem dL_law_978 : decode cL_law 978 = .ok (.aload_n 3, 1) := by decide +kernel
theorem dL_law_979 : decode cL_law 979 = .ok (.invokestatic 149, 3) := by decide +kernel
theorem dL_law_982 : decode cL_law 982 = .ok (.istore 5, 2) := by decide +kernel
theorem dL_law_984 : decode cL_law 984 = .ok (.aload_n 2, 1) := by decide +kernel
theorem dL_law_985 : decode cL_law 985 = .ok (.aload_n 0, 1) := by decide +kernel
theorem dL_law_986 : decode cL_law 986 = .ok (.iload 4, 2) := by decide +kernel
theorem dL_law_988 : decode cL_law 988 = .ok (.iconst 1, 1) := by decide +kernel
theorem dL_law_989 : decode cL_law 989 = .ok (.iadd, 1) := by decide +kernel
theorem dL_law_990 : decode cL_law 990 = .ok (.iaload, 1) := by decide +kernel
theorem dL_law_991 : decode cL_law 991 = .ok (.invokevirtual 151, 3) := by decide +kernel
theorem dL_law_994 : decode cL_law 994 = .ok (.istore 6, 2) := by decide +kernel
theorem dL_law_996 : decode cL_law 996 = .ok (.aload_n 2, 1) := by decide +kernel
theorem dL_law_997 : decode cL_law 997 = .ok (.invokevirtual 98, 3) := by decide +kernel
theorem dL_law_1000 : decode cL_law 1000 = .ok (.iload 5, 2) := by decide +kernel
theorem dL_law_1002 : decode cL_law 1002 = .ok (.if_icmp .eq 5, 3) := by decide +kernel
theorem dL_law_1005 : decode cL_law 1005 = .ok (.iconst 0, 1) := by decide +kernel
theorem dL_law_1006 : decode cL_law 1006 = .ok (.ireturn, 1) := by decide +kernel
theorem dL_law_1007 : decode cL_law 1007 = .ok (.iload 5, 2) := by decide +kernel
theorem dL_law_1009 : decode cL_law 1009 = .ok (.ifCond .ne 15, 3) := by decide +kernel
theorem dL_law_1012 : decode cL_law 1012 = .ok (.aload_n 3, 1) := by decide +kernel
theorem dL_law_1013 : decode cL_law 1013 = .ok (.iconst 0, 1) := by decide +kernel
theorem dL_law_1014 : decode cL_law 1014 = .ok (.laload, 1) := by decide +kernel
theorem dL_law_1015 : decode cL_law 1015 = .ok (.iload 6, 2) := by decide +kernel
theorem dL_law_1017 : decode cL_law 1017 = .ok (.i2l, 1) := by decide +kernel
theorem dL_law_1018 : decode cL_law 1018 = .ok (.lcmp, 1) := by decide +kernel
theorem dL_law_1019 : decode cL_law 1019 = .ok (.ifCond .eq 5, 3) := by decide +kernel
theorem dL_law_1022 : decode cL_law 1022 = .ok (.iconst 0, 1) := by decide +kernel
theorem dL_law_1023 : decode cL_law 1023 = .ok (.ireturn, 1) := by decide +kernel
theorem dL_law_1024 : decode cL_law 1024 = .ok (.goto 690, 3) := by decide +kernel
theorem dL_law_1027 : decode cL_law 1027 = .ok (.aload_n 1, 1) := by decide +kernel
theorem dL_law_1028 : decode cL_law 1028 = .ok (.aload_n 0, 1) := by decide +kernel
theorem dL_law_1029 : decode cL_law 1029 = .ok (.iload 4, 2) := by decide +kernel
theorem dL_law_1031 : decode cL_law 1031 = .ok (.iconst 1, 1) := by decide +kernel
theorem dL_law_1032 : decode cL_law 1032 = .ok (.iadd, 1) := by decide +kernel
theorem dL_law_1033 : decode cL_law 1033 = .ok (.iaload, 1) := by decide +kernel
theorem dL_law_1034 : decode cL_law 1034 = .ok (.aload_n 0, 1) := by decide +kernel
theorem dL_law_1035 : decode cL_law 1035 = .ok (.iload 4, 2) := by decide +kernel
theorem dL_law_1037 : decode cL_law 1037 = .ok (.iconst 2, 1) := by decide +kernel
theorem dL_law_1038 : decode cL_law 1038 = .ok (.iadd, 1) := by decide +kernel
theorem dL_law_1039 : decode cL_law 1039 = .ok (.iaload, 1) := by decide +kernel
theorem dL_law_1040 : decode cL_law 1040 = .ok (.aload_n 3, 1) := by decide +kernel
theorem dL_law_1041 : decode cL_law 1041 = .ok (.invokestatic 152, 3) := by decide +kernel
theorem dL_law_1044 : decode cL_law 1044 = .ok (.istore 5, 2) := by decide +kernel
theorem dL_law_1046 : decode cL_law 1046 = .ok (.aload_n 2, 1) := by decide +kernel
theorem dL_law_1047 : decode cL_law 1047 = .ok (.aload_n 0, 1) := by decide +kernel
theorem dL_law_1048 : decode cL_law 1048 = .ok (.iload 4, 2) := by decide +kernel
theorem dL_law_1050 : decode cL_law 1050 = .ok (.iconst 1, 1) := by decide +kernel
theorem dL_law_1051 : decode cL_law 1051 = .ok (.iadd, 1) := by decide +kernel
theorem dL_law_1052 : decode cL_law 1052 = .ok (.iaload, 1) := by decide +kernel
theorem dL_law_1053 : decode cL_law 1053 = .ok (.aload_n 0, 1) := by decide +kernel
theorem dL_law_1054 : decode cL_law 1054 = .ok (.iload 4, 2) := by decide +kernel
theorem dL_law_1056 : decode cL_law 1056 = .ok (.iconst 2, 1) := by decide +kernel
theorem dL_law_1057 : decode cL_law 1057 = .ok (.iadd, 1) := by decide +kernel
theorem dL_law_1058 : decode cL_law 1058 = .ok (.iaload, 1) := by decide +kernel
theorem dL_law_1059 : decode cL_law 1059 = .ok (.invokevirtual 154, 3) := by decide +kernel
theorem dL_law_1062 : decode cL_law 1062 = .ok (.istore 6, 2) := by decide +kernel
theorem dL_law_1064 : decode cL_law 1064 = .ok (.aload_n 2, 1) := by decide +kernel
theorem dL_law_1065 : decode cL_law 1065 = .ok (.invokevirtual 98, 3) := by decide +kernel
theorem dL_law_1068 : decode cL_law 1068 = .ok (.iload 5, 2) := by decide +kernel
theorem dL_law_1070 : decode cL_law 1070 = .ok (.if_icmp .eq 5, 3) := by decide +kernel
theorem dL_law_1073 : decode cL_law 1073 = .ok (.iconst 0, 1) := by decide +kernel
theorem dL_law_1074 : decode cL_law 1074 = .ok (.ireturn, 1) := by decide +kernel
theorem dL_law_1075 : decode cL_law 1075 = .ok (.iload 5, 2) := by decide +kernel
theorem dL_law_1077 : decode cL_law 1077 = .ok (.ifCond .ne 15, 3) := by decide +kernel
theorem dL_law_1080 : decode cL_law 1080 = .ok (.aload_n 3, 1) := by decide +kernel
theorem dL_law_1081 : decode cL_law 1081 = .ok (.iconst 0, 1) := by decide +kernel
theorem dL_law_1082 : decode cL_law 1082 = .ok (.laload, 1) := by decide +kernel
theorem dL_law_1083 : decode cL_law 1083 = .ok (.iload 6, 2) := by decide +kernel
theorem dL_law_1085 : decode cL_law 1085 = .ok (.i2l, 1) := by decide +kernel
theorem dL_law_1086 : decode cL_law 1086 = .ok (.lcmp, 1) := by decide +kernel
theorem dL_law_1087 : decode cL_law 1087 = .ok (.ifCond .eq 5, 3) := by decide +kernel
theorem dL_law_1090 : decode cL_law 1090 = .ok (.iconst 0, 1) := by decide +kernel
theorem dL_law_1091 : decode cL_law 1091 = .ok (.ireturn, 1) := by decide +kernel
theorem dL_law_1092 : decode cL_law 1092 = .ok (.goto 622, 3) := by decide +kernel
theorem dL_law_1095 : decode cL_law 1095 = .ok (.aload_n 1, 1) := by decide +kernel
theorem dL_law_1096 : decode cL_law 1096 = .ok (.aload_n 0, 1) := by decide +kernel
theorem dL_law_1097 : decode cL_law 1097 = .ok (.iload 4, 2) := by decide +kernel
theorem dL_law_1099 : decode cL_law 1099 = .ok (.iconst 1, 1) := by decide +kernel
theorem dL_law_1100 : decode cL_law 1100 = .ok (.iadd, 1) := by decide +kernel
theorem dL_law_1101 : decode cL_law 1101 = .ok (.iaload, 1) := by decide +kernel
theorem dL_law_1102 : decode cL_law 1102 = .ok (.aload_n 0, 1) := by decide +kernel
theorem dL_law_1103 : decode cL_law 1103 = .ok (.iload 4, 2) := by decide +kernel
theorem dL_law_1105 : decode cL_law 1105 = .ok (.iconst 2, 1) := by decide +kernel
theorem dL_law_1106 : decode cL_law 1106 = .ok (.iadd, 1) := by decide +kernel
theorem dL_law_1107 : decode cL_law 1107 = .ok (.iaload, 1) := by decide +kernel
theorem dL_law_1108 : decode cL_law 1108 = .ok (.aload_n 3, 1) := by decide +kernel
theorem dL_law_1109 : decode cL_law 1109 = .ok (.invokestatic 155, 3) := by decide +kernel
theorem dL_law_1112 : decode cL_law 1112 = .ok (.istore 5, 2) := by decide +kernel
theorem dL_law_1114 : decode cL_law 1114 = .ok (.aload_n 2, 1) := by decide +kernel
theorem dL_law_1115 : decode cL_law 1115 = .ok (.aload_n 0, 1) := by decide +kernel
theorem dL_law_1116 : decode cL_law 1116 = .ok (.iload 4, 2) := by decide +kernel
theorem dL_law_1118 : decode cL_law 1118 = .ok (.iconst 1, 1) := by decide +kernel
theorem dL_law_1119 : decode cL_law 1119 = .ok (.iadd, 1) := by decide +kernel
theorem dL_law_1120 : decode cL_law 1120 = .ok (.iaload, 1) := by decide +kernel
theorem dL_law_1121 : decode cL_law 1121 = .ok (.aload_n 0, 1) := by decide +kernel
theorem dL_law_1122 : decode cL_law 1122 = .ok (.iload 4, 2) := by decide +kernel
theorem dL_law_1124 : decode cL_law 1124 = .ok (.iconst 2, 1) := by decide +kernel
theorem dL_law_1125 : decode cL_law 1125 = .ok (.iadd, 1) := by decide +kernel
theorem dL_law_1126 : decode cL_law 1126 = .ok (.iaload, 1) := by decide +kernel
theorem dL_law_1127 : decode cL_law 1127 = .ok (.invokevirtual 157, 3) := by decide +kernel
theorem dL_law_1130 : decode cL_law 1130 = .ok (.istore 6, 2) := by decide +kernel
theorem dL_law_1132 : decode cL_law 1132 = .ok (.aload_n 2, 1) := by decide +kernel
theorem dL_law_1133 : decode cL_law 1133 = .ok (.invokevirtual 98, 3) := by decide +kernel
theorem dL_law_1136 : decode cL_law 1136 = .ok (.iload 5, 2) := by decide +kernel
theorem dL_law_1138 : decode cL_law 1138 = .ok (.if_icmp .eq 5, 3) := by decide +kernel
theorem dL_law_1141 : decode cL_law 1141 = .ok (.iconst 0, 1) := by decide +kernel
theorem dL_law_1142 : decode cL_law 1142 = .ok (.ireturn, 1) := by decide +kernel
theorem dL_law_1143 : decode cL_law 1143 = .ok (.iload 5, 2) := by decide +kernel
theorem dL_law_1145 : decode cL_law 1145 = .ok (.ifCond .ne 15, 3) := by decide +kernel
theorem dL_law_1148 : decode cL_law 1148 = .ok (.aload_n 3, 1) := by decide +kernel
theorem dL_law_1149 : decode cL_law 1149 = .ok (.iconst 0, 1) := by decide +kernel
theorem dL_law_1150 : decode cL_law 1150 = .ok (.laload, 1) := by decide +kernel
theorem dL_law_1151 : decode cL_law 1151 = .ok (.iload 6, 2) := by decide +kernel
theorem dL_law_1153 : decode cL_law 1153 = .ok (.i2l, 1) := by decide +kernel
theorem dL_law_1154 : decode cL_law 1154 = .ok (.lcmp, 1) := by decide +kernel
theorem dL_law_1155 : decode cL_law 1155 = .ok (.ifCond .eq 5, 3) := by decide +kernel
theorem dL_law_1158 : decode cL_law 1158 = .ok (.iconst 0, 1) := by decide +kernel
theorem dL_law_1159 : decode cL_law 1159 = .ok (.ireturn, 1) := by decide +kernel
theorem dL_law_1160 : decode cL_law 1160 = .ok (.goto 554, 3) := by decide +kernel
theorem dL_law_1163 : decode cL_law 1163 = .ok (.aload_n 1, 1) := by decide +kernel
theorem dL_law_1164 : decode cL_law 1164 = .ok (.aload_n 0, 1) := by decide +kernel
theorem dL_law_1165 : decode cL_law 1165 = .ok (.iload 4, 2) := by decide +kernel
theorem dL_law_1167 : decode cL_law 1167 = .ok (.iconst 1, 1) := by decide +kernel
theorem dL_law_1168 : decode cL_law 1168 = .ok (.iadd, 1) := by decide +kernel
theorem dL_law_1169 : decode cL_law 1169 = .ok (.iaload, 1) := by decide +kernel
theorem dL_law_1170 : decode cL_law 1170 = .ok (.aload_n 0, 1) := by decide +kernel
theorem dL_law_1171 : decode cL_law 1171 = .ok (.iload 4, 2) := by decide +kernel
theorem dL_law_1173 : decode cL_law 1173 = .ok (.iconst 2, 1) := by decide +kernel
theorem dL_law_1174 : decode cL_law 1174 = .ok (.iadd, 1) := by decide +kernel
theorem dL_law_1175 : decode cL_law 1175 = .ok (.iaload, 1) := by decide +kernel
theorem dL_law_1176 : decode cL_law 1176 = .ok (.aload_n 3, 1) := by decide +kernel
theorem dL_law_1177 : decode cL_law 1177 = .ok (.invokestatic 158, 3) := by decide +kernel
theorem dL_law_1180 : decode cL_law 1180 = .ok (.istore 5, 2) := by decide +kernel
theorem dL_law_1182 : decode cL_law 1182 = .ok (.aload_n 2, 1) := by decide +kernel
theorem dL_law_1183 : decode cL_law 1183 = .ok (.aload_n 0, 1) := by decide +kernel
theorem dL_law_1184 : decode cL_law 1184 = .ok (.iload 4, 2) := by decide +kernel
theorem dL_law_1186 : decode cL_law 1186 = .ok (.iconst 1, 1) := by decide +kernel
theorem dL_law_1187 : decode cL_law 1187 = .ok (.iadd, 1) := by decide +kernel
theorem dL_law_1188 : decode cL_law 1188 = .ok (.iaload, 1) := by decide +kernel
theorem dL_law_1189 : decode cL_law 1189 = .ok (.aload_n 0, 1) := by decide +kernel
theorem dL_law_1190 : decode cL_law 1190 = .ok (.iload 4, 2) := by decide +kernel
theorem dL_law_1192 : decode cL_law 1192 = .ok (.iconst 2, 1) := by decide +kernel
theorem dL_law_1193 : decode cL_law 1193 = .ok (.iadd, 1) := by decide +kernel
theorem dL_law_1194 : decode cL_law 1194 = .ok (.iaload, 1) := by decide +kernel
theorem dL_law_1195 : decode cL_law 1195 = .ok (.invokevirtual 160, 3) := by decide +kernel
theorem dL_law_1198 : decode cL_law 1198 = .ok (.istore 6, 2) := by decide +kernel
theorem dL_law_1200 : decode cL_law 1200 = .ok (.aload_n 2, 1) := by decide +kernel
theorem dL_law_1201 : decode cL_law 1201 = .ok (.invokevirtual 98, 3) := by decide +kernel
theorem dL_law_1204 : decode cL_law 1204 = .ok (.iload 5, 2) := by decide +kernel
theorem dL_law_1206 : decode cL_law 1206 = .ok (.if_icmp .eq 5, 3) := by decide +kernel
theorem dL_law_1209 : decode cL_law 1209 = .ok (.iconst 0, 1) := by decide +kernel
theorem dL_law_1210 : decode cL_law 1210 = .ok (.ireturn, 1) := by decide +kernel
theorem dL_law_1211 : decode cL_law 1211 = .ok (.iload 5, 2) := by decide +kernel
theorem dL_law_1213 : decode cL_law 1213 = .ok (.ifCond .ne 15, 3) := by decide +kernel
theorem dL_law_1216 : decode cL_law 1216 = .ok (.aload_n 3, 1) := by decide +kernel
theorem dL_law_1217 : decode cL_law 1217 = .ok (.iconst 0, 1) := by decide +kernel
theorem dL_law_1218 : decode cL_law 1218 = .ok (.laload, 1) := by decide +kernel
theorem dL_law_1219 : decode cL_law 1219 = .ok (.iload 6, 2) := by decide +kernel
theorem dL_law_1221 : decode cL_law 1221 = .ok (.i2l, 1) := by decide +kernel
theorem dL_law_1222 : decode cL_law 1222 = .ok (.lcmp, 1) := by decide +kernel
theorem dL_law_1223 : decode cL_law 1223 = .ok (.ifCond .eq 5, 3) := by decide +kernel
theorem dL_law_1226 : decode cL_law 1226 = .ok (.iconst 0, 1) := by decide +kernel
theorem dL_law_1227 : decode cL_law 1227 = .ok (.ireturn, 1) := by decide +kernel
theorem dL_law_1228 : decode cL_law 1228 = .ok (.goto 486, 3) := by decide +kernel
theorem dL_law_1231 : decode cL_law 1231 = .ok (.aload_n 1, 1) := by decide +kernel
theorem dL_law_1232 : decode cL_law 1232 = .ok (.aload_n 0, 1) := by decide +kernel
theorem dL_law_1233 : decode cL_law 1233 = .ok (.iload 4, 2) := by decide +kernel
theorem dL_law_1235 : decode cL_law 1235 = .ok (.iconst 1, 1) := by decide +kernel
theorem dL_law_1236 : decode cL_law 1236 = .ok (.iadd, 1) := by decide +kernel
theorem dL_law_1237 : decode cL_law 1237 = .ok (.iaload, 1) := by decide +kernel
theorem dL_law_1238 : decode cL_law 1238 = .ok (.aload_n 0, 1) := by decide +kernel
theorem dL_law_1239 : decode cL_law 1239 = .ok (.iload 4, 2) := by decide +kernel
theorem dL_law_1241 : decode cL_law 1241 = .ok (.iconst 2, 1) := by decide +kernel
theorem dL_law_1242 : decode cL_law 1242 = .ok (.iadd, 1) := by decide +kernel
theorem dL_law_1243 : decode cL_law 1243 = .ok (.iaload, 1) := by decide +kernel
theorem dL_law_1244 : decode cL_law 1244 = .ok (.aload_n 3, 1) := by decide +kernel
theorem dL_law_1245 : decode cL_law 1245 = .ok (.invokestatic 161, 3) := by decide +kernel
theorem dL_law_1248 : decode cL_law 1248 = .ok (.istore 5, 2) := by decide +kernel
theorem dL_law_1250 : decode cL_law 1250 = .ok (.aload_n 2, 1) := by decide +kernel
theorem dL_law_1251 : decode cL_law 1251 = .ok (.aload_n 0, 1) := by decide +kernel
theorem dL_law_1252 : decode cL_law 1252 = .ok (.iload 4, 2) := by decide +kernel
theorem dL_law_1254 : decode cL_law 1254 = .ok (.iconst 1, 1) := by decide +kernel
theorem dL_law_1255 : decode cL_law 1255 = .ok (.iadd, 1) := by decide +kernel
theorem dL_law_1256 : decode cL_law 1256 = .ok (.iaload, 1) := by decide +kernel
theorem dL_law_1257 : decode cL_law 1257 = .ok (.aload_n 0, 1) := by decide +kernel
theorem dL_law_1258 : decode cL_law 1258 = .ok (.iload 4, 2) := by decide +kernel
theorem dL_law_1260 : decode cL_law 1260 = .ok (.iconst 2, 1) := by decide +kernel
theorem dL_law_1261 : decode cL_law 1261 = .ok (.iadd, 1) := by decide +kernel
theorem dL_law_1262 : decode cL_law 1262 = .ok (.iaload, 1) := by decide +kernel
theorem dL_law_1263 : decode cL_law 1263 = .ok (.invokevirtual 163, 3) := by decide +kernel
theorem dL_law_1266 : decode cL_law 1266 = .ok (.istore 6, 2) := by decide +kernel
theorem dL_law_1268 : decode cL_law 1268 = .ok (.aload_n 2, 1) := by decide +kernel
theorem dL_law_1269 : decode cL_law 1269 = .ok (.invokevirtual 98, 3) := by decide +kernel
theorem dL_law_1272 : decode cL_law 1272 = .ok (.iload 5, 2) := by decide +kernel
theorem dL_law_1274 : decode cL_law 1274 = .ok (.if_icmp .eq 5, 3) := by decide +kernel
theorem dL_law_1277 : decode cL_law 1277 = .ok (.iconst 0, 1) := by decide +kernel
theorem dL_law_1278 : decode cL_law 1278 = .ok (.ireturn, 1) := by decide +kernel
theorem dL_law_1279 : decode cL_law 1279 = .ok (.iload 5, 2) := by decide +kernel
theorem dL_law_1281 : decode cL_law 1281 = .ok (.ifCond .ne 15, 3) := by decide +kernel
theorem dL_law_1284 : decode cL_law 1284 = .ok (.aload_n 3, 1) := by decide +kernel
theorem dL_law_1285 : decode cL_law 1285 = .ok (.iconst 0, 1) := by decide +kernel
theorem dL_law_1286 : decode cL_law 1286 = .ok (.laload, 1) := by decide +kernel
theorem dL_law_1287 : decode cL_law 1287 = .ok (.iload 6, 2) := by decide +kernel
theorem dL_law_1289 : decode cL_law 1289 = .ok (.i2l, 1) := by decide +kernel
theorem dL_law_1290 : decode cL_law 1290 = .ok (.lcmp, 1) := by decide +kernel
theorem dL_law_1291 : decode cL_law 1291 = .ok (.ifCond .eq 5, 3) := by decide +kernel
theorem dL_law_1294 : decode cL_law 1294 = .ok (.iconst 0, 1) := by decide +kernel
theorem dL_law_1295 : decode cL_law 1295 = .ok (.ireturn, 1) := by decide +kernel
theorem dL_law_1296 : decode cL_law 1296 = .ok (.goto 418, 3) := by decide +kernel
theorem dL_law_1299 : decode cL_law 1299 = .ok (.aload_n 1, 1) := by decide +kernel
theorem dL_law_1300 : decode cL_law 1300 = .ok (.aload_n 0, 1) := by decide +kernel
theorem dL_law_1301 : decode cL_law 1301 = .ok (.iload 4, 2) := by decide +kernel
theorem dL_law_1303 : decode cL_law 1303 = .ok (.iconst 1, 1) := by decide +kernel
theorem dL_law_1304 : decode cL_law 1304 = .ok (.iadd, 1) := by decide +kernel
theorem dL_law_1305 : decode cL_law 1305 = .ok (.iaload, 1) := by decide +kernel
theorem dL_law_1306 : decode cL_law 1306 = .ok (.aload_n 3, 1) := by decide +kernel
theorem dL_law_1307 : decode cL_law 1307 = .ok (.invokestatic 164, 3) := by decide +kernel
theorem dL_law_1310 : decode cL_law 1310 = .ok (.istore 5, 2) := by decide +kernel
theorem dL_law_1312 : decode cL_law 1312 = .ok (.aload_n 2, 1) := by decide +kernel
theorem dL_law_1313 : decode cL_law 1313 = .ok (.aload_n 0, 1) := by decide +kernel
theorem dL_law_1314 : decode cL_law 1314 = .ok (.iload 4, 2) := by decide +kernel
theorem dL_law_1316 : decode cL_law 1316 = .ok (.iconst 1, 1) := by decide +kernel
theorem dL_law_1317 : decode cL_law 1317 = .ok (.iadd, 1) := by decide +kernel
theorem dL_law_1318 : decode cL_law 1318 = .ok (.iaload, 1) := by decide +kernel
theorem dL_law_1319 : decode cL_law 1319 = .ok (.invokevirtual 166, 3) := by decide +kernel
theorem dL_law_1322 : decode cL_law 1322 = .ok (.istore 6, 2) := by decide +kernel
theorem dL_law_1324 : decode cL_law 1324 = .ok (.aload_n 2, 1) := by decide +kernel
theorem dL_law_1325 : decode cL_law 1325 = .ok (.invokevirtual 98, 3) := by decide +kernel
theorem dL_law_1328 : decode cL_law 1328 = .ok (.iload 5, 2) := by decide +kernel
theorem dL_law_1330 : decode cL_law 1330 = .ok (.if_icmp .eq 5, 3) := by decide +kernel
theorem dL_law_1333 : decode cL_law 1333 = .ok (.iconst 0, 1) := by decide +kernel
theorem dL_law_1334 : decode cL_law 1334 = .ok (.ireturn, 1) := by decide +kernel
theorem dL_law_1335 : decode cL_law 1335 = .ok (.iload 5, 2) := by decide +kernel
theorem dL_law_1337 : decode cL_law 1337 = .ok (.ifCond .ne 15, 3) := by decide +kernel
theorem dL_law_1340 : decode cL_law 1340 = .ok (.aload_n 3, 1) := by decide +kernel
theorem dL_law_1341 : decode cL_law 1341 = .ok (.iconst 0, 1) := by decide +kernel
theorem dL_law_1342 : decode cL_law 1342 = .ok (.laload, 1) := by decide +kernel
theorem dL_law_1343 : decode cL_law 1343 = .ok (.iload 6, 2) := by decide +kernel
theorem dL_law_1345 : decode cL_law 1345 = .ok (.i2l, 1) := by decide +kernel
theorem dL_law_1346 : decode cL_law 1346 = .ok (.lcmp, 1) := by decide +kernel
theorem dL_law_1347 : decode cL_law 1347 = .ok (.ifCond .eq 5, 3) := by decide +kernel
theorem dL_law_1350 : decode cL_law 1350 = .ok (.iconst 0, 1) := by decide +kernel
theorem dL_law_1351 : decode cL_law 1351 = .ok (.ireturn, 1) := by decide +kernel
theorem dL_law_1352 : decode cL_law 1352 = .ok (.goto 362, 3) := by decide +kernel
theorem dL_law_1355 : decode cL_law 1355 = .ok (.aload_n 1, 1) := by decide +kernel
theorem dL_law_1356 : decode cL_law 1356 = .ok (.aload_n 0, 1) := by decide +kernel
theorem dL_law_1357 : decode cL_law 1357 = .ok (.iload 4, 2) := by decide +kernel
theorem dL_law_1359 : decode cL_law 1359 = .ok (.iconst 1, 1) := by decide +kernel
theorem dL_law_1360 : decode cL_law 1360 = .ok (.iadd, 1) := by decide +kernel
theorem dL_law_1361 : decode cL_law 1361 = .ok (.iaload, 1) := by decide +kernel
theorem dL_law_1362 : decode cL_law 1362 = .ok (.aload_n 0, 1) := by decide +kernel
theorem dL_law_1363 : decode cL_law 1363 = .ok (.iload 4, 2) := by decide +kernel
theorem dL_law_1365 : decode cL_law 1365 = .ok (.iconst 2, 1) := by decide +kernel
theorem dL_law_1366 : decode cL_law 1366 = .ok (.iadd, 1) := by decide +kernel
theorem dL_law_1367 : decode cL_law 1367 = .ok (.iaload, 1) := by decide +kernel
theorem dL_law_1368 : decode cL_law 1368 = .ok (.aload_n 3, 1) := by decide +kernel
theorem dL_law_1369 : decode cL_law 1369 = .ok (.invokestatic 167, 3) := by decide +kernel
theorem dL_law_1372 : decode cL_law 1372 = .ok (.istore 5, 2) := by decide +kernel
theorem dL_law_1374 : decode cL_law 1374 = .ok (.aload_n 2, 1) := by decide +kernel
theorem dL_law_1375 : decode cL_law 1375 = .ok (.aload_n 0, 1) := by decide +kernel
theorem dL_law_1376 : decode cL_law 1376 = .ok (.iload 4, 2) := by decide +kernel
theorem dL_law_1378 : decode cL_law 1378 = .ok (.iconst 1, 1) := by decide +kernel
theorem dL_law_1379 : decode cL_law 1379 = .ok (.iadd, 1) := by decide +kernel
theorem dL_law_1380 : decode cL_law 1380 = .ok (.iaload, 1) := by decide +kernel
theorem dL_law_1381 : decode cL_law 1381 = .ok (.aload_n 0, 1) := by decide +kernel
theorem dL_law_1382 : decode cL_law 1382 = .ok (.iload 4, 2) := by decide +kernel
theorem dL_law_1384 : decode cL_law 1384 = .ok (.iconst 2, 1) := by decide +kernel
theorem dL_law_1385 : decode cL_law 1385 = .ok (.iadd, 1) := by decide +kernel
theorem dL_law_1386 : decode cL_law 1386 = .ok (.iaload, 1) := by decide +kernel
theorem dL_law_1387 : decode cL_law 1387 = .ok (.invokevirtual 169, 3) := by decide +kernel
theorem dL_law_1390 : decode cL_law 1390 = .ok (.istore 6, 2) := by decide +kernel
theorem dL_law_1392 : decode cL_law 1392 = .ok (.aload_n 2, 1) := by decide +kernel
theorem dL_law_1393 : decode cL_law 1393 = .ok (.invokevirtual 98, 3) := by decide +kernel
theorem dL_law_1396 : decode cL_law 1396 = .ok (.iload 5, 2) := by decide +kernel
theorem dL_law_1398 : decode cL_law 1398 = .ok (.if_icmp .eq 5, 3) := by decide +kernel
theorem dL_law_1401 : decode cL_law 1401 = .ok (.iconst 0, 1) := by decide +kernel
theorem dL_law_1402 : decode cL_law 1402 = .ok (.ireturn, 1) := by decide +kernel
theorem dL_law_1403 : decode cL_law 1403 = .ok (.iload 5, 2) := by decide +kernel
theorem dL_law_1405 : decode cL_law 1405 = .ok (.ifCond .ne 15, 3) := by decide +kernel
theorem dL_law_1408 : decode cL_law 1408 = .ok (.aload_n 3, 1) := by decide +kernel
theorem dL_law_1409 : decode cL_law 1409 = .ok (.iconst 0, 1) := by decide +kernel
theorem dL_law_1410 : decode cL_law 1410 = .ok (.laload, 1) := by decide +kernel
theorem dL_law_1411 : decode cL_law 1411 = .ok (.iload 6, 2) := by decide +kernel
theorem dL_law_1413 : decode cL_law 1413 = .ok (.i2l, 1) := by decide +kernel
theorem dL_law_1414 : decode cL_law 1414 = .ok (.lcmp, 1) := by decide +kernel
theorem dL_law_1415 : decode cL_law 1415 = .ok (.ifCond .eq 5, 3) := by decide +kernel
theorem dL_law_1418 : decode cL_law 1418 = .ok (.iconst 0, 1) := by decide +kernel
theorem dL_law_1419 : decode cL_law 1419 = .ok (.ireturn, 1) := by decide +kernel
theorem dL_law_1420 : decode cL_law 1420 = .ok (.goto 294, 3) := by decide +kernel
theorem dL_law_1423 : decode cL_law 1423 = .ok (.aload_n 1, 1) := by decide +kernel
theorem dL_law_1424 : decode cL_law 1424 = .ok (.aload_n 0, 1) := by decide +kernel
theorem dL_law_1425 : decode cL_law 1425 = .ok (.iload 4, 2) := by decide +kernel
theorem dL_law_1427 : decode cL_law 1427 = .ok (.iconst 1, 1) := by decide +kernel
theorem dL_law_1428 : decode cL_law 1428 = .ok (.iadd, 1) := by decide +kernel
theorem dL_law_1429 : decode cL_law 1429 = .ok (.iaload, 1) := by decide +kernel
theorem dL_law_1430 : decode cL_law 1430 = .ok (.aload_n 3, 1) := by decide +kernel
theorem dL_law_1431 : decode cL_law 1431 = .ok (.invokestatic 170, 3) := by decide +kernel
theorem dL_law_1434 : decode cL_law 1434 = .ok (.istore 5, 2) := by decide +kernel
theorem dL_law_1436 : decode cL_law 1436 = .ok (.aload_n 2, 1) := by decide +kernel
theorem dL_law_1437 : decode cL_law 1437 = .ok (.aload_n 0, 1) := by decide +kernel
theorem dL_law_1438 : decode cL_law 1438 = .ok (.iload 4, 2) := by decide +kernel
theorem dL_law_1440 : decode cL_law 1440 = .ok (.iconst 1, 1) := by decide +kernel
theorem dL_law_1441 : decode cL_law 1441 = .ok (.iadd, 1) := by decide +kernel
theorem dL_law_1442 : decode cL_law 1442 = .ok (.iaload, 1) := by decide +kernel
theorem dL_law_1443 : decode cL_law 1443 = .ok (.invokevirtual 172, 3) := by decide +kernel
theorem dL_law_1446 : decode cL_law 1446 = .ok (.istore 6, 2) := by decide +kernel
theorem dL_law_1448 : decode cL_law 1448 = .ok (.aload_n 2, 1) := by decide +kernel
theorem dL_law_1449 : decode cL_law 1449 = .ok (.invokevirtual 98, 3) := by decide +kernel
theorem dL_law_1452 : decode cL_law 1452 = .ok (.iload 5, 2) := by decide +kernel
theorem dL_law_1454 : decode cL_law 1454 = .ok (.if_icmp .eq 5, 3) := by decide +kernel
theorem dL_law_1457 : decode cL_law 1457 = .ok (.iconst 0, 1) := by decide +kernel
theorem dL_law_1458 : decode cL_law 1458 = .ok (.ireturn, 1) := by decide +kernel
theorem dL_law_1459 : decode cL_law 1459 = .ok (.iload 5, 2) := by decide +kernel
theorem dL_law_1461 : decode cL_law 1461 = .ok (.ifCond .ne 15, 3) := by decide +kernel
theorem dL_law_1464 : decode cL_law 1464 = .ok (.aload_n 3, 1) := by decide +kernel
theorem dL_law_1465 : decode cL_law 1465 = .ok (.iconst 0, 1) := by decide +kernel
theorem dL_law_1466 : decode cL_law 1466 = .ok (.laload, 1) := by decide +kernel
theorem dL_law_1467 : decode cL_law 1467 = .ok (.iload 6, 2) := by decide +kernel
theorem dL_law_1469 : decode cL_law 1469 = .ok (.i2l, 1) := by decide +kernel
theorem dL_law_1470 : decode cL_law 1470 = .ok (.lcmp, 1) := by decide +kernel
theorem dL_law_1471 : decode cL_law 1471 = .ok (.ifCond .eq 5, 3) := by decide +kernel
theorem dL_law_1474 : decode cL_law 1474 = .ok (.iconst 0, 1) := by decide +kernel
theorem dL_law_1475 : decode cL_law 1475 = .ok (.ireturn, 1) := by decide +kernel
theorem dL_law_1476 : decode cL_law 1476 = .ok (.goto 238, 3) := by decide +kernel
theorem dL_law_1479 : decode cL_law 1479 = .ok (.aload_n 1, 1) := by decide +kernel
theorem dL_law_1480 : decode cL_law 1480 = .ok (.aload_n 0, 1) := by decide +kernel
theorem dL_law_1481 : decode cL_law 1481 = .ok (.iload 4, 2) := by decide +kernel
theorem dL_law_1483 : decode cL_law 1483 = .ok (.iconst 1, 1) := by decide +kernel
theorem dL_law_1484 : decode cL_law 1484 = .ok (.iadd, 1) := by decide +kernel
theorem dL_law_1485 : decode cL_law 1485 = .ok (.iaload, 1) := by decide +kernel
theorem dL_law_1486 : decode cL_law 1486 = .ok (.aload_n 3, 1) := by decide +kernel
theorem dL_law_1487 : decode cL_law 1487 = .ok (.invokestatic 173, 3) := by decide +kernel
theorem dL_law_1490 : decode cL_law 1490 = .ok (.istore 5, 2) := by decide +kernel
theorem dL_law_1492 : decode cL_law 1492 = .ok (.aload_n 2, 1) := by decide +kernel
theorem dL_law_1493 : decode cL_law 1493 = .ok (.aload_n 0, 1) := by decide +kernel
theorem dL_law_1494 : decode cL_law 1494 = .ok (.iload 4, 2) := by decide +kernel
theorem dL_law_1496 : decode cL_law 1496 = .ok (.iconst 1, 1) := by decide +kernel
theorem dL_law_1497 : decode cL_law 1497 = .ok (.iadd, 1) := by decide +kernel
theorem dL_law_1498 : decode cL_law 1498 = .ok (.iaload, 1) := by decide +kernel
theorem dL_law_1499 : decode cL_law 1499 = .ok (.invokevirtual 175, 3) := by decide +kernel
theorem dL_law_1502 : decode cL_law 1502 = .ok (.istore 6, 2) := by decide +kernel
theorem dL_law_1504 : decode cL_law 1504 = .ok (.aload_n 2, 1) := by decide +kernel
theorem dL_law_1505 : decode cL_law 1505 = .ok (.invokevirtual 98, 3) := by decide +kernel
theorem dL_law_1508 : decode cL_law 1508 = .ok (.iload 5, 2) := by decide +kernel
theorem dL_law_1510 : decode cL_law 1510 = .ok (.if_icmp .eq 5, 3) := by decide +kernel
theorem dL_law_1513 : decode cL_law 1513 = .ok (.iconst 0, 1) := by decide +kernel
theorem dL_law_1514 : decode cL_law 1514 = .ok (.ireturn, 1) := by decide +kernel
theorem dL_law_1515 : decode cL_law 1515 = .ok (.iload 5, 2) := by decide +kernel
theorem dL_law_1517 : decode cL_law 1517 = .ok (.ifCond .ne 15, 3) := by decide +kernel
theorem dL_law_1520 : decode cL_law 1520 = .ok (.aload_n 3, 1) := by decide +kernel
theorem dL_law_1521 : decode cL_law 1521 = .ok (.iconst 0, 1) := by decide +kernel
theorem dL_law_1522 : decode cL_law 1522 = .ok (.laload, 1) := by decide +kernel
theorem dL_law_1523 : decode cL_law 1523 = .ok (.iload 6, 2) := by decide +kernel
theorem dL_law_1525 : decode cL_law 1525 = .ok (.i2l, 1) := by decide +kernel
theorem dL_law_1526 : decode cL_law 1526 = .ok (.lcmp, 1) := by decide +kernel
theorem dL_law_1527 : decode cL_law 1527 = .ok (.ifCond .eq 5, 3) := by decide +kernel
theorem dL_law_1530 : decode cL_law 1530 = .ok (.iconst 0, 1) := by decide +kernel
theorem dL_law_1531 : decode cL_law 1531 = .ok (.ireturn, 1) := by decide +kernel
theorem dL_law_1532 : decode cL_law 1532 = .ok (.goto 182, 3) := by decide +kernel
theorem dL_law_1535 : decode cL_law 1535 = .ok (.aload_n 1, 1) := by decide +kernel
theorem dL_law_1536 : decode cL_law 1536 = .ok (.aload_n 0, 1) := by decide +kernel
theorem dL_law_1537 : decode cL_law 1537 = .ok (.iload 4, 2) := by decide +kernel
theorem dL_law_1539 : decode cL_law 1539 = .ok (.iconst 1, 1) := by decide +kernel
theorem dL_law_1540 : decode cL_law 1540 = .ok (.iadd, 1) := by decide +kernel
theorem dL_law_1541 : decode cL_law 1541 = .ok (.iaload, 1) := by decide +kernel
theorem dL_law_1542 : decode cL_law 1542 = .ok (.aload_n 3, 1) := by decide +kernel
theorem dL_law_1543 : decode cL_law 1543 = .ok (.invokestatic 176, 3) := by decide +kernel
theorem dL_law_1546 : decode cL_law 1546 = .ok (.istore 5, 2) := by decide +kernel
theorem dL_law_1548 : decode cL_law 1548 = .ok (.aload_n 2, 1) := by decide +kernel
theorem dL_law_1549 : decode cL_law 1549 = .ok (.aload_n 0, 1) := by decide +kernel
theorem dL_law_1550 : decode cL_law 1550 = .ok (.iload 4, 2) := by decide +kernel
theorem dL_law_1552 : decode cL_law 1552 = .ok (.iconst 1, 1) := by decide +kernel
theorem dL_law_1553 : decode cL_law 1553 = .ok (.iadd, 1) := by decide +kernel
theorem dL_law_1554 : decode cL_law 1554 = .ok (.iaload, 1) := by decide +kernel
theorem dL_law_1555 : decode cL_law 1555 = .ok (.invokevirtual 178, 3) := by decide +kernel
theorem dL_law_1558 : decode cL_law 1558 = .ok (.istore 6, 2) := by decide +kernel
theorem dL_law_1560 : decode cL_law 1560 = .ok (.aload_n 2, 1) := by decide +kernel
theorem dL_law_1561 : decode cL_law 1561 = .ok (.invokevirtual 98, 3) := by decide +kernel
theorem dL_law_1564 : decode cL_law 1564 = .ok (.iload 5, 2) := by decide +kernel
theorem dL_law_1566 : decode cL_law 1566 = .ok (.if_icmp .eq 5, 3) := by decide +kernel
theorem dL_law_1569 : decode cL_law 1569 = .ok (.iconst 0, 1) := by decide +kernel
theorem dL_law_1570 : decode cL_law 1570 = .ok (.ireturn, 1) := by decide +kernel
theorem dL_law_1571 : decode cL_law 1571 = .ok (.iload 5, 2) := by decide +kernel
theorem dL_law_1573 : decode cL_law 1573 = .ok (.ifCond .ne 15, 3) := by decide +kernel
theorem dL_law_1576 : decode cL_law 1576 = .ok (.aload_n 3, 1) := by decide +kernel
theorem dL_law_1577 : decode cL_law 1577 = .ok (.iconst 0, 1) := by decide +kernel
theorem dL_law_1578 : decode cL_law 1578 = .ok (.laload, 1) := by decide +kernel
theorem dL_law_1579 : decode cL_law 1579 = .ok (.iload 6, 2) := by decide +kernel
theorem dL_law_1581 : decode cL_law 1581 = .ok (.i2l, 1) := by decide +kernel
theorem dL_law_1582 : decode cL_law 1582 = .ok (.lcmp, 1) := by decide +kernel
theorem dL_law_1583 : decode cL_law 1583 = .ok (.ifCond .eq 5, 3) := by decide +kernel
theorem dL_law_1586 : decode cL_law 1586 = .ok (.iconst 0, 1) := by decide +kernel
theorem dL_law_1587 : decode cL_law 1587 = .ok (.ireturn, 1) := by decide +kernel
theorem dL_law_1588 : decode cL_law 1588 = .ok (.goto 126, 3) := by decide +kernel
theorem dL_law_1591 : decode cL_law 1591 = .ok (.aload_n 1, 1) := by decide +kernel
theorem dL_law_1592 : decode cL_law 1592 = .ok (.aload_n 0, 1) := by decide +kernel
theorem dL_law_1593 : decode cL_law 1593 = .ok (.iload 4, 2) := by decide +kernel
theorem dL_law_1595 : decode cL_law 1595 = .ok (.iconst 1, 1) := by decide +kernel
theorem dL_law_1596 : decode cL_law 1596 = .ok (.iadd, 1) := by decide +kernel
theorem dL_law_1597 : decode cL_law 1597 = .ok (.iaload, 1) := by decide +kernel
theorem dL_law_1598 : decode cL_law 1598 = .ok (.aload_n 0, 1) := by decide +kernel
theorem dL_law_1599 : decode cL_law 1599 = .ok (.iload 4, 2) := by decide +kernel
theorem dL_law_1601 : decode cL_law 1601 = .ok (.iconst 2, 1) := by decide +kernel
theorem dL_law_1602 : decode cL_law 1602 = .ok (.iadd, 1) := by decide +kernel
theorem dL_law_1603 : decode cL_law 1603 = .ok (.iaload, 1) := by decide +kernel
theorem dL_law_1604 : decode cL_law 1604 = .ok (.aload_n 3, 1) := by decide +kernel
theorem dL_law_1605 : decode cL_law 1605 = .ok (.invokestatic 179, 3) := by decide +kernel
theorem dL_law_1608 : decode cL_law 1608 = .ok (.istore 5, 2) := by decide +kernel
theorem dL_law_1610 : decode cL_law 1610 = .ok (.aload_n 2, 1) := by decide +kernel
theorem dL_law_1611 : decode cL_law 1611 = .ok (.aload_n 0, 1) := by decide +kernel
theorem dL_law_1612 : decode cL_law 1612 = .ok (.iload 4, 2) := by decide +kernel
theorem dL_law_1614 : decode cL_law 1614 = .ok (.iconst 1, 1) := by decide +kernel
theorem dL_law_1615 : decode cL_law 1615 = .ok (.iadd, 1) := by decide +kernel
theorem dL_law_1616 : decode cL_law 1616 = .ok (.iaload, 1) := by decide +kernel
theorem dL_law_1617 : decode cL_law 1617 = .ok (.aload_n 0, 1) := by decide +kernel
theorem dL_law_1618 : decode cL_law 1618 = .ok (.iload 4, 2) := by decide +kernel
theorem dL_law_1620 : decode cL_law 1620 = .ok (.iconst 2, 1) := by decide +kernel
theorem dL_law_1621 : decode cL_law 1621 = .ok (.iadd, 1) := by decide +kernel
theorem dL_law_1622 : decode cL_law 1622 = .ok (.iaload, 1) := by decide +kernel
theorem dL_law_1623 : decode cL_law 1623 = .ok (.invokevirtual 181, 3) := by decide +kernel
theorem dL_law_1626 : decode cL_law 1626 = .ok (.istore 6, 2) := by decide +kernel
theorem dL_law_1628 : decode cL_law 1628 = .ok (.aload_n 2, 1) := by decide +kernel
theorem dL_law_1629 : decode cL_law 1629 = .ok (.invokevirtual 98, 3) := by decide +kernel
theorem dL_law_1632 : decode cL_law 1632 = .ok (.iload 5, 2) := by decide +kernel
theorem dL_law_1634 : decode cL_law 1634 = .ok (.if_icmp .eq 5, 3) := by decide +kernel
theorem dL_law_1637 : decode cL_law 1637 = .ok (.iconst 0, 1) := by decide +kernel
theorem dL_law_1638 : decode cL_law 1638 = .ok (.ireturn, 1) := by decide +kernel
theorem dL_law_1639 : decode cL_law 1639 = .ok (.iload 5, 2) := by decide +kernel
theorem dL_law_1641 : decode cL_law 1641 = .ok (.ifCond .ne 15, 3) := by decide +kernel
theorem dL_law_1644 : decode cL_law 1644 = .ok (.aload_n 3, 1) := by decide +kernel
theorem dL_law_1645 : decode cL_law 1645 = .ok (.iconst 0, 1) := by decide +kernel
theorem dL_law_1646 : decode cL_law 1646 = .ok (.laload, 1) := by decide +kernel
theorem dL_law_1647 : decode cL_law 1647 = .ok (.iload 6, 2) := by decide +kernel
theorem dL_law_1649 : decode cL_law 1649 = .ok (.i2l, 1) := by decide +kernel
theorem dL_law_1650 : decode cL_law 1650 = .ok (.lcmp, 1) := by decide +kernel
theorem dL_law_1651 : decode cL_law 1651 = .ok (.ifCond .eq 5, 3) := by decide +kernel
theorem dL_law_1654 : decode cL_law 1654 = .ok (.iconst 0, 1) := by decide +kernel
theorem dL_law_1655 : decode cL_law 1655 = .ok (.ireturn, 1) := by decide +kernel
theorem dL_law_1656 : decode cL_law 1656 = .ok (.goto 58, 3) := by decide +kernel
theorem dL_law_1659 : decode cL_law 1659 = .ok (.aload_n 1, 1) := by decide +kernel
theorem dL_law_1660 : decode cL_law 1660 = .ok (.invokevirtual 182, 3) := by decide +kernel
theorem dL_law_1663 : decode cL_law 1663 = .ok (.dstore 5, 2) := by decide +kernel
theorem dL_law_1665 : decode cL_law 1665 = .ok (.aload_n 2, 1) := by decide +kernel
theorem dL_law_1666 : decode cL_law 1666 = .ok (.invokevirtual 186, 3) := by decide +kernel
theorem dL_law_1669 : decode cL_law 1669 = .ok (.dstore 7, 2) := by decide +kernel
theorem dL_law_1671 : decode cL_law 1671 = .ok (.dload 5, 2) := by decide +kernel
theorem dL_law_1673 : decode cL_law 1673 = .ok (.dload 7, 2) := by decide +kernel
theorem dL_law_1675 : decode cL_law 1675 = .ok (.dcmp .l, 1) := by decide +kernel
theorem dL_law_1676 : decode cL_law 1676 = .ok (.ifCond .eq 21, 3) := by decide +kernel
theorem dL_law_1679 : decode cL_law 1679 = .ok (.dload 5, 2) := by decide +kernel
theorem dL_law_1681 : decode cL_law 1681 = .ok (.dload 5, 2) := by decide +kernel
theorem dL_law_1683 : decode cL_law 1683 = .ok (.dcmp .l, 1) := by decide +kernel
theorem dL_law_1684 : decode cL_law 1684 = .ok (.ifCond .eq 11, 3) := by decide +kernel
theorem dL_law_1687 : decode cL_law 1687 = .ok (.dload 7, 2) := by decide +kernel
theorem dL_law_1689 : decode cL_law 1689 = .ok (.dload 7, 2) := by decide +kernel
theorem dL_law_1691 : decode cL_law 1691 = .ok (.dcmp .l, 1) := by decide +kernel
theorem dL_law_1692 : decode cL_law 1692 = .ok (.ifCond .ne 5, 3) := by decide +kernel
theorem dL_law_1695 : decode cL_law 1695 = .ok (.iconst 0, 1) := by decide +kernel
theorem dL_law_1696 : decode cL_law 1696 = .ok (.ireturn, 1) := by decide +kernel
theorem dL_law_1697 : decode cL_law 1697 = .ok (.goto 17, 3) := by decide +kernel
theorem dL_law_1700 : decode cL_law 1700 = .ok (.aload_n 1, 1) := by decide +kernel
theorem dL_law_1701 : decode cL_law 1701 = .ok (.invokevirtual 187, 3) := by decide +kernel
theorem dL_law_1704 : decode cL_law 1704 = .ok (.aload_n 2, 1) := by decide +kernel
theorem dL_law_1705 : decode cL_law 1705 = .ok (.invokevirtual 191, 3) := by decide +kernel
theorem dL_law_1708 : decode cL_law 1708 = .ok (.lcmp, 1) := by decide +kernel
theorem dL_law_1709 : decode cL_law 1709 = .ok (.ifCond .eq 5, 3) := by decide +kernel
theorem dL_law_1712 : decode cL_law 1712 = .ok (.iconst 0, 1) := by decide +kernel
theorem dL_law_1713 : decode cL_law 1713 = .ok (.ireturn, 1) := by decide +kernel
theorem dL_law_1714 : decode cL_law 1714 = .ok (.iinc 4 4, 3) := by decide +kernel
theorem dL_law_1717 : decode cL_law 1717 = .ok (.goto (-1694), 3) := by decide +kernel
theorem dL_law_1720 : decode cL_law 1720 = .ok (.iconst 1, 1) := by decide +kernel
theorem dL_law_1721 : decode cL_law 1721 = .ok (.ireturn, 1) := by decide +kernel
