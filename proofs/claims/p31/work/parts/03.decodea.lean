theorem dX0_init_0 : decode cX0_init 0 = .ok (.aload_n 0, 1) := by decide +kernel
theorem dX0_init_1 : decode cX0_init 1 = .ok (.invokespecial 3, 3) := by decide +kernel
theorem dX0_init_4 : decode cX0_init 4 = .ok (.aload_n 0, 1) := by decide +kernel
theorem dX0_init_5 : decode cX0_init 5 = .ok (.sipush 732, 3) := by decide +kernel
theorem dX0_init_8 : decode cX0_init 8 = .ok (.newarray .int, 2) := by decide +kernel
theorem dX0_init_10 : decode cX0_init 10 = .ok (.putfield 11, 3) := by decide +kernel
theorem dX0_init_13 : decode cX0_init 13 = .ok (.aload_n 0, 1) := by decide +kernel
theorem dX0_init_14 : decode cX0_init 14 = .ok (.iconst 0, 1) := by decide +kernel
theorem dX0_init_15 : decode cX0_init 15 = .ok (.putfield 17, 3) := by decide +kernel
theorem dX0_init_18 : decode cX0_init 18 = .ok (.return_, 1) := by decide +kernel
theorem dX0_size_0 : decode cX0_size 0 = .ok (.aload_n 0, 1) := by decide +kernel
theorem dX0_size_1 : decode cX0_size 1 = .ok (.getfield 17, 3) := by decide +kernel
theorem dX0_size_4 : decode cX0_size 4 = .ok (.ireturn, 1) := by decide +kernel
theorem dX0_save_0 : decode cX0_save 0 = .ok (.aload_n 0, 1) := by decide +kernel
theorem dX0_save_1 : decode cX0_save 1 = .ok (.getfield 17, 3) := by decide +kernel
theorem dX0_save_4 : decode cX0_save 4 = .ok (.bipush 6, 2) := by decide +kernel
theorem dX0_save_6 : decode cX0_save 6 = .ok (.if_icmp .lt 30, 3) := by decide +kernel
theorem dX0_save_9 : decode cX0_save 9 = .ok (.aload_n 0, 1) := by decide +kernel
theorem dX0_save_10 : decode cX0_save 10 = .ok (.getfield 11, 3) := by decide +kernel
theorem dX0_save_13 : decode cX0_save 13 = .ok (.bipush 122, 2) := by decide +kernel
theorem dX0_save_15 : decode cX0_save 15 = .ok (.aload_n 0, 1) := by decide +kernel
theorem dX0_save_16 : decode cX0_save 16 = .ok (.getfield 11, 3) := by decide +kernel
theorem dX0_save_19 : decode cX0_save 19 = .ok (.iconst 0, 1) := by decide +kernel
theorem dX0_save_20 : decode cX0_save 20 = .ok (.aload_n 0, 1) := by decide +kernel
theorem dX0_save_21 : decode cX0_save 21 = .ok (.getfield 11, 3) := by decide +kernel
theorem dX0_save_24 : decode cX0_save 24 = .ok (.arraylength, 1) := by decide +kernel
theorem dX0_save_25 : decode cX0_save 25 = .ok (.bipush 122, 2) := by decide +kernel
theorem dX0_save_27 : decode cX0_save 27 = .ok (.isub, 1) := by decide +kernel
theorem dX0_save_28 : decode cX0_save 28 = .ok (.invokestatic 21, 3) := by decide +kernel
theorem dX0_save_31 : decode cX0_save 31 = .ok (.aload_n 0, 1) := by decide +kernel
theorem dX0_save_32 : decode cX0_save 32 = .ok (.iconst 5, 1) := by decide +kernel
theorem dX0_save_33 : decode cX0_save 33 = .ok (.putfield 17, 3) := by decide +kernel
theorem dX0_save_36 : decode cX0_save 36 = .ok (.aload_n 1, 1) := by decide +kernel
theorem dX0_save_37 : decode cX0_save 37 = .ok (.aload_n 0, 1) := by decide +kernel
theorem dX0_save_38 : decode cX0_save 38 = .ok (.getfield 11, 3) := by decide +kernel
theorem dX0_save_41 : decode cX0_save 41 = .ok (.aload_n 0, 1) := by decide +kernel
theorem dX0_save_42 : decode cX0_save 42 = .ok (.getfield 17, 3) := by decide +kernel
theorem dX0_save_45 : decode cX0_save 45 = .ok (.bipush 122, 2) := by decide +kernel
theorem dX0_save_47 : decode cX0_save 47 = .ok (.imul, 1) := by decide +kernel
theorem dX0_save_48 : decode cX0_save 48 = .ok (.invokevirtual 27, 3) := by decide +kernel
theorem dX0_save_51 : decode cX0_save 51 = .ok (.aload_n 0, 1) := by decide +kernel
theorem dX0_save_52 : decode cX0_save 52 = .ok (.dup, 1) := by decide +kernel
theorem dX0_save_53 : decode cX0_save 53 = .ok (.getfield 17, 3) := by decide +kernel
theorem dX0_save_56 : decode cX0_save 56 = .ok (.iconst 1, 1) := by decide +kernel
theorem dX0_save_57 : decode cX0_save 57 = .ok (.iadd, 1) := by decide +kernel
theorem dX0_save_58 : decode cX0_save 58 = .ok (.putfield 17, 3) := by decide +kernel
theorem dX0_save_61 : decode cX0_save 61 = .ok (.return_, 1) := by decide +kernel
theorem dX0_restore_0 : decode cX0_restore 0 = .ok (.aload_n 0, 1) := by decide +kernel
theorem dX0_restore_1 : decode cX0_restore 1 = .ok (.getfield 17, 3) := by decide +kernel
theorem dX0_restore_4 : decode cX0_restore 4 = .ok (.ifCond .le 28, 3) := by decide +kernel
theorem dX0_restore_7 : decode cX0_restore 7 = .ok (.aload_n 0, 1) := by decide +kernel
theorem dX0_restore_8 : decode cX0_restore 8 = .ok (.dup, 1) := by decide +kernel
theorem dX0_restore_9 : decode cX0_restore 9 = .ok (.getfield 17, 3) := by decide +kernel
theorem dX0_restore_12 : decode cX0_restore 12 = .ok (.iconst 1, 1) := by decide +kernel
theorem dX0_restore_13 : decode cX0_restore 13 = .ok (.isub, 1) := by decide +kernel
theorem dX0_restore_14 : decode cX0_restore 14 = .ok (.putfield 17, 3) := by decide +kernel
theorem dX0_restore_17 : decode cX0_restore 17 = .ok (.aload_n 1, 1) := by decide +kernel
theorem dX0_restore_18 : decode cX0_restore 18 = .ok (.aload_n 0, 1) := by decide +kernel
theorem dX0_restore_19 : decode cX0_restore 19 = .ok (.getfield 11, 3) := by decide +kernel
theorem dX0_restore_22 : decode cX0_restore 22 = .ok (.aload_n 0, 1) := by decide +kernel
theorem dX0_restore_23 : decode cX0_restore 23 = .ok (.getfield 17, 3) := by decide +kernel
theorem dX0_restore_26 : decode cX0_restore 26 = .ok (.bipush 122, 2) := by decide +kernel
theorem dX0_restore_28 : decode cX0_restore 28 = .ok (.imul, 1) := by decide +kernel
theorem dX0_restore_29 : decode cX0_restore 29 = .ok (.invokevirtual 31, 3) := by decide +kernel
theorem dX0_restore_32 : decode cX0_restore 32 = .ok (.return_, 1) := by decide +kernel
theorem dX1_init_0 : decode cX1_init 0 = .ok (.aload_n 0, 1) := by decide +kernel
theorem dX1_init_1 : decode cX1_init 1 = .ok (.invokespecial 3, 3) := by decide +kernel
theorem dX1_init_4 : decode cX1_init 4 = .ok (.aload_n 0, 1) := by decide +kernel
theorem dX1_init_5 : decode cX1_init 5 = .ok (.bipush 120, 2) := by decide +kernel
theorem dX1_init_7 : decode cX1_init 7 = .ok (.newarray .int, 2) := by decide +kernel
theorem dX1_init_9 : decode cX1_init 9 = .ok (.putfield 9, 3) := by decide +kernel
theorem dX1_init_12 : decode cX1_init 12 = .ok (.aload_n 0, 1) := by decide +kernel
theorem dX1_init_13 : decode cX1_init 13 = .ok (.iconst 0, 1) := by decide +kernel
theorem dX1_init_14 : decode cX1_init 14 = .ok (.putfield 15, 3) := by decide +kernel
theorem dX1_init_17 : decode cX1_init 17 = .ok (.aload_n 0, 1) := by decide +kernel
theorem dX1_init_18 : decode cX1_init 18 = .ok (.iconst 0, 1) := by decide +kernel
theorem dX1_init_19 : decode cX1_init 19 = .ok (.putfield 19, 3) := by decide +kernel
theorem dX1_init_22 : decode cX1_init 22 = .ok (.aload_n 0, 1) := by decide +kernel
theorem dX1_init_23 : decode cX1_init 23 = .ok (.iconst 0, 1) := by decide +kernel
theorem dX1_init_24 : decode cX1_init 24 = .ok (.putfield 22, 3) := by decide +kernel
theorem dX1_init_27 : decode cX1_init 27 = .ok (.return_, 1) := by decide +kernel
theorem dX1_size_0 : decode cX1_size 0 = .ok (.aload_n 0, 1) := by decide +kernel
theorem dX1_size_1 : decode cX1_size 1 = .ok (.getfield 15, 3) := by decide +kernel
theorem dX1_size_4 : decode cX1_size 4 = .ok (.ireturn, 1) := by decide +kernel
theorem dX1_moment_0 : decode cX1_moment 0 = .ok (.aload_n 0, 1) := by decide +kernel
theorem dX1_moment_1 : decode cX1_moment 1 = .ok (.getfield 19, 3) := by decide +kernel
theorem dX1_moment_4 : decode cX1_moment 4 = .ok (.ireturn, 1) := by decide +kernel
theorem dX1_version_0 : decode cX1_version 0 = .ok (.aload_n 0, 1) := by decide +kernel
theorem dX1_version_1 : decode cX1_version 1 = .ok (.getfield 22, 3) := by decide +kernel
theorem dX1_version_4 : decode cX1_version 4 = .ok (.ireturn, 1) := by decide +kernel
theorem dX1_has_0 : decode cX1_has 0 = .ok (.iload_n 1, 1) := by decide +kernel
theorem dX1_has_1 : decode cX1_has 1 = .ok (.ifCond .lt 15, 3) := by decide +kernel
theorem dX1_has_4 : decode cX1_has 4 = .ok (.iload_n 1, 1) := by decide +kernel
theorem dX1_has_5 : decode cX1_has 5 = .ok (.aload_n 0, 1) := by decide +kernel
theorem dX1_has_6 : decode cX1_has 6 = .ok (.getfield 15, 3) := by decide +kernel
theorem dX1_has_9 : decode cX1_has 9 = .ok (.if_icmp .ge 7, 3) := by decide +kernel
theorem dX1_has_12 : decode cX1_has 12 = .ok (.iconst 1, 1) := by decide +kernel
theorem dX1_has_13 : decode cX1_has 13 = .ok (.goto 4, 3) := by decide +kernel
theorem dX1_has_16 : decode cX1_has 16 = .ok (.iconst 0, 1) := by decide +kernel
theorem dX1_has_17 : decode cX1_has 17 = .ok (.ireturn, 1) := by decide +kernel
theorem dX1_property_0 : decode cX1_property 0 = .ok (.iload_n 1, 1) := by decide +kernel
theorem dX1_property_1 : decode cX1_property 1 = .ok (.ifCond .lt 21, 3) := by decide +kernel
theorem dX1_property_4 : decode cX1_property 4 = .ok (.iload_n 1, 1) := by decide +kernel
theorem dX1_property_5 : decode cX1_property 5 = .ok (.aload_n 0, 1) := by decide +kernel
theorem dX1_property_6 : decode cX1_property 6 = .ok (.getfield 15, 3) := by decide +kernel
theorem dX1_property_9 : decode cX1_property 9 = .ok (.if_icmp .ge 13, 3) := by decide +kernel
theorem dX1_property_12 : decode cX1_property 12 = .ok (.iload_n 2, 1) := by decide +kernel
theorem dX1_property_13 : decode cX1_property 13 = .ok (.ifCond .lt 9, 3) := by decide +kernel
theorem dX1_property_16 : decode cX1_property 16 = .ok (.iload_n 2, 1) := by decide +kernel
theorem dX1_property_17 : decode cX1_property 17 = .ok (.bipush 6, 2) := by decide +kernel
theorem dX1_property_19 : decode cX1_property 19 = .ok (.if_icmp .lt 5, 3) := by decide +kernel
theorem dX1_property_22 : decode cX1_property 22 = .ok (.iconst (-1), 1) := by decide +kernel
theorem dX1_property_23 : decode cX1_property 23 = .ok (.ireturn, 1) := by decide +kernel
theorem dX1_property_24 : decode cX1_property 24 = .ok (.aload_n 0, 1) := by decide +kernel
theorem dX1_property_25 : decode cX1_property 25 = .ok (.getfield 9, 3) := by decide +kernel
theorem dX1_property_28 : decode cX1_property 28 = .ok (.iload_n 1, 1) := by decide +kernel
theorem dX1_property_29 : decode cX1_property 29 = .ok (.bipush 6, 2) := by decide +kernel
theorem dX1_property_31 : decode cX1_property 31 = .ok (.imul, 1) := by decide +kernel
theorem dX1_property_32 : decode cX1_property 32 = .ok (.iload_n 2, 1) := by decide +kernel
theorem dX1_property_33 : decode cX1_property 33 = .ok (.iadd, 1) := by decide +kernel
theorem dX1_property_34 : decode cX1_property 34 = .ok (.iaload, 1) := by decide +kernel
theorem dX1_property_35 : decode cX1_property 35 = .ok (.ireturn, 1) := by decide +kernel
theorem dX1_change_0 : decode cX1_change 0 = .ok (.aload_n 0, 1) := by decide +kernel
theorem dX1_change_1 : decode cX1_change 1 = .ok (.iload_n 1, 1) := by decide +kernel
theorem dX1_change_2 : decode cX1_change 2 = .ok (.invokevirtual 25, 3) := by decide +kernel
theorem dX1_change_5 : decode cX1_change 5 = .ok (.ifCond .eq 35, 3) := by decide +kernel
theorem dX1_change_8 : decode cX1_change 8 = .ok (.iload_n 2, 1) := by decide +kernel
theorem dX1_change_9 : decode cX1_change 9 = .ok (.ifCond .lt 31, 3) := by decide +kernel
theorem dX1_change_12 : decode cX1_change 12 = .ok (.iload_n 2, 1) := by decide +kernel
theorem dX1_change_13 : decode cX1_change 13 = .ok (.bipush 6, 2) := by decide +kernel
theorem dX1_change_15 : decode cX1_change 15 = .ok (.if_icmp .ge 25, 3) := by decide +kernel
theorem dX1_change_18 : decode cX1_change 18 = .ok (.aload_n 0, 1) := by decide +kernel
theorem dX1_change_19 : decode cX1_change 19 = .ok (.getfield 9, 3) := by decide +kernel
theorem dX1_change_22 : decode cX1_change 22 = .ok (.iload_n 1, 1) := by decide +kernel
theorem dX1_change_23 : decode cX1_change 23 = .ok (.bipush 6, 2) := by decide +kernel
theorem dX1_change_25 : decode cX1_change 25 = .ok (.imul, 1) := by decide +kernel
theorem dX1_change_26 : decode cX1_change 26 = .ok (.iload_n 2, 1) := by decide +kernel
theorem dX1_change_27 : decode cX1_change 27 = .ok (.iadd, 1) := by decide +kernel
theorem dX1_change_28 : decode cX1_change 28 = .ok (.iload_n 3, 1) := by decide +kernel
theorem dX1_change_29 : decode cX1_change 29 = .ok (.iastore, 1) := by decide +kernel
theorem dX1_change_30 : decode cX1_change 30 = .ok (.aload_n 0, 1) := by decide +kernel
theorem dX1_change_31 : decode cX1_change 31 = .ok (.dup, 1) := by decide +kernel
theorem dX1_change_32 : decode cX1_change 32 = .ok (.getfield 22, 3) := by decide +kernel
theorem dX1_change_35 : decode cX1_change 35 = .ok (.iconst 1, 1) := by decide +kernel
theorem dX1_change_36 : decode cX1_change 36 = .ok (.iadd, 1) := by decide +kernel
theorem dX1_change_37 : decode cX1_change 37 = .ok (.putfield 22, 3) := by decide +kernel
theorem dX1_change_40 : decode cX1_change 40 = .ok (.return_, 1) := by decide +kernel
theorem dX1_addLine_0 : decode cX1_addLine 0 = .ok (.aload_n 0, 1) := by decide +kernel
theorem dX1_addLine_1 : decode cX1_addLine 1 = .ok (.getfield 15, 3) := by decide +kernel
theorem dX1_addLine_4 : decode cX1_addLine 4 = .ok (.bipush 20, 2) := by decide +kernel
theorem dX1_addLine_6 : decode cX1_addLine 6 = .ok (.if_icmp .lt 4, 3) := by decide +kernel
theorem dX1_addLine_9 : decode cX1_addLine 9 = .ok (.return_, 1) := by decide +kernel
theorem dX1_addLine_10 : decode cX1_addLine 10 = .ok (.aload_n 0, 1) := by decide +kernel
theorem dX1_addLine_11 : decode cX1_addLine 11 = .ok (.getfield 15, 3) := by decide +kernel
theorem dX1_addLine_14 : decode cX1_addLine 14 = .ok (.istore 5, 2) := by decide +kernel
theorem dX1_addLine_16 : decode cX1_addLine 16 = .ok (.aload_n 0, 1) := by decide +kernel
theorem dX1_addLine_17 : decode cX1_addLine 17 = .ok (.dup, 1) := by decide +kernel
theorem dX1_addLine_18 : decode cX1_addLine 18 = .ok (.getfield 15, 3) := by decide +kernel
theorem dX1_addLine_21 : decode cX1_addLine 21 = .ok (.iconst 1, 1) := by decide +kernel
theorem dX1_addLine_22 : decode cX1_addLine 22 = .ok (.iadd, 1) := by decide +kernel
theorem dX1_addLine_23 : decode cX1_addLine 23 = .ok (.putfield 15, 3) := by decide +kernel
theorem dX1_addLine_26 : decode cX1_addLine 26 = .ok (.aload_n 0, 1) := by decide +kernel
theorem dX1_addLine_27 : decode cX1_addLine 27 = .ok (.iload 5, 2) := by decide +kernel
theorem dX1_addLine_29 : decode cX1_addLine 29 = .ok (.iconst 0, 1) := by decide +kernel
theorem dX1_addLine_30 : decode cX1_addLine 30 = .ok (.iload_n 1, 1) := by decide +kernel
theorem dX1_addLine_31 : decode cX1_addLine 31 = .ok (.invokevirtual 29, 3) := by decide +kernel
theorem dX1_addLine_34 : decode cX1_addLine 34 = .ok (.aload_n 0, 1) := by decide +kernel
theorem dX1_addLine_35 : decode cX1_addLine 35 = .ok (.iload 5, 2) := by decide +kernel
theorem dX1_addLine_37 : decode cX1_addLine 37 = .ok (.iconst 1, 1) := by decide +kernel
theorem dX1_addLine_38 : decode cX1_addLine 38 = .ok (.iload_n 2, 1) := by decide +kernel
theorem dX1_addLine_39 : decode cX1_addLine 39 = .ok (.invokevirtual 29, 3) := by decide +kernel
theorem dX1_addLine_42 : decode cX1_addLine 42 = .ok (.aload_n 0, 1) := by decide +kernel
theorem dX1_addLine_43 : decode cX1_addLine 43 = .ok (.iload 5, 2) := by decide +kernel
theorem dX1_addLine_45 : decode cX1_addLine 45 = .ok (.iconst 2, 1) := by decide +kernel
theorem dX1_addLine_46 : decode cX1_addLine 46 = .ok (.iconst 0, 1) := by decide +kernel
theorem dX1_addLine_47 : decode cX1_addLine 47 = .ok (.invokevirtual 29, 3) := by decide +kernel
theorem dX1_addLine_50 : decode cX1_addLine 50 = .ok (.aload_n 0, 1) := by decide +kernel
theorem dX1_addLine_51 : decode cX1_addLine 51 = .ok (.iload 5, 2) := by decide +kernel
theorem dX1_addLine_53 : decode cX1_addLine 53 = .ok (.iconst 3, 1) := by decide +kernel
theorem dX1_addLine_54 : decode cX1_addLine 54 = .ok (.bipush 63, 2) := by decide +kernel
theorem dX1_addLine_56 : decode cX1_addLine 56 = .ok (.invokevirtual 29, 3) := by decide +kernel
theorem dX1_addLine_59 : decode cX1_addLine 59 = .ok (.aload_n 0, 1) := by decide +kernel
theorem dX1_addLine_60 : decode cX1_addLine 60 = .ok (.iload 5, 2) := by decide +kernel
theorem dX1_addLine_62 : decode cX1_addLine 62 = .ok (.iconst 4, 1) := by decide +kernel
theorem dX1_addLine_63 : decode cX1_addLine 63 = .ok (.iload_n 3, 1) := by decide +kernel
theorem dX1_addLine_64 : decode cX1_addLine 64 = .ok (.invokevirtual 29, 3) := by decide +kernel
theorem dX1_addLine_67 : decode cX1_addLine 67 = .ok (.aload_n 0, 1) := by decide +kernel
theorem dX1_addLine_68 : decode cX1_addLine 68 = .ok (.iload 5, 2) := by decide +kernel
theorem dX1_addLine_70 : decode cX1_addLine 70 = .ok (.iconst 5, 1) := by decide +kernel
theorem dX1_addLine_71 : decode cX1_addLine 71 = .ok (.iload 4, 2) := by decide +kernel
theorem dX1_addLine_73 : decode cX1_addLine 73 = .ok (.invokevirtual 29, 3) := by decide +kernel
theorem dX1_addLine_76 : decode cX1_addLine 76 = .ok (.return_, 1) := by decide +kernel
theorem dX1_drop_0 : decode cX1_drop 0 = .ok (.aload_n 0, 1) := by decide +kernel
theorem dX1_drop_1 : decode cX1_drop 1 = .ok (.iload_n 1, 1) := by decide +kernel
theorem dX1_drop_2 : decode cX1_drop 2 = .ok (.invokevirtual 25, 3) := by decide +kernel
theorem dX1_drop_5 : decode cX1_drop 5 = .ok (.ifCond .ne 4, 3) := by decide +kernel
theorem dX1_drop_8 : decode cX1_drop 8 = .ok (.return_, 1) := by decide +kernel
theorem dX1_drop_9 : decode cX1_drop 9 = .ok (.iload_n 1, 1) := by decide +kernel
theorem dX1_drop_10 : decode cX1_drop 10 = .ok (.iconst 1, 1) := by decide +kernel
theorem dX1_drop_11 : decode cX1_drop 11 = .ok (.iadd, 1) := by decide +kernel
theorem dX1_drop_12 : decode cX1_drop 12 = .ok (.bipush 6, 2) := by decide +kernel
theorem dX1_drop_14 : decode cX1_drop 14 = .ok (.imul, 1) := by decide +kernel
theorem dX1_drop_15 : decode cX1_drop 15 = .ok (.istore_n 2, 1) := by decide +kernel
theorem dX1_drop_16 : decode cX1_drop 16 = .ok (.aload_n 0, 1) := by decide +kernel
theorem dX1_drop_17 : decode cX1_drop 17 = .ok (.getfield 9, 3) := by decide +kernel
theorem dX1_drop_20 : decode cX1_drop 20 = .ok (.iload_n 2, 1) := by decide +kernel
theorem dX1_drop_21 : decode cX1_drop 21 = .ok (.aload_n 0, 1) := by decide +kernel
theorem dX1_drop_22 : decode cX1_drop 22 = .ok (.getfield 9, 3) := by decide +kernel
theorem dX1_drop_25 : decode cX1_drop 25 = .ok (.iload_n 1, 1) := by decide +kernel
theorem dX1_drop_26 : decode cX1_drop 26 = .ok (.bipush 6, 2) := by decide +kernel
theorem dX1_drop_28 : decode cX1_drop 28 = .ok (.imul, 1) := by decide +kernel
theorem dX1_drop_29 : decode cX1_drop 29 = .ok (.aload_n 0, 1) := by decide +kernel
theorem dX1_drop_30 : decode cX1_drop 30 = .ok (.getfield 15, 3) := by decide +kernel
theorem dX1_drop_33 : decode cX1_drop 33 = .ok (.bipush 6, 2) := by decide +kernel
theorem dX1_drop_35 : decode cX1_drop 35 = .ok (.imul, 1) := by decide +kernel
theorem dX1_drop_36 : decode cX1_drop 36 = .ok (.iload_n 2, 1) := by decide +kernel
theorem dX1_drop_37 : decode cX1_drop 37 = .ok (.isub, 1) := by decide +kernel
theorem dX1_drop_38 : decode cX1_drop 38 = .ok (.invokestatic 33, 3) := by decide +kernel
theorem dX1_drop_41 : decode cX1_drop 41 = .ok (.aload_n 0, 1) := by decide +kernel
theorem dX1_drop_42 : decode cX1_drop 42 = .ok (.dup, 1) := by decide +kernel
theorem dX1_drop_43 : decode cX1_drop 43 = .ok (.getfield 15, 3) := by decide +kernel
theorem dX1_drop_46 : decode cX1_drop 46 = .ok (.iconst 1, 1) := by decide +kernel
theorem dX1_drop_47 : decode cX1_drop 47 = .ok (.isub, 1) := by decide +kernel
theorem dX1_drop_48 : decode cX1_drop 48 = .ok (.putfield 15, 3) := by decide +kernel
theorem dX1_drop_51 : decode cX1_drop 51 = .ok (.aload_n 0, 1) := by decide +kernel
theorem dX1_drop_52 : decode cX1_drop 52 = .ok (.dup, 1) := by decide +kernel
theorem dX1_drop_53 : decode cX1_drop 53 = .ok (.getfield 22, 3) := by decide +kernel
theorem dX1_drop_56 : decode cX1_drop 56 = .ok (.iconst 1, 1) := by decide +kernel
theorem dX1_drop_57 : decode cX1_drop 57 = .ok (.iadd, 1) := by decide +kernel
theorem dX1_drop_58 : decode cX1_drop 58 = .ok (.putfield 22, 3) := by decide +kernel
theorem dX1_drop_61 : decode cX1_drop 61 = .ok (.return_, 1) := by decide +kernel
theorem dX1_moveTo_0 : decode cX1_moveTo 0 = .ok (.aload_n 0, 1) := by decide +kernel
theorem dX1_moveTo_1 : decode cX1_moveTo 1 = .ok (.iload_n 1, 1) := by decide +kernel
theorem dX1_moveTo_2 : decode cX1_moveTo 2 = .ok (.putfield 19, 3) := by decide +kernel
theorem dX1_moveTo_5 : decode cX1_moveTo 5 = .ok (.aload_n 0, 1) := by decide +kernel
theorem dX1_moveTo_6 : decode cX1_moveTo 6 = .ok (.dup, 1) := by decide +kernel
theorem dX1_moveTo_7 : decode cX1_moveTo 7 = .ok (.getfield 22, 3) := by decide +kernel
theorem dX1_moveTo_10 : decode cX1_moveTo 10 = .ok (.iconst 1, 1) := by decide +kernel
theorem dX1_moveTo_11 : decode cX1_moveTo 11 = .ok (.iadd, 1) := by decide +kernel
theorem dX1_moveTo_12 : decode cX1_moveTo 12 = .ok (.putfield 22, 3) := by decide +kernel
theorem dX1_moveTo_15 : decode cX1_moveTo 15 = .ok (.return_, 1) := by decide +kernel
theorem dX1_saveTo_0 : decode cX1_saveTo 0 = .ok (.iload_n 2, 1) := by decide +kernel
theorem dX1_saveTo_1 : decode cX1_saveTo 1 = .ok (.ifCond .lt 12, 3) := by decide +kernel
theorem dX1_saveTo_4 : decode cX1_saveTo 4 = .ok (.iload_n 2, 1) := by decide +kernel
theorem dX1_saveTo_5 : decode cX1_saveTo 5 = .ok (.aload_n 1, 1) := by decide +kernel
theorem dX1_saveTo_6 : decode cX1_saveTo 6 = .ok (.arraylength, 1) := by decide +kernel
theorem dX1_saveTo_7 : decode cX1_saveTo 7 = .ok (.bipush 122, 2) := by decide +kernel
theorem dX1_saveTo_9 : decode cX1_saveTo 9 = .ok (.isub, 1) := by decide +kernel
theorem dX1_saveTo_10 : decode cX1_saveTo 10 = .ok (.if_icmp .le 4, 3) := by decide +kernel
theorem dX1_saveTo_13 : decode cX1_saveTo 13 = .ok (.return_, 1) := by decide +kernel
theorem dX1_saveTo_14 : decode cX1_saveTo 14 = .ok (.aload_n 1, 1) := by decide +kernel
theorem dX1_saveTo_15 : decode cX1_saveTo 15 = .ok (.iload_n 2, 1) := by decide +kernel
theorem dX1_saveTo_16 : decode cX1_saveTo 16 = .ok (.aload_n 0, 1) := by decide +kernel
theorem dX1_saveTo_17 : decode cX1_saveTo 17 = .ok (.getfield 19, 3) := by decide +kernel
theorem dX1_saveTo_20 : decode cX1_saveTo 20 = .ok (.iastore, 1) := by decide +kernel
theorem dX1_saveTo_21 : decode cX1_saveTo 21 = .ok (.aload_n 1, 1) := by decide +kernel
theorem dX1_saveTo_22 : decode cX1_saveTo 22 = .ok (.iload_n 2, 1) := by decide +kernel
theorem dX1_saveTo_23 : decode cX1_saveTo 23 = .ok (.iconst 1, 1) := by decide +kernel
theorem dX1_saveTo_24 : decode cX1_saveTo 24 = .ok (.iadd, 1) := by decide +kernel
theorem dX1_saveTo_25 : decode cX1_saveTo 25 = .ok (.aload_n 0, 1) := by decide +kernel
theorem dX1_saveTo_26 : decode cX1_saveTo 26 = .ok (.getfield 15, 3) := by decide +kernel
theorem dX1_saveTo_29 : decode cX1_saveTo 29 = .ok (.iastore, 1) := by decide +kernel
theorem dX1_saveTo_30 : decode cX1_saveTo 30 = .ok (.aload_n 0, 1) := by decide +kernel
theorem dX1_saveTo_31 : decode cX1_saveTo 31 = .ok (.getfield 9, 3) := by decide +kernel
theorem dX1_saveTo_34 : decode cX1_saveTo 34 = .ok (.iconst 0, 1) := by decide +kernel
theorem dX1_saveTo_35 : decode cX1_saveTo 35 = .ok (.aload_n 1, 1) := by decide +kernel
theorem dX1_saveTo_36 : decode cX1_saveTo 36 = .ok (.iload_n 2, 1) := by decide +kernel
theorem dX1_saveTo_37 : decode cX1_saveTo 37 = .ok (.iconst 2, 1) := by decide +kernel
theorem dX1_saveTo_38 : decode cX1_saveTo 38 = .ok (.iadd, 1) := by decide +kernel
theorem dX1_saveTo_39 : decode cX1_saveTo 39 = .ok (.aload_n 0, 1) := by decide +kernel
theorem dX1_saveTo_40 : decode cX1_saveTo 40 = .ok (.getfield 9, 3) := by decide +kernel
theorem dX1_saveTo_43 : decode cX1_saveTo 43 = .ok (.arraylength, 1) := by decide +kernel
theorem dX1_saveTo_44 : decode cX1_saveTo 44 = .ok (.invokestatic 33, 3) := by decide +kernel
theorem dX1_saveTo_47 : decode cX1_saveTo 47 = .ok (.return_, 1) := by decide +kernel
theorem dX1_restoreFrom_0 : decode cX1_restoreFrom 0 = .ok (.iload_n 2, 1) := by decide +kernel
theorem dX1_restoreFrom_1 : decode cX1_restoreFrom 1 = .ok (.ifCond .lt 12, 3) := by decide +kernel
theorem dX1_restoreFrom_4 : decode cX1_restoreFrom 4 = .ok (.iload_n 2, 1) := by decide +kernel
theorem dX1_restoreFrom_5 : decode cX1_restoreFrom 5 = .ok (.aload_n 1, 1) := by decide +kernel
theorem dX1_restoreFrom_6 : decode cX1_restoreFrom 6 = .ok (.arraylength, 1) := by decide +kernel
theorem dX1_restoreFrom_7 : decode cX1_restoreFrom 7 = .ok (.bipush 122, 2) := by decide +kernel
theorem dX1_restoreFrom_9 : decode cX1_restoreFrom 9 = .ok (.isub, 1) := by decide +kernel
theorem dX1_restoreFrom_10 : decode cX1_restoreFrom 10 = .ok (.if_icmp .le 4, 3) := by decide +kernel
theorem dX1_restoreFrom_13 : decode cX1_restoreFrom 13 = .ok (.return_, 1) := by decide +kernel
theorem dX1_restoreFrom_14 : decode cX1_restoreFrom 14 = .ok (.aload_n 0, 1) := by decide +kernel
theorem dX1_restoreFrom_15 : decode cX1_restoreFrom 15 = .ok (.aload_n 1, 1) := by decide +kernel
theorem dX1_restoreFrom_16 : decode cX1_restoreFrom 16 = .ok (.iload_n 2, 1) := by decide +kernel
theorem dX1_restoreFrom_17 : decode cX1_restoreFrom 17 = .ok (.iaload, 1) := by decide +kernel
theorem dX1_restoreFrom_18 : decode cX1_restoreFrom 18 = .ok (.putfield 19, 3) := by decide +kernel
theorem dX1_restoreFrom_21 : decode cX1_restoreFrom 21 = .ok (.aload_n 0, 1) := by decide +kernel
theorem dX1_restoreFrom_22 : decode cX1_restoreFrom 22 = .ok (.aload_n 1, 1) := by decide +kernel
theorem dX1_restoreFrom_23 : decode cX1_restoreFrom 23 = .ok (.iload_n 2, 1) := by decide +kernel
theorem dX1_restoreFrom_24 : decode cX1_restoreFrom 24 = .ok (.iconst 1, 1) := by decide +kernel
theorem dX1_restoreFrom_25 : decode cX1_restoreFrom 25 = .ok (.iadd, 1) := by decide +kernel
theorem dX1_restoreFrom_26 : decode cX1_restoreFrom 26 = .ok (.iaload, 1) := by decide +kernel
theorem dX1_restoreFrom_27 : decode cX1_restoreFrom 27 = .ok (.putfield 15, 3) := by decide +kernel
theorem dX1_restoreFrom_30 : decode cX1_restoreFrom 30 = .ok (.aload_n 1, 1) := by decide +kernel
theorem dX1_restoreFrom_31 : decode cX1_restoreFrom 31 = .ok (.iload_n 2, 1) := by decide +kernel
theorem dX1_restoreFrom_32 : decode cX1_restoreFrom 32 = .ok (.iconst 2, 1) := by decide +kernel
theorem dX1_restoreFrom_33 : decode cX1_restoreFrom 33 = .ok (.iadd, 1) := by decide +kernel
theorem dX1_restoreFrom_34 : decode cX1_restoreFrom 34 = .ok (.aload_n 0, 1) := by decide +kernel
theorem dX1_restoreFrom_35 : decode cX1_restoreFrom 35 = .ok (.getfield 9, 3) := by decide +kernel
theorem dX1_restoreFrom_38 : decode cX1_restoreFrom 38 = .ok (.iconst 0, 1) := by decide +kernel
theorem dX1_restoreFrom_39 : decode cX1_restoreFrom 39 = .ok (.aload_n 0, 1) := by decide +kernel
theorem dX1_restoreFrom_40 : decode cX1_restoreFrom 40 = .ok (.getfield 9, 3) := by decide +kernel
theorem dX1_restoreFrom_43 : decode cX1_restoreFrom 43 = .ok (.arraylength, 1) := by decide +kernel
theorem dX1_restoreFrom_44 : decode cX1_restoreFrom 44 = .ok (.invokestatic 33, 3) := by decide +kernel
theorem dX1_restoreFrom_47 : decode cX1_restoreFrom 47 = .ok (.aload_n 0, 1) := by decide +kernel
theorem dX1_restoreFrom_48 : decode cX1_restoreFrom 48 = .ok (.dup, 1) := by decide +kernel
theorem dX1_restoreFrom_49 : decode cX1_restoreFrom 49 = .ok (.getfield 22, 3) := by decide +kernel
theorem dX1_restoreFrom_52 : decode cX1_restoreFrom 52 = .ok (.iconst 1, 1) := by decide +kernel
theorem dX1_restoreFrom_53 : decode cX1_restoreFrom 53 = .ok (.iadd, 1) := by decide +kernel
theorem dX1_restoreFrom_54 : decode cX1_restoreFrom 54 = .ok (.putfield 22, 3) := by decide +kernel
theorem dX1_restoreFrom_57 : decode cX1_restoreFrom 57 = .ok (.return_, 1) := by decide +kernel
theorem dX1_valueAt_0 : decode cX1_valueAt 0 = .ok (.iload_n 1, 1) := by decide +kernel
theorem dX1_valueAt_1 : decode cX1_valueAt 1 = .ok (.ifCond .lt 11, 3) := by decide +kernel
theorem dX1_valueAt_4 : decode cX1_valueAt 4 = .ok (.iload_n 1, 1) := by decide +kernel
theorem dX1_valueAt_5 : decode cX1_valueAt 5 = .ok (.aload_n 0, 1) := by decide +kernel
theorem dX1_valueAt_6 : decode cX1_valueAt 6 = .ok (.getfield 15, 3) := by decide +kernel
theorem dX1_valueAt_9 : decode cX1_valueAt 9 = .ok (.if_icmp .lt 5, 3) := by decide +kernel
theorem dX1_valueAt_12 : decode cX1_valueAt 12 = .ok (.iconst 0, 1) := by decide +kernel
theorem dX1_valueAt_13 : decode cX1_valueAt 13 = .ok (.ireturn, 1) := by decide +kernel
theorem dX1_valueAt_14 : decode cX1_valueAt 14 = .ok (.aload_n 0, 1) := by decide +kernel
theorem dX1_valueAt_15 : decode cX1_valueAt 15 = .ok (.getfield 9, 3) := by decide +kernel
theorem dX1_valueAt_18 : decode cX1_valueAt 18 = .ok (.iload_n 1, 1) := by decide +kernel
theorem dX1_valueAt_19 : decode cX1_valueAt 19 = .ok (.bipush 6, 2) := by decide +kernel
theorem dX1_valueAt_21 : decode cX1_valueAt 21 = .ok (.imul, 1) := by decide +kernel
theorem dX1_valueAt_22 : decode cX1_valueAt 22 = .ok (.iconst 0, 1) := by decide +kernel
theorem dX1_valueAt_23 : decode cX1_valueAt 23 = .ok (.iadd, 1) := by decide +kernel
theorem dX1_valueAt_24 : decode cX1_valueAt 24 = .ok (.iaload, 1) := by decide +kernel
theorem dX1_valueAt_25 : decode cX1_valueAt 25 = .ok (.iload_n 2, 1) := by decide +kernel
theorem dX1_valueAt_26 : decode cX1_valueAt 26 = .ok (.imul, 1) := by decide +kernel
theorem dX1_valueAt_27 : decode cX1_valueAt 27 = .ok (.aload_n 0, 1) := by decide +kernel
theorem dX1_valueAt_28 : decode cX1_valueAt 28 = .ok (.getfield 9, 3) := by decide +kernel
theorem dX1_valueAt_31 : decode cX1_valueAt 31 = .ok (.iload_n 1, 1) := by decide +kernel
theorem dX1_valueAt_32 : decode cX1_valueAt 32 = .ok (.bipush 6, 2) := by decide +kernel
theorem dX1_valueAt_34 : decode cX1_valueAt 34 = .ok (.imul, 1) := by decide +kernel
theorem dX1_valueAt_35 : decode cX1_valueAt 35 = .ok (.iconst 1, 1) := by decide +kernel
theorem dX1_valueAt_36 : decode cX1_valueAt 36 = .ok (.iadd, 1) := by decide +kernel
theorem dX1_valueAt_37 : decode cX1_valueAt 37 = .ok (.iaload, 1) := by decide +kernel
theorem dX1_valueAt_38 : decode cX1_valueAt 38 = .ok (.iadd, 1) := by decide +kernel
theorem dX1_valueAt_39 : decode cX1_valueAt 39 = .ok (.ireturn, 1) := by decide +kernel
theorem dX1_lives_0 : decode cX1_lives 0 = .ok (.aload_n 0, 1) := by decide +kernel
theorem dX1_lives_1 : decode cX1_lives 1 = .ok (.iload_n 1, 1) := by decide +kernel
theorem dX1_lives_2 : decode cX1_lives 2 = .ok (.iconst 4, 1) := by decide +kernel
theorem dX1_lives_3 : decode cX1_lives 3 = .ok (.invokevirtual 39, 3) := by decide +kernel
theorem dX1_lives_6 : decode cX1_lives 6 = .ok (.iload_n 2, 1) := by decide +kernel
theorem dX1_lives_7 : decode cX1_lives 7 = .ok (.if_icmp .gt 17, 3) := by decide +kernel
theorem dX1_lives_10 : decode cX1_lives 10 = .ok (.iload_n 2, 1) := by decide +kernel
theorem dX1_lives_11 : decode cX1_lives 11 = .ok (.aload_n 0, 1) := by decide +kernel
theorem dX1_lives_12 : decode cX1_lives 12 = .ok (.iload_n 1, 1) := by decide +kernel
theorem dX1_lives_13 : decode cX1_lives 13 = .ok (.iconst 5, 1) := by decide +kernel
theorem dX1_lives_14 : decode cX1_lives 14 = .ok (.invokevirtual 39, 3) := by decide +kernel
theorem dX1_lives_17 : decode cX1_lives 17 = .ok (.if_icmp .gt 7, 3) := by decide +kernel
theorem dX1_lives_20 : decode cX1_lives 20 = .ok (.iconst 1, 1) := by decide +kernel
theorem dX1_lives_21 : decode cX1_lives 21 = .ok (.goto 4, 3) := by decide +kernel
theorem dX1_lives_24 : decode cX1_lives 24 = .ok (.iconst 0, 1) := by decide +kernel
theorem dX1_lives_25 : decode cX1_lives 25 = .ok (.ireturn, 1) := by decide +kernel
theorem dX1_counts_0 : decode cX1_counts 0 = .ok (.iload_n 1, 1) := by decide +kernel
theorem dX1_counts_1 : decode cX1_counts 1 = .ok (.ifCond .lt 11, 3) := by decide +kernel
theorem dX1_counts_4 : decode cX1_counts 4 = .ok (.iload_n 1, 1) := by decide +kernel
theorem dX1_counts_5 : decode cX1_counts 5 = .ok (.aload_n 0, 1) := by decide +kernel
theorem dX1_counts_6 : decode cX1_counts 6 = .ok (.getfield 15, 3) := by decide +kernel
theorem dX1_counts_9 : decode cX1_counts 9 = .ok (.if_icmp .lt 5, 3) := by decide +kernel
theorem dX1_counts_12 : decode cX1_counts 12 = .ok (.iconst 0, 1) := by decide +kernel
theorem dX1_counts_13 : decode cX1_counts 13 = .ok (.ireturn, 1) := by decide +kernel
theorem dX1_counts_14 : decode cX1_counts 14 = .ok (.iload_n 1, 1) := by decide +kernel
theorem dX1_counts_15 : decode cX1_counts 15 = .ok (.bipush 6, 2) := by decide +kernel
theorem dX1_counts_17 : decode cX1_counts 17 = .ok (.imul, 1) := by decide +kernel
theorem dX1_counts_18 : decode cX1_counts 18 = .ok (.istore 4, 2) := by decide +kernel
theorem dX1_counts_20 : decode cX1_counts 20 = .ok (.aload_n 0, 1) := by decide +kernel
theorem dX1_counts_21 : decode cX1_counts 21 = .ok (.getfield 9, 3) := by decide +kernel
theorem dX1_counts_24 : decode cX1_counts 24 = .ok (.iload 4, 2) := by decide +kernel
theorem dX1_counts_26 : decode cX1_counts 26 = .ok (.iconst 2, 1) := by decide +kernel
theorem dX1_counts_27 : decode cX1_counts 27 = .ok (.iadd, 1) := by decide +kernel
theorem dX1_counts_28 : decode cX1_counts 28 = .ok (.iaload, 1) := by decide +kernel
theorem dX1_counts_29 : decode cX1_counts 29 = .ok (.iload_n 2, 1) := by decide +kernel
theorem dX1_counts_30 : decode cX1_counts 30 = .ok (.if_icmp .gt 46, 3) := by decide +kernel
theorem dX1_counts_33 : decode cX1_counts 33 = .ok (.iload_n 2, 1) := by decide +kernel
theorem dX1_counts_34 : decode cX1_counts 34 = .ok (.aload_n 0, 1) := by decide +kernel
theorem dX1_counts_35 : decode cX1_counts 35 = .ok (.getfield 9, 3) := by decide +kernel
theorem dX1_counts_38 : decode cX1_counts 38 = .ok (.iload 4, 2) := by decide +kernel
theorem dX1_counts_40 : decode cX1_counts 40 = .ok (.iconst 3, 1) := by decide +kernel
theorem dX1_counts_41 : decode cX1_counts 41 = .ok (.iadd, 1) := by decide +kernel
theorem dX1_counts_42 : decode cX1_counts 42 = .ok (.iaload, 1) := by decide +kernel
theorem dX1_counts_43 : decode cX1_counts 43 = .ok (.if_icmp .gt 33, 3) := by decide +kernel
theorem dX1_counts_46 : decode cX1_counts 46 = .ok (.aload_n 0, 1) := by decide +kernel
theorem dX1_counts_47 : decode cX1_counts 47 = .ok (.getfield 9, 3) := by decide +kernel
theorem dX1_counts_50 : decode cX1_counts 50 = .ok (.iload 4, 2) := by decide +kernel
theorem dX1_counts_52 : decode cX1_counts 52 = .ok (.iconst 4, 1) := by decide +kernel
theorem dX1_counts_53 : decode cX1_counts 53 = .ok (.iadd, 1) := by decide +kernel
theorem dX1_counts_54 : decode cX1_counts 54 = .ok (.iaload, 1) := by decide +kernel
theorem dX1_counts_55 : decode cX1_counts 55 = .ok (.iload_n 3, 1) := by decide +kernel
theorem dX1_counts_56 : decode cX1_counts 56 = .ok (.if_icmp .gt 20, 3) := by decide +kernel
theorem dX1_counts_59 : decode cX1_counts 59 = .ok (.iload_n 3, 1) := by decide +kernel
theorem dX1_counts_60 : decode cX1_counts 60 = .ok (.aload_n 0, 1) := by decide +kernel
theorem dX1_counts_61 : decode cX1_counts 61 = .ok (.getfield 9, 3) := by decide +kernel
theorem dX1_counts_64 : decode cX1_counts 64 = .ok (.iload 4, 2) := by decide +kernel
theorem dX1_counts_66 : decode cX1_counts 66 = .ok (.iconst 5, 1) := by decide +kernel
theorem dX1_counts_67 : decode cX1_counts 67 = .ok (.iadd, 1) := by decide +kernel
theorem dX1_counts_68 : decode cX1_counts 68 = .ok (.iaload, 1) := by decide +kernel
theorem dX1_counts_69 : decode cX1_counts 69 = .ok (.if_icmp .gt 7, 3) := by decide +kernel
theorem dX1_counts_72 : decode cX1_counts 72 = .ok (.iconst 1, 1) := by decide +kernel
theorem dX1_counts_73 : decode cX1_counts 73 = .ok (.goto 4, 3) := by decide +kernel
theorem dX1_counts_76 : decode cX1_counts 76 = .ok (.iconst 0, 1) := by decide +kernel
theorem dX1_counts_77 : decode cX1_counts 77 = .ok (.ireturn, 1) := by decide +kernel
theorem dX1_living_0 : decode cX1_living 0 = .ok (.iconst 0, 1) := by decide +kernel
theorem dX1_living_1 : decode cX1_living 1 = .ok (.istore_n 1, 1) := by decide +kernel
theorem dX1_living_2 : decode cX1_living 2 = .ok (.iconst 0, 1) := by decide +kernel
theorem dX1_living_3 : decode cX1_living 3 = .ok (.istore_n 2, 1) := by decide +kernel
theorem dX1_living_4 : decode cX1_living 4 = .ok (.iload_n 2, 1) := by decide +kernel
theorem dX1_living_5 : decode cX1_living 5 = .ok (.aload_n 0, 1) := by decide +kernel
theorem dX1_living_6 : decode cX1_living 6 = .ok (.getfield 15, 3) := by decide +kernel
theorem dX1_living_9 : decode cX1_living 9 = .ok (.if_icmp .ge 24, 3) := by decide +kernel
theorem dX1_living_12 : decode cX1_living 12 = .ok (.aload_n 0, 1) := by decide +kernel
theorem dX1_living_13 : decode cX1_living 13 = .ok (.iload_n 2, 1) := by decide +kernel
theorem dX1_living_14 : decode cX1_living 14 = .ok (.aload_n 0, 1) := by decide +kernel
theorem dX1_living_15 : decode cX1_living 15 = .ok (.getfield 19, 3) := by decide +kernel
theorem dX1_living_18 : decode cX1_living 18 = .ok (.invokevirtual 43, 3) := by decide +kernel
theorem dX1_living_21 : decode cX1_living 21 = .ok (.ifCond .eq 6, 3) := by decide +kernel
theorem dX1_living_24 : decode cX1_living 24 = .ok (.iinc 1 1, 3) := by decide +kernel
theorem dX1_living_27 : decode cX1_living 27 = .ok (.iinc 2 1, 3) := by decide +kernel
theorem dX1_living_30 : decode cX1_living 30 = .ok (.goto (-26), 3) := by decide +kernel
theorem dX1_living_33 : decode cX1_living 33 = .ok (.iload_n 1, 1) := by decide +kernel
theorem dX1_living_34 : decode cX1_living 34 = .ok (.ireturn, 1) := by decide +kernel
theorem dX1_livesChangeAt_0 : decode cX1_livesChangeAt 0 = .ok (.iconst 0, 1) := by decide +kernel
theorem dX1_livesChangeAt_1 : decode cX1_livesChangeAt 1 = .ok (.istore_n 2, 1) := by decide +kernel
theorem dX1_livesChangeAt_2 : decode cX1_livesChangeAt 2 = .ok (.iload_n 2, 1) := by decide +kernel
theorem dX1_livesChangeAt_3 : decode cX1_livesChangeAt 3 = .ok (.aload_n 0, 1) := by decide +kernel
theorem dX1_livesChangeAt_4 : decode cX1_livesChangeAt 4 = .ok (.getfield 15, 3) := by decide +kernel
theorem dX1_livesChangeAt_7 : decode cX1_livesChangeAt 7 = .ok (.if_icmp .ge 28, 3) := by decide +kernel
theorem dX1_livesChangeAt_10 : decode cX1_livesChangeAt 10 = .ok (.aload_n 0, 1) := by decide +kernel
theorem dX1_livesChangeAt_11 : decode cX1_livesChangeAt 11 = .ok (.iload_n 2, 1) := by decide +kernel
theorem dX1_livesChangeAt_12 : decode cX1_livesChangeAt 12 = .ok (.iload_n 1, 1) := by decide +kernel
theorem dX1_livesChangeAt_13 : decode cX1_livesChangeAt 13 = .ok (.invokevirtual 43, 3) := by decide +kernel
theorem dX1_livesChangeAt_16 : decode cX1_livesChangeAt 16 = .ok (.aload_n 0, 1) := by decide +kernel
theorem dX1_livesChangeAt_17 : decode cX1_livesChangeAt 17 = .ok (.iload_n 2, 1) := by decide +kernel
theorem dX1_livesChangeAt_18 : decode cX1_livesChangeAt 18 = .ok (.iload_n 1, 1) := by decide +kernel
theorem dX1_livesChangeAt_19 : decode cX1_livesChangeAt 19 = .ok (.iconst 1, 1) := by decide +kernel
theorem dX1_livesChangeAt_20 : decode cX1_livesChangeAt 20 = .ok (.isub, 1) := by decide +kernel
theorem dX1_livesChangeAt_21 : decode cX1_livesChangeAt 21 = .ok (.invokevirtual 43, 3) := by decide +kernel
theorem dX1_livesChangeAt_24 : decode cX1_livesChangeAt 24 = .ok (.if_icmp .eq 5, 3) := by decide +kernel
theorem dX1_livesChangeAt_27 : decode cX1_livesChangeAt 27 = .ok (.iconst 1, 1) := by decide +kernel
theorem dX1_livesChangeAt_28 : decode cX1_livesChangeAt 28 = .ok (.ireturn, 1) := by decide +kernel
theorem dX1_livesChangeAt_29 : decode cX1_livesChangeAt 29 = .ok (.iinc 2 1, 3) := by decide +kernel
theorem dX1_livesChangeAt_32 : decode cX1_livesChangeAt 32 = .ok (.goto (-30), 3) := by decide +kernel
theorem dX1_livesChangeAt_35 : decode cX1_livesChangeAt 35 = .ok (.iconst 0, 1) := by decide +kernel
theorem dX1_livesChangeAt_36 : decode cX1_livesChangeAt 36 = .ok (.ireturn, 1) := by decide +kernel
theorem dX1_isLower_0 : decode cX1_isLower 0 = .ok (.aload_n 0, 1) := by decide +kernel
theorem dX1_isLower_1 : decode cX1_isLower 1 = .ok (.iload_n 1, 1) := by decide +kernel
theorem dX1_isLower_2 : decode cX1_isLower 2 = .ok (.iload_n 3, 1) := by decide +kernel
theorem dX1_isLower_3 : decode cX1_isLower 3 = .ok (.invokevirtual 47, 3) := by decide +kernel
theorem dX1_isLower_6 : decode cX1_isLower 6 = .ok (.aload_n 0, 1) := by decide +kernel
theorem dX1_isLower_7 : decode cX1_isLower 7 = .ok (.iload_n 2, 1) := by decide +kernel
theorem dX1_isLower_8 : decode cX1_isLower 8 = .ok (.iload_n 3, 1) := by decide +kernel
theorem dX1_isLower_9 : decode cX1_isLower 9 = .ok (.invokevirtual 47, 3) := by decide +kernel
theorem dX1_isLower_12 : decode cX1_isLower 12 = .ok (.isub, 1) := by decide +kernel
theorem dX1_isLower_13 : decode cX1_isLower 13 = .ok (.istore 4, 2) := by decide +kernel
theorem dX1_isLower_15 : decode cX1_isLower 15 = .ok (.iload 4, 2) := by decide +kernel
theorem dX1_isLower_17 : decode cX1_isLower 17 = .ok (.ifCond .lt 13, 3) := by decide +kernel
theorem dX1_isLower_20 : decode cX1_isLower 20 = .ok (.iload 4, 2) := by decide +kernel
theorem dX1_isLower_22 : decode cX1_isLower 22 = .ok (.ifCond .ne 12, 3) := by decide +kernel
theorem dX1_isLower_25 : decode cX1_isLower 25 = .ok (.iload_n 1, 1) := by decide +kernel
theorem dX1_isLower_26 : decode cX1_isLower 26 = .ok (.iload_n 2, 1) := by decide +kernel
theorem dX1_isLower_27 : decode cX1_isLower 27 = .ok (.if_icmp .ge 7, 3) := by decide +kernel
theorem dX1_isLower_30 : decode cX1_isLower 30 = .ok (.iconst 1, 1) := by decide +kernel
theorem dX1_isLower_31 : decode cX1_isLower 31 = .ok (.goto 4, 3) := by decide +kernel
theorem dX1_isLower_34 : decode cX1_isLower 34 = .ok (.iconst 0, 1) := by decide +kernel
theorem dX1_isLower_35 : decode cX1_isLower 35 = .ok (.ireturn, 1) := by decide +kernel
theorem dX1_rankOf_0 : decode cX1_rankOf 0 = .ok (.iconst 0, 1) := by decide +kernel
theorem dX1_rankOf_1 : decode cX1_rankOf 1 = .ok (.istore_n 3, 1) := by decide +kernel
theorem dX1_rankOf_2 : decode cX1_rankOf 2 = .ok (.iconst 0, 1) := by decide +kernel
theorem dX1_rankOf_3 : decode cX1_rankOf 3 = .ok (.istore 4, 2) := by decide +kernel
theorem dX1_rankOf_5 : decode cX1_rankOf 5 = .ok (.iload 4, 2) := by decide +kernel
theorem dX1_rankOf_7 : decode cX1_rankOf 7 = .ok (.aload_n 0, 1) := by decide +kernel
theorem dX1_rankOf_8 : decode cX1_rankOf 8 = .ok (.getfield 15, 3) := by decide +kernel
theorem dX1_rankOf_11 : decode cX1_rankOf 11 = .ok (.if_icmp .ge 37, 3) := by decide +kernel
theorem dX1_rankOf_14 : decode cX1_rankOf 14 = .ok (.aload_n 0, 1) := by decide +kernel
theorem dX1_rankOf_15 : decode cX1_rankOf 15 = .ok (.iload 4, 2) := by decide +kernel
theorem dX1_rankOf_17 : decode cX1_rankOf 17 = .ok (.iload_n 2, 1) := by decide +kernel
theorem dX1_rankOf_18 : decode cX1_rankOf 18 = .ok (.aload_n 0, 1) := by decide +kernel
theorem dX1_rankOf_19 : decode cX1_rankOf 19 = .ok (.getfield 19, 3) := by decide +kernel
theorem dX1_rankOf_22 : decode cX1_rankOf 22 = .ok (.invokevirtual 50, 3) := by decide +kernel
theorem dX1_rankOf_25 : decode cX1_rankOf 25 = .ok (.ifCond .eq 17, 3) := by decide +kernel
theorem dX1_rankOf_28 : decode cX1_rankOf 28 = .ok (.aload_n 0, 1) := by decide +kernel
theorem dX1_rankOf_29 : decode cX1_rankOf 29 = .ok (.iload 4, 2) := by decide +kernel
theorem dX1_rankOf_31 : decode cX1_rankOf 31 = .ok (.iload_n 1, 1) := by decide +kernel
theorem dX1_rankOf_32 : decode cX1_rankOf 32 = .ok (.iload_n 2, 1) := by decide +kernel
theorem dX1_rankOf_33 : decode cX1_rankOf 33 = .ok (.invokevirtual 54, 3) := by decide +kernel
theorem dX1_rankOf_36 : decode cX1_rankOf 36 = .ok (.ifCond .eq 6, 3) := by decide +kernel
theorem dX1_rankOf_39 : decode cX1_rankOf 39 = .ok (.iinc 3 1, 3) := by decide +kernel
theorem dX1_rankOf_42 : decode cX1_rankOf 42 = .ok (.iinc 4 1, 3) := by decide +kernel
theorem dX1_rankOf_45 : decode cX1_rankOf 45 = .ok (.goto (-40), 3) := by decide +kernel
theorem dX1_rankOf_48 : decode cX1_rankOf 48 = .ok (.iload_n 3, 1) := by decide +kernel
theorem dX1_rankOf_49 : decode cX1_rankOf 49 = .ok (.ireturn, 1) := by decide +kernel
theorem dX1_lowestBut_0 : decode cX1_lowestBut 0 = .ok (.iconst (-1), 1) := by decide +kernel
theorem dX1_lowestBut_1 : decode cX1_lowestBut 1 = .ok (.istore 4, 2) := by decide +kernel
theorem dX1_lowestBut_3 : decode cX1_lowestBut 3 = .ok (.iconst 0, 1) := by decide +kernel
theorem dX1_lowestBut_4 : decode cX1_lowestBut 4 = .ok (.istore 5, 2) := by decide +kernel
theorem dX1_lowestBut_6 : decode cX1_lowestBut 6 = .ok (.iconst 0, 1) := by decide +kernel
theorem dX1_lowestBut_7 : decode cX1_lowestBut 7 = .ok (.istore 6, 2) := by decide +kernel
theorem dX1_lowestBut_9 : decode cX1_lowestBut 9 = .ok (.iload 6, 2) := by decide +kernel
theorem dX1_lowestBut_11 : decode cX1_lowestBut 11 = .ok (.aload_n 0, 1) := by decide +kernel
theorem dX1_lowestBut_12 : decode cX1_lowestBut 12 = .ok (.getfield 15, 3) := by decide +kernel
theorem dX1_lowestBut_15 : decode cX1_lowestBut 15 = .ok (.if_icmp .ge 56, 3) := by decide +kernel
theorem dX1_lowestBut_18 : decode cX1_lowestBut 18 = .ok (.iload 6, 2) := by decide +kernel
theorem dX1_lowestBut_20 : decode cX1_lowestBut 20 = .ok (.iload_n 1, 1) := by decide +kernel
theorem dX1_lowestBut_21 : decode cX1_lowestBut 21 = .ok (.if_icmp .eq 44, 3) := by decide +kernel
theorem dX1_lowestBut_24 : decode cX1_lowestBut 24 = .ok (.aload_n 0, 1) := by decide +kernel
theorem dX1_lowestBut_25 : decode cX1_lowestBut 25 = .ok (.iload 6, 2) := by decide +kernel
theorem dX1_lowestBut_27 : decode cX1_lowestBut 27 = .ok (.iload_n 2, 1) := by decide +kernel
theorem dX1_lowestBut_28 : decode cX1_lowestBut 28 = .ok (.iload_n 3, 1) := by decide +kernel
theorem dX1_lowestBut_29 : decode cX1_lowestBut 29 = .ok (.invokevirtual 50, 3) := by decide +kernel
theorem dX1_lowestBut_32 : decode cX1_lowestBut 32 = .ok (.ifCond .eq 33, 3) := by decide +kernel
theorem dX1_lowestBut_35 : decode cX1_lowestBut 35 = .ok (.aload_n 0, 1) := by decide +kernel
theorem dX1_lowestBut_36 : decode cX1_lowestBut 36 = .ok (.iload 6, 2) := by decide +kernel
theorem dX1_lowestBut_38 : decode cX1_lowestBut 38 = .ok (.iload_n 2, 1) := by decide +kernel
theorem dX1_lowestBut_39 : decode cX1_lowestBut 39 = .ok (.invokevirtual 47, 3) := by decide +kernel
theorem dX1_lowestBut_42 : decode cX1_lowestBut 42 = .ok (.istore 7, 2) := by decide +kernel
theorem dX1_lowestBut_44 : decode cX1_lowestBut 44 = .ok (.iload 4, 2) := by decide +kernel
theorem dX1_lowestBut_46 : decode cX1_lowestBut 46 = .ok (.iconst (-1), 1) := by decide +kernel
theorem dX1_lowestBut_47 : decode cX1_lowestBut 47 = .ok (.if_icmp .eq 10, 3) := by decide +kernel
theorem dX1_lowestBut_50 : decode cX1_lowestBut 50 = .ok (.iload 7, 2) := by decide +kernel
theorem dX1_lowestBut_52 : decode cX1_lowestBut 52 = .ok (.iload 5, 2) := by decide +kernel
theorem dX1_lowestBut_54 : decode cX1_lowestBut 54 = .ok (.if_icmp .ge 11, 3) := by decide +kernel
theorem dX1_lowestBut_57 : decode cX1_lowestBut 57 = .ok (.iload 6, 2) := by decide +kernel
theorem dX1_lowestBut_59 : decode cX1_lowestBut 59 = .ok (.istore 4, 2) := by decide +kernel
theorem dX1_lowestBut_61 : decode cX1_lowestBut 61 = .ok (.iload 7, 2) := by decide +kernel
theorem dX1_lowestBut_63 : decode cX1_lowestBut 63 = .ok (.istore 5, 2) := by decide +kernel
theorem dX1_lowestBut_65 : decode cX1_lowestBut 65 = .ok (.iinc 6 1, 3) := by decide +kernel
theorem dX1_lowestBut_68 : decode cX1_lowestBut 68 = .ok (.goto (-59), 3) := by decide +kernel
theorem dX1_lowestBut_71 : decode cX1_lowestBut 71 = .ok (.iload 4, 2) := by decide +kernel
theorem dX1_lowestBut_73 : decode cX1_lowestBut 73 = .ok (.ireturn, 1) := by decide +kernel
theorem dX2_init_0 : decode cX2_init 0 = .ok (.aload_n 0, 1) := by decide +kernel
theorem dX2_init_1 : decode cX2_init 1 = .ok (.invokespecial 3, 3) := by decide +kernel
theorem dX2_init_4 : decode cX2_init 4 = .ok (.aload_n 0, 1) := by decide +kernel
theorem dX2_init_5 : decode cX2_init 5 = .ok (.bipush 64, 2) := by decide +kernel
theorem dX2_init_7 : decode cX2_init 7 = .ok (.newarray .int, 2) := by decide +kernel
theorem dX2_init_9 : decode cX2_init 9 = .ok (.putfield 9, 3) := by decide +kernel
theorem dX2_init_12 : decode cX2_init 12 = .ok (.aload_n 0, 1) := by decide +kernel
theorem dX2_init_13 : decode cX2_init 13 = .ok (.bipush 65, 2) := by decide +kernel
theorem dX2_init_15 : decode cX2_init 15 = .ok (.newarray .int, 2) := by decide +kernel
theorem dX2_init_17 : decode cX2_init 17 = .ok (.putfield 15, 3) := by decide +kernel
theorem dX2_init_20 : decode cX2_init 20 = .ok (.aload_n 0, 1) := by decide +kernel
theorem dX2_init_21 : decode cX2_init 21 = .ok (.iconst 0, 1) := by decide +kernel
theorem dX2_init_22 : decode cX2_init 22 = .ok (.putfield 18, 3) := by decide +kernel
theorem dX2_init_25 : decode cX2_init 25 = .ok (.aload_n 0, 1) := by decide +kernel
theorem dX2_init_26 : decode cX2_init 26 = .ok (.iconst (-1), 1) := by decide +kernel
theorem dX2_init_27 : decode cX2_init 27 = .ok (.putfield 22, 3) := by decide +kernel
theorem dX2_init_30 : decode cX2_init 30 = .ok (.aload_n 0, 1) := by decide +kernel
theorem dX2_init_31 : decode cX2_init 31 = .ok (.aload_n 1, 1) := by decide +kernel
theorem dX2_init_32 : decode cX2_init 32 = .ok (.putfield 25, 3) := by decide +kernel
theorem dX2_init_35 : decode cX2_init 35 = .ok (.return_, 1) := by decide +kernel
theorem dX2_lineAt_0 : decode cX2_lineAt 0 = .ok (.aload_n 0, 1) := by decide +kernel
theorem dX2_lineAt_1 : decode cX2_lineAt 1 = .ok (.invokevirtual 29, 3) := by decide +kernel
theorem dX2_lineAt_4 : decode cX2_lineAt 4 = .ok (.iload_n 1, 1) := by decide +kernel
theorem dX2_lineAt_5 : decode cX2_lineAt 5 = .ok (.ifCond .lt 9, 3) := by decide +kernel
theorem dX2_lineAt_8 : decode cX2_lineAt 8 = .ok (.iload_n 1, 1) := by decide +kernel
theorem dX2_lineAt_9 : decode cX2_lineAt 9 = .ok (.bipush 64, 2) := by decide +kernel
theorem dX2_lineAt_11 : decode cX2_lineAt 11 = .ok (.if_icmp .lt 7, 3) := by decide +kernel
theorem dX2_lineAt_14 : decode cX2_lineAt 14 = .ok (.iconst (-1), 1) := by decide +kernel
theorem dX2_lineAt_15 : decode cX2_lineAt 15 = .ok (.goto 9, 3) := by decide +kernel
theorem dX2_lineAt_18 : decode cX2_lineAt 18 = .ok (.aload_n 0, 1) := by decide +kernel
theorem dX2_lineAt_19 : decode cX2_lineAt 19 = .ok (.getfield 9, 3) := by decide +kernel
theorem dX2_lineAt_22 : decode cX2_lineAt 22 = .ok (.iload_n 1, 1) := by decide +kernel
theorem dX2_lineAt_23 : decode cX2_lineAt 23 = .ok (.iaload, 1) := by decide +kernel
theorem dX2_lineAt_24 : decode cX2_lineAt 24 = .ok (.ireturn, 1) := by decide +kernel
theorem dX2_placesOf_0 : decode cX2_placesOf 0 = .ok (.aload_n 0, 1) := by decide +kernel
theorem dX2_placesOf_1 : decode cX2_placesOf 1 = .ok (.invokevirtual 29, 3) := by decide +kernel
theorem dX2_placesOf_4 : decode cX2_placesOf 4 = .ok (.iconst 0, 1) := by decide +kernel
theorem dX2_placesOf_5 : decode cX2_placesOf 5 = .ok (.istore_n 2, 1) := by decide +kernel
theorem dX2_placesOf_6 : decode cX2_placesOf 6 = .ok (.iconst 0, 1) := by decide +kernel
theorem dX2_placesOf_7 : decode cX2_placesOf 7 = .ok (.istore_n 3, 1) := by decide +kernel
theorem dX2_placesOf_8 : decode cX2_placesOf 8 = .ok (.iload_n 3, 1) := by decide +kernel
theorem dX2_placesOf_9 : decode cX2_placesOf 9 = .ok (.bipush 64, 2) := by decide +kernel
theorem dX2_placesOf_11 : decode cX2_placesOf 11 = .ok (.if_icmp .ge 22, 3) := by decide +kernel
theorem dX2_placesOf_14 : decode cX2_placesOf 14 = .ok (.aload_n 0, 1) := by decide +kernel
theorem dX2_placesOf_15 : decode cX2_placesOf 15 = .ok (.getfield 9, 3) := by decide +kernel
theorem dX2_placesOf_18 : decode cX2_placesOf 18 = .ok (.iload_n 3, 1) := by decide +kernel
theorem dX2_placesOf_19 : decode cX2_placesOf 19 = .ok (.iaload, 1) := by decide +kernel
theorem dX2_placesOf_20 : decode cX2_placesOf 20 = .ok (.iload_n 1, 1) := by decide +kernel
theorem dX2_placesOf_21 : decode cX2_placesOf 21 = .ok (.if_icmp .ne 6, 3) := by decide +kernel
theorem dX2_placesOf_24 : decode cX2_placesOf 24 = .ok (.iinc 2 1, 3) := by decide +kernel
theorem dX2_placesOf_27 : decode cX2_placesOf 27 = .ok (.iinc 3 1, 3) := by decide +kernel
theorem dX2_placesOf_30 : decode cX2_placesOf 30 = .ok (.goto (-22), 3) := by decide +kernel
theorem dX2_placesOf_33 : decode cX2_placesOf 33 = .ok (.iload_n 2, 1) := by decide +kernel
theorem dX2_placesOf_34 : decode cX2_placesOf 34 = .ok (.ireturn, 1) := by decide +kernel
theorem dX2_rowCount_0 : decode cX2_rowCount 0 = .ok (.aload_n 0, 1) := by decide +kernel
theorem dX2_rowCount_1 : decode cX2_rowCount 1 = .ok (.invokevirtual 29, 3) := by decide +kernel
theorem dX2_rowCount_4 : decode cX2_rowCount 4 = .ok (.aload_n 0, 1) := by decide +kernel
theorem dX2_rowCount_5 : decode cX2_rowCount 5 = .ok (.getfield 18, 3) := by decide +kernel
theorem dX2_rowCount_8 : decode cX2_rowCount 8 = .ok (.ireturn, 1) := by decide +kernel
theorem dX2_rowStart_0 : decode cX2_rowStart 0 = .ok (.aload_n 0, 1) := by decide +kernel
theorem dX2_rowStart_1 : decode cX2_rowStart 1 = .ok (.invokevirtual 29, 3) := by decide +kernel
theorem dX2_rowStart_4 : decode cX2_rowStart 4 = .ok (.iload_n 1, 1) := by decide +kernel
theorem dX2_rowStart_5 : decode cX2_rowStart 5 = .ok (.ifCond .lt 11, 3) := by decide +kernel
theorem dX2_rowStart_8 : decode cX2_rowStart 8 = .ok (.iload_n 1, 1) := by decide +kernel
theorem dX2_rowStart_9 : decode cX2_rowStart 9 = .ok (.aload_n 0, 1) := by decide +kernel
theorem dX2_rowStart_10 : decode cX2_rowStart 10 = .ok (.getfield 18, 3) := by decide +kernel
theorem dX2_rowStart_13 : decode cX2_rowStart 13 = .ok (.if_icmp .le 7, 3) := by decide +kernel
theorem dX2_rowStart_16 : decode cX2_rowStart 16 = .ok (.iconst (-1), 1) := by decide +kernel
theorem dX2_rowStart_17 : decode cX2_rowStart 17 = .ok (.goto 9, 3) := by decide +kernel
theorem dX2_rowStart_20 : decode cX2_rowStart 20 = .ok (.aload_n 0, 1) := by decide +kernel
theorem dX2_rowStart_21 : decode cX2_rowStart 21 = .ok (.getfield 15, 3) := by decide +kernel
theorem dX2_rowStart_24 : decode cX2_rowStart 24 = .ok (.iload_n 1, 1) := by decide +kernel
theorem dX2_rowStart_25 : decode cX2_rowStart 25 = .ok (.iaload, 1) := by decide +kernel
theorem dX2_rowStart_26 : decode cX2_rowStart 26 = .ok (.ireturn, 1) := by decide +kernel
theorem dX2_renew_0 : decode cX2_renew 0 = .ok (.aload_n 0, 1) := by decide +kernel
theorem dX2_renew_1 : decode cX2_renew 1 = .ok (.getfield 22, 3) := by decide +kernel
theorem dX2_renew_4 : decode cX2_renew 4 = .ok (.aload_n 0, 1) := by decide +kernel
theorem dX2_renew_5 : decode cX2_renew 5 = .ok (.getfield 25, 3) := by decide +kernel
theorem dX2_renew_8 : decode cX2_renew 8 = .ok (.invokevirtual 32, 3) := by decide +kernel
theorem dX2_renew_11 : decode cX2_renew 11 = .ok (.if_icmp .ne 4, 3) := by decide +kernel
theorem dX2_renew_14 : decode cX2_renew 14 = .ok (.return_, 1) := by decide +kernel
theorem dX2_renew_15 : decode cX2_renew 15 = .ok (.aload_n 0, 1) := by decide +kernel
theorem dX2_renew_16 : decode cX2_renew 16 = .ok (.aload_n 0, 1) := by decide +kernel
theorem dX2_renew_17 : decode cX2_renew 17 = .ok (.getfield 25, 3) := by decide +kernel
theorem dX2_renew_20 : decode cX2_renew 20 = .ok (.invokevirtual 32, 3) := by decide +kernel
theorem dX2_renew_23 : decode cX2_renew 23 = .ok (.putfield 22, 3) := by decide +kernel
theorem dX2_renew_26 : decode cX2_renew 26 = .ok (.aload_n 0, 1) := by decide +kernel
theorem dX2_renew_27 : decode cX2_renew 27 = .ok (.iconst 0, 1) := by decide +kernel
theorem dX2_renew_28 : decode cX2_renew 28 = .ok (.putfield 18, 3) := by decide +kernel
theorem dX2_renew_31 : decode cX2_renew 31 = .ok (.iconst 0, 1) := by decide +kernel
theorem dX2_renew_32 : decode cX2_renew 32 = .ok (.istore_n 1, 1) := by decide +kernel
theorem dX2_renew_33 : decode cX2_renew 33 = .ok (.iload_n 1, 1) := by decide +kernel
theorem dX2_renew_34 : decode cX2_renew 34 = .ok (.bipush 64, 2) := by decide +kernel
theorem dX2_renew_36 : decode cX2_renew 36 = .ok (.if_icmp .ge 72, 3) := by decide +kernel
theorem dX2_renew_39 : decode cX2_renew 39 = .ok (.aload_n 0, 1) := by decide +kernel
theorem dX2_renew_40 : decode cX2_renew 40 = .ok (.getfield 9, 3) := by decide +kernel
theorem dX2_renew_43 : decode cX2_renew 43 = .ok (.iload_n 1, 1) := by decide +kernel
theorem dX2_renew_44 : decode cX2_renew 44 = .ok (.aload_n 0, 1) := by decide +kernel
theorem dX2_renew_45 : decode cX2_renew 45 = .ok (.getfield 25, 3) := by decide +kernel
theorem dX2_renew_48 : decode cX2_renew 48 = .ok (.iconst (-1), 1) := by decide +kernel
theorem dX2_renew_49 : decode cX2_renew 49 = .ok (.iload_n 1, 1) := by decide +kernel
theorem dX2_renew_50 : decode cX2_renew 50 = .ok (.aload_n 0, 1) := by decide +kernel
theorem dX2_renew_51 : decode cX2_renew 51 = .ok (.getfield 25, 3) := by decide +kernel
theorem dX2_renew_54 : decode cX2_renew 54 = .ok (.invokevirtual 37, 3) := by decide +kernel
theorem dX2_renew_57 : decode cX2_renew 57 = .ok (.invokevirtual 40, 3) := by decide +kernel
theorem dX2_renew_60 : decode cX2_renew 60 = .ok (.iastore, 1) := by decide +kernel
theorem dX2_renew_61 : decode cX2_renew 61 = .ok (.iload_n 1, 1) := by decide +kernel
theorem dX2_renew_62 : decode cX2_renew 62 = .ok (.ifCond .eq 20, 3) := by decide +kernel
theorem dX2_renew_65 : decode cX2_renew 65 = .ok (.aload_n 0, 1) := by decide +kernel
theorem dX2_renew_66 : decode cX2_renew 66 = .ok (.getfield 9, 3) := by decide +kernel
theorem dX2_renew_69 : decode cX2_renew 69 = .ok (.iload_n 1, 1) := by decide +kernel
theorem dX2_renew_70 : decode cX2_renew 70 = .ok (.iaload, 1) := by decide +kernel
theorem dX2_renew_71 : decode cX2_renew 71 = .ok (.aload_n 0, 1) := by decide +kernel
theorem dX2_renew_72 : decode cX2_renew 72 = .ok (.getfield 9, 3) := by decide +kernel
theorem dX2_renew_75 : decode cX2_renew 75 = .ok (.iload_n 1, 1) := by decide +kernel
theorem dX2_renew_76 : decode cX2_renew 76 = .ok (.iconst 1, 1) := by decide +kernel
theorem dX2_renew_77 : decode cX2_renew 77 = .ok (.isub, 1) := by decide +kernel
theorem dX2_renew_78 : decode cX2_renew 78 = .ok (.iaload, 1) := by decide +kernel
theorem dX2_renew_79 : decode cX2_renew 79 = .ok (.if_icmp .eq 23, 3) := by decide +kernel
theorem dX2_renew_82 : decode cX2_renew 82 = .ok (.aload_n 0, 1) := by decide +kernel
theorem dX2_renew_83 : decode cX2_renew 83 = .ok (.getfield 15, 3) := by decide +kernel
theorem dX2_renew_86 : decode cX2_renew 86 = .ok (.aload_n 0, 1) := by decide +kernel
theorem dX2_renew_87 : decode cX2_renew 87 = .ok (.getfield 18, 3) := by decide +kernel
theorem dX2_renew_90 : decode cX2_renew 90 = .ok (.iload_n 1, 1) := by decide +kernel
theorem dX2_renew_91 : decode cX2_renew 91 = .ok (.iastore, 1) := by decide +kernel
theorem dX2_renew_92 : decode cX2_renew 92 = .ok (.aload_n 0, 1) := by decide +kernel
theorem dX2_renew_93 : decode cX2_renew 93 = .ok (.dup, 1) := by decide +kernel
theorem dX2_renew_94 : decode cX2_renew 94 = .ok (.getfield 18, 3) := by decide +kernel
theorem dX2_renew_97 : decode cX2_renew 97 = .ok (.iconst 1, 1) := by decide +kernel
theorem dX2_renew_98 : decode cX2_renew 98 = .ok (.iadd, 1) := by decide +kernel
theorem dX2_renew_99 : decode cX2_renew 99 = .ok (.putfield 18, 3) := by decide +kernel
theorem dX2_renew_102 : decode cX2_renew 102 = .ok (.iinc 1 1, 3) := by decide +kernel
theorem dX2_renew_105 : decode cX2_renew 105 = .ok (.goto (-72), 3) := by decide +kernel
theorem dX2_renew_108 : decode cX2_renew 108 = .ok (.aload_n 0, 1) := by decide +kernel
theorem dX2_renew_109 : decode cX2_renew 109 = .ok (.getfield 15, 3) := by decide +kernel
theorem dX2_renew_112 : decode cX2_renew 112 = .ok (.aload_n 0, 1) := by decide +kernel
theorem dX2_renew_113 : decode cX2_renew 113 = .ok (.getfield 18, 3) := by decide +kernel
theorem dX2_renew_116 : decode cX2_renew 116 = .ok (.bipush 64, 2) := by decide +kernel
theorem dX2_renew_118 : decode cX2_renew 118 = .ok (.iastore, 1) := by decide +kernel
theorem dX2_renew_119 : decode cX2_renew 119 = .ok (.return_, 1) := by decide +kernel
theorem dX3_init_0 : decode cX3_init 0 = .ok (.aload_n 0, 1) := by decide +kernel
theorem dX3_init_1 : decode cX3_init 1 = .ok (.invokespecial 3, 3) := by decide +kernel
theorem dX3_init_4 : decode cX3_init 4 = .ok (.aload_n 0, 1) := by decide +kernel
theorem dX3_init_5 : decode cX3_init 5 = .ok (.iconst 0, 1) := by decide +kernel
theorem dX3_init_6 : decode cX3_init 6 = .ok (.putfield 11, 3) := by decide +kernel
theorem dX3_init_9 : decode cX3_init 9 = .ok (.aload_n 0, 1) := by decide +kernel
theorem dX3_init_10 : decode cX3_init 10 = .ok (.iconst 0, 1) := by decide +kernel
theorem dX3_init_11 : decode cX3_init 11 = .ok (.putfield 15, 3) := by decide +kernel
theorem dX3_init_14 : decode cX3_init 14 = .ok (.aload_n 0, 1) := by decide +kernel
theorem dX3_init_15 : decode cX3_init 15 = .ok (.iconst 0, 1) := by decide +kernel
theorem dX3_init_16 : decode cX3_init 16 = .ok (.putfield 18, 3) := by decide +kernel
theorem dX3_init_19 : decode cX3_init 19 = .ok (.aload_n 0, 1) := by decide +kernel
theorem dX3_init_20 : decode cX3_init 20 = .ok (.iconst 0, 1) := by decide +kernel
theorem dX3_init_21 : decode cX3_init 21 = .ok (.putfield 22, 3) := by decide +kernel
theorem dX3_init_24 : decode cX3_init 24 = .ok (.aload_n 0, 1) := by decide +kernel
theorem dX3_init_25 : decode cX3_init 25 = .ok (.iconst 0, 1) := by decide +kernel
theorem dX3_init_26 : decode cX3_init 26 = .ok (.putfield 25, 3) := by decide +kernel
theorem dX3_init_29 : decode cX3_init 29 = .ok (.aload_n 0, 1) := by decide +kernel
theorem dX3_init_30 : decode cX3_init 30 = .ok (.iconst 0, 1) := by decide +kernel
theorem dX3_init_31 : decode cX3_init 31 = .ok (.putfield 28, 3) := by decide +kernel
theorem dX3_init_34 : decode cX3_init 34 = .ok (.return_, 1) := by decide +kernel
theorem dX4_init_0 : decode cX4_init 0 = .ok (.aload_n 0, 1) := by decide +kernel
theorem dX4_init_1 : decode cX4_init 1 = .ok (.invokespecial 3, 3) := by decide +kernel
theorem dX4_init_4 : decode cX4_init 4 = .ok (.aload_n 0, 1) := by decide +kernel
theorem dX4_init_5 : decode cX4_init 5 = .ok (.bipush 20, 2) := by decide +kernel
theorem dX4_init_7 : decode cX4_init 7 = .ok (.newarray .int, 2) := by decide +kernel
theorem dX4_init_9 : decode cX4_init 9 = .ok (.putfield 9, 3) := by decide +kernel
theorem dX4_init_12 : decode cX4_init 12 = .ok (.aload_n 0, 1) := by decide +kernel
theorem dX4_init_13 : decode cX4_init 13 = .ok (.iconst (-1), 1) := by decide +kernel
theorem dX4_init_14 : decode cX4_init 14 = .ok (.putfield 15, 3) := by decide +kernel
theorem dX4_init_17 : decode cX4_init 17 = .ok (.aload_n 0, 1) := by decide +kernel
theorem dX4_init_18 : decode cX4_init 18 = .ok (.aload_n 1, 1) := by decide +kernel
theorem dX4_init_19 : decode cX4_init 19 = .ok (.putfield 19, 3) := by decide +kernel
theorem dX4_init_22 : decode cX4_init 22 = .ok (.return_, 1) := by decide +kernel
theorem dX4_firstMoment_0 : decode cX4_firstMoment 0 = .ok (.aload_n 0, 1) := by decide +kernel
theorem dX4_firstMoment_1 : decode cX4_firstMoment 1 = .ok (.invokevirtual 23, 3) := by decide +kernel
theorem dX4_firstMoment_4 : decode cX4_firstMoment 4 = .ok (.iload_n 1, 1) := by decide +kernel
theorem dX4_firstMoment_5 : decode cX4_firstMoment 5 = .ok (.ifCond .lt 9, 3) := by decide +kernel
theorem dX4_firstMoment_8 : decode cX4_firstMoment 8 = .ok (.iload_n 1, 1) := by decide +kernel
theorem dX4_firstMoment_9 : decode cX4_firstMoment 9 = .ok (.bipush 20, 2) := by decide +kernel
theorem dX4_firstMoment_11 : decode cX4_firstMoment 11 = .ok (.if_icmp .lt 7, 3) := by decide +kernel
theorem dX4_firstMoment_14 : decode cX4_firstMoment 14 = .ok (.iconst (-1), 1) := by decide +kernel
theorem dX4_firstMoment_15 : decode cX4_firstMoment 15 = .ok (.goto 9, 3) := by decide +kernel
theorem dX4_firstMoment_18 : decode cX4_firstMoment 18 = .ok (.aload_n 0, 1) := by decide +kernel
theorem dX4_firstMoment_19 : decode cX4_firstMoment 19 = .ok (.getfield 9, 3) := by decide +kernel
theorem dX4_firstMoment_22 : decode cX4_firstMoment 22 = .ok (.iload_n 1, 1) := by decide +kernel
theorem dX4_firstMoment_23 : decode cX4_firstMoment 23 = .ok (.iaload, 1) := by decide +kernel
theorem dX4_firstMoment_24 : decode cX4_firstMoment 24 = .ok (.ireturn, 1) := by decide +kernel
theorem dX4_neverLowest_0 : decode cX4_neverLowest 0 = .ok (.aload_n 0, 1) := by decide +kernel
theorem dX4_neverLowest_1 : decode cX4_neverLowest 1 = .ok (.invokevirtual 23, 3) := by decide +kernel
theorem dX4_neverLowest_4 : decode cX4_neverLowest 4 = .ok (.iconst 0, 1) := by decide +kernel
theorem dX4_neverLowest_5 : decode cX4_neverLowest 5 = .ok (.istore_n 1, 1) := by decide +kernel
theorem dX4_neverLowest_6 : decode cX4_neverLowest 6 = .ok (.iconst 0, 1) := by decide +kernel
theorem dX4_neverLowest_7 : decode cX4_neverLowest 7 = .ok (.istore_n 2, 1) := by decide +kernel
theorem dX4_neverLowest_8 : decode cX4_neverLowest 8 = .ok (.iload_n 2, 1) := by decide +kernel
theorem dX4_neverLowest_9 : decode cX4_neverLowest 9 = .ok (.aload_n 0, 1) := by decide +kernel
theorem dX4_neverLowest_10 : decode cX4_neverLowest 10 = .ok (.getfield 19, 3) := by decide +kernel
theorem dX4_neverLowest_13 : decode cX4_neverLowest 13 = .ok (.invokevirtual 26, 3) := by decide +kernel
theorem dX4_neverLowest_16 : decode cX4_neverLowest 16 = .ok (.if_icmp .ge 31, 3) := by decide +kernel
theorem dX4_neverLowest_19 : decode cX4_neverLowest 19 = .ok (.iload_n 2, 1) := by decide +kernel
theorem dX4_neverLowest_20 : decode cX4_neverLowest 20 = .ok (.bipush 20, 2) := by decide +kernel
theorem dX4_neverLowest_22 : decode cX4_neverLowest 22 = .ok (.if_icmp .ge 25, 3) := by decide +kernel
theorem dX4_neverLowest_25 : decode cX4_neverLowest 25 = .ok (.aload_n 0, 1) := by decide +kernel
theorem dX4_neverLowest_26 : decode cX4_neverLowest 26 = .ok (.getfield 9, 3) := by decide +kernel
theorem dX4_neverLowest_29 : decode cX4_neverLowest 29 = .ok (.iload_n 2, 1) := by decide +kernel
theorem dX4_neverLowest_30 : decode cX4_neverLowest 30 = .ok (.iaload, 1) := by decide +kernel
theorem dX4_neverLowest_31 : decode cX4_neverLowest 31 = .ok (.iconst (-1), 1) := by decide +kernel
theorem dX4_neverLowest_32 : decode cX4_neverLowest 32 = .ok (.if_icmp .ne 9, 3) := by decide +kernel
theorem dX4_neverLowest_35 : decode cX4_neverLowest 35 = .ok (.iload_n 1, 1) := by decide +kernel
theorem dX4_neverLowest_36 : decode cX4_neverLowest 36 = .ok (.iconst 1, 1) := by decide +kernel
theorem dX4_neverLowest_37 : decode cX4_neverLowest 37 = .ok (.iload_n 2, 1) := by decide +kernel
theorem dX4_neverLowest_38 : decode cX4_neverLowest 38 = .ok (.ishl, 1) := by decide +kernel
theorem dX4_neverLowest_39 : decode cX4_neverLowest 39 = .ok (.ior, 1) := by decide +kernel
theorem dX4_neverLowest_40 : decode cX4_neverLowest 40 = .ok (.istore_n 1, 1) := by decide +kernel
theorem dX4_neverLowest_41 : decode cX4_neverLowest 41 = .ok (.iinc 2 1, 3) := by decide +kernel
theorem dX4_neverLowest_44 : decode cX4_neverLowest 44 = .ok (.goto (-36), 3) := by decide +kernel
theorem dX4_neverLowest_47 : decode cX4_neverLowest 47 = .ok (.iload_n 1, 1) := by decide +kernel
theorem dX4_neverLowest_48 : decode cX4_neverLowest 48 = .ok (.ireturn, 1) := by decide +kernel
theorem dX4_renew_0 : decode cX4_renew 0 = .ok (.aload_n 0, 1) := by decide +kernel
theorem dX4_renew_1 : decode cX4_renew 1 = .ok (.getfield 15, 3) := by decide +kernel
theorem dX4_renew_4 : decode cX4_renew 4 = .ok (.aload_n 0, 1) := by decide +kernel
theorem dX4_renew_5 : decode cX4_renew 5 = .ok (.getfield 19, 3) := by decide +kernel
theorem dX4_renew_8 : decode cX4_renew 8 = .ok (.invokevirtual 32, 3) := by decide +kernel
theorem dX4_renew_11 : decode cX4_renew 11 = .ok (.if_icmp .ne 4, 3) := by decide +kernel
theorem dX4_renew_14 : decode cX4_renew 14 = .ok (.return_, 1) := by decide +kernel
theorem dX4_renew_15 : decode cX4_renew 15 = .ok (.aload_n 0, 1) := by decide +kernel
theorem dX4_renew_16 : decode cX4_renew 16 = .ok (.aload_n 0, 1) := by decide +kernel
theorem dX4_renew_17 : decode cX4_renew 17 = .ok (.getfield 19, 3) := by decide +kernel
theorem dX4_renew_20 : decode cX4_renew 20 = .ok (.invokevirtual 32, 3) := by decide +kernel
theorem dX4_renew_23 : decode cX4_renew 23 = .ok (.putfield 15, 3) := by decide +kernel
theorem dX4_renew_26 : decode cX4_renew 26 = .ok (.aload_n 0, 1) := by decide +kernel
theorem dX4_renew_27 : decode cX4_renew 27 = .ok (.getfield 9, 3) := by decide +kernel
theorem dX4_renew_30 : decode cX4_renew 30 = .ok (.iconst (-1), 1) := by decide +kernel
theorem dX4_renew_31 : decode cX4_renew 31 = .ok (.invokestatic 34, 3) := by decide +kernel
theorem dX4_renew_34 : decode cX4_renew 34 = .ok (.iconst 0, 1) := by decide +kernel
theorem dX4_renew_35 : decode cX4_renew 35 = .ok (.istore_n 1, 1) := by decide +kernel
theorem dX4_renew_36 : decode cX4_renew 36 = .ok (.iload_n 1, 1) := by decide +kernel
theorem dX4_renew_37 : decode cX4_renew 37 = .ok (.bipush 100, 2) := by decide +kernel
theorem dX4_renew_39 : decode cX4_renew 39 = .ok (.if_icmp .ge 25, 3) := by decide +kernel
theorem dX4_renew_42 : decode cX4_renew 42 = .ok (.aload_n 0, 1) := by decide +kernel
theorem dX4_renew_43 : decode cX4_renew 43 = .ok (.getfield 19, 3) := by decide +kernel
theorem dX4_renew_46 : decode cX4_renew 46 = .ok (.iload_n 1, 1) := by decide +kernel
theorem dX4_renew_47 : decode cX4_renew 47 = .ok (.invokevirtual 40, 3) := by decide +kernel
theorem dX4_renew_50 : decode cX4_renew 50 = .ok (.ifCond .eq 8, 3) := by decide +kernel
theorem dX4_renew_53 : decode cX4_renew 53 = .ok (.aload_n 0, 1) := by decide +kernel
theorem dX4_renew_54 : decode cX4_renew 54 = .ok (.iload_n 1, 1) := by decide +kernel
theorem dX4_renew_55 : decode cX4_renew 55 = .ok (.invokevirtual 44, 3) := by decide +kernel
theorem dX4_renew_58 : decode cX4_renew 58 = .ok (.iinc 1 1, 3) := by decide +kernel
theorem dX4_renew_61 : decode cX4_renew 61 = .ok (.goto (-25), 3) := by decide +kernel
theorem dX4_renew_64 : decode cX4_renew 64 = .ok (.return_, 1) := by decide +kernel
theorem dX4_note_0 : decode cX4_note 0 = .ok (.iconst 0, 1) := by decide +kernel
theorem dX4_note_1 : decode cX4_note 1 = .ok (.istore_n 2, 1) := by decide +kernel
theorem dX4_note_2 : decode cX4_note 2 = .ok (.iload_n 2, 1) := by decide +kernel
theorem dX4_note_3 : decode cX4_note 3 = .ok (.bipush 64, 2) := by decide +kernel
theorem dX4_note_5 : decode cX4_note 5 = .ok (.if_icmp .ge 47, 3) := by decide +kernel
theorem dX4_note_8 : decode cX4_note 8 = .ok (.aload_n 0, 1) := by decide +kernel
theorem dX4_note_9 : decode cX4_note 9 = .ok (.getfield 19, 3) := by decide +kernel
theorem dX4_note_12 : decode cX4_note 12 = .ok (.iconst (-1), 1) := by decide +kernel
theorem dX4_note_13 : decode cX4_note 13 = .ok (.iload_n 2, 1) := by decide +kernel
theorem dX4_note_14 : decode cX4_note 14 = .ok (.iload_n 1, 1) := by decide +kernel
theorem dX4_note_15 : decode cX4_note 15 = .ok (.invokevirtual 48, 3) := by decide +kernel
theorem dX4_note_18 : decode cX4_note 18 = .ok (.istore_n 3, 1) := by decide +kernel
theorem dX4_note_19 : decode cX4_note 19 = .ok (.iload_n 3, 1) := by decide +kernel
theorem dX4_note_20 : decode cX4_note 20 = .ok (.ifCond .lt 26, 3) := by decide +kernel
theorem dX4_note_23 : decode cX4_note 23 = .ok (.iload_n 3, 1) := by decide +kernel
theorem dX4_note_24 : decode cX4_note 24 = .ok (.bipush 20, 2) := by decide +kernel
theorem dX4_note_26 : decode cX4_note 26 = .ok (.if_icmp .ge 20, 3) := by decide +kernel
theorem dX4_note_29 : decode cX4_note 29 = .ok (.aload_n 0, 1) := by decide +kernel
theorem dX4_note_30 : decode cX4_note 30 = .ok (.getfield 9, 3) := by decide +kernel
theorem dX4_note_33 : decode cX4_note 33 = .ok (.iload_n 3, 1) := by decide +kernel
theorem dX4_note_34 : decode cX4_note 34 = .ok (.iaload, 1) := by decide +kernel
theorem dX4_note_35 : decode cX4_note 35 = .ok (.iconst (-1), 1) := by decide +kernel
theorem dX4_note_36 : decode cX4_note 36 = .ok (.if_icmp .ne 10, 3) := by decide +kernel
theorem dX4_note_39 : decode cX4_note 39 = .ok (.aload_n 0, 1) := by decide +kernel
theorem dX4_note_40 : decode cX4_note 40 = .ok (.getfield 9, 3) := by decide +kernel
theorem dX4_note_43 : decode cX4_note 43 = .ok (.iload_n 3, 1) := by decide +kernel
theorem dX4_note_44 : decode cX4_note 44 = .ok (.iload_n 1, 1) := by decide +kernel
theorem dX4_note_45 : decode cX4_note 45 = .ok (.iastore, 1) := by decide +kernel
theorem dX4_note_46 : decode cX4_note 46 = .ok (.iinc 2 1, 3) := by decide +kernel
theorem dX4_note_49 : decode cX4_note 49 = .ok (.goto (-47), 3) := by decide +kernel
theorem dX4_note_52 : decode cX4_note 52 = .ok (.return_, 1) := by decide +kernel
theorem dX5_init_0 : decode cX5_init 0 = .ok (.aload_n 0, 1) := by decide +kernel
theorem dX5_init_1 : decode cX5_init 1 = .ok (.invokespecial 3, 3) := by decide +kernel
theorem dX5_init_4 : decode cX5_init 4 = .ok (.aload_n 0, 1) := by decide +kernel
theorem dX5_init_5 : decode cX5_init 5 = .ok (.bipush 60, 2) := by decide +kernel
theorem dX5_init_7 : decode cX5_init 7 = .ok (.newarray .int, 2) := by decide +kernel
theorem dX5_init_9 : decode cX5_init 9 = .ok (.putfield 9, 3) := by decide +kernel
theorem dX5_init_12 : decode cX5_init 12 = .ok (.aload_n 0, 1) := by decide +kernel
theorem dX5_init_13 : decode cX5_init 13 = .ok (.new 15, 3) := by decide +kernel
theorem dX5_init_16 : decode cX5_init 16 = .ok (.dup, 1) := by decide +kernel
theorem dX5_init_17 : decode cX5_init 17 = .ok (.invokespecial 17, 3) := by decide +kernel
theorem dX5_init_20 : decode cX5_init 20 = .ok (.putfield 18, 3) := by decide +kernel
theorem dX5_init_23 : decode cX5_init 23 = .ok (.aload_n 0, 1) := by decide +kernel
theorem dX5_init_24 : decode cX5_init 24 = .ok (.iconst 0, 1) := by decide +kernel
theorem dX5_init_25 : decode cX5_init 25 = .ok (.putfield 22, 3) := by decide +kernel
theorem dX5_init_28 : decode cX5_init 28 = .ok (.return_, 1) := by decide +kernel
theorem dX6_init_0 : decode cX6_init 0 = .ok (.aload_n 0, 1) := by decide +kernel
theorem dX6_init_1 : decode cX6_init 1 = .ok (.invokespecial 3, 3) := by decide +kernel
theorem dX6_init_4 : decode cX6_init 4 = .ok (.aload_n 0, 1) := by decide +kernel
theorem dX6_init_5 : decode cX6_init 5 = .ok (.sipush 128, 3) := by decide +kernel
theorem dX6_init_8 : decode cX6_init 8 = .ok (.newarray .int, 2) := by decide +kernel
theorem dX6_init_10 : decode cX6_init 10 = .ok (.putfield 9, 3) := by decide +kernel
theorem dX6_init_13 : decode cX6_init 13 = .ok (.aload_n 0, 1) := by decide +kernel
theorem dX6_init_14 : decode cX6_init 14 = .ok (.sipush 128, 3) := by decide +kernel
theorem dX6_init_17 : decode cX6_init 17 = .ok (.newarray .int, 2) := by decide +kernel
theorem dX6_init_19 : decode cX6_init 19 = .ok (.putfield 15, 3) := by decide +kernel
theorem dX6_init_22 : decode cX6_init 22 = .ok (.aload_n 0, 1) := by decide +kernel
theorem dX6_init_23 : decode cX6_init 23 = .ok (.sipush 128, 3) := by decide +kernel
theorem dX6_init_26 : decode cX6_init 26 = .ok (.newarray .int, 2) := by decide +kernel
theorem dX6_init_28 : decode cX6_init 28 = .ok (.putfield 18, 3) := by decide +kernel
theorem dX6_init_31 : decode cX6_init 31 = .ok (.aload_n 0, 1) := by decide +kernel
theorem dX6_init_32 : decode cX6_init 32 = .ok (.sipush 128, 3) := by decide +kernel
theorem dX6_init_35 : decode cX6_init 35 = .ok (.newarray .int, 2) := by decide +kernel
theorem dX6_init_37 : decode cX6_init 37 = .ok (.putfield 21, 3) := by decide +kernel
theorem dX6_init_40 : decode cX6_init 40 = .ok (.aload_n 0, 1) := by decide +kernel
theorem dX6_init_41 : decode cX6_init 41 = .ok (.iconst (-1), 1) := by decide +kernel
theorem dX6_init_42 : decode cX6_init 42 = .ok (.putfield 24, 3) := by decide +kernel
theorem dX6_init_45 : decode cX6_init 45 = .ok (.aload_n 0, 1) := by decide +kernel
theorem dX6_init_46 : decode cX6_init 46 = .ok (.aload_n 1, 1) := by decide +kernel
theorem dX6_init_47 : decode cX6_init 47 = .ok (.putfield 28, 3) := by decide +kernel
theorem dX6_init_50 : decode cX6_init 50 = .ok (.aload_n 0, 1) := by decide +kernel
theorem dX6_init_51 : decode cX6_init 51 = .ok (.getfield 15, 3) := by decide +kernel
theorem dX6_init_54 : decode cX6_init 54 = .ok (.iconst 1, 1) := by decide +kernel
theorem dX6_init_55 : decode cX6_init 55 = .ok (.bipush 63, 2) := by decide +kernel
theorem dX6_init_57 : decode cX6_init 57 = .ok (.iastore, 1) := by decide +kernel
theorem dX6_init_58 : decode cX6_init 58 = .ok (.iconst 1, 1) := by decide +kernel
theorem dX6_init_59 : decode cX6_init 59 = .ok (.istore_n 2, 1) := by decide +kernel
theorem dX6_init_60 : decode cX6_init 60 = .ok (.iconst 2, 1) := by decide +kernel
theorem dX6_init_61 : decode cX6_init 61 = .ok (.iload_n 2, 1) := by decide +kernel
theorem dX6_init_62 : decode cX6_init 62 = .ok (.imul, 1) := by decide +kernel
theorem dX6_init_63 : decode cX6_init 63 = .ok (.bipush 127, 2) := by decide +kernel
theorem dX6_init_65 : decode cX6_init 65 = .ok (.if_icmp .ge 77, 3) := by decide +kernel
theorem dX6_init_68 : decode cX6_init 68 = .ok (.aload_n 0, 1) := by decide +kernel
theorem dX6_init_69 : decode cX6_init 69 = .ok (.getfield 9, 3) := by decide +kernel
theorem dX6_init_72 : decode cX6_init 72 = .ok (.iload_n 2, 1) := by decide +kernel
theorem dX6_init_73 : decode cX6_init 73 = .ok (.iaload, 1) := by decide +kernel
theorem dX6_init_74 : decode cX6_init 74 = .ok (.aload_n 0, 1) := by decide +kernel
theorem dX6_init_75 : decode cX6_init 75 = .ok (.getfield 15, 3) := by decide +kernel
theorem dX6_init_78 : decode cX6_init 78 = .ok (.iload_n 2, 1) := by decide +kernel
theorem dX6_init_79 : decode cX6_init 79 = .ok (.iaload, 1) := by decide +kernel
theorem dX6_init_80 : decode cX6_init 80 = .ok (.iadd, 1) := by decide +kernel
theorem dX6_init_81 : decode cX6_init 81 = .ok (.iconst 2, 1) := by decide +kernel
theorem dX6_init_82 : decode cX6_init 82 = .ok (.idiv, 1) := by decide +kernel
theorem dX6_init_83 : decode cX6_init 83 = .ok (.istore_n 3, 1) := by decide +kernel
theorem dX6_init_84 : decode cX6_init 84 = .ok (.aload_n 0, 1) := by decide +kernel
theorem dX6_init_85 : decode cX6_init 85 = .ok (.getfield 9, 3) := by decide +kernel
theorem dX6_init_88 : decode cX6_init 88 = .ok (.iconst 2, 1) := by decide +kernel
theorem dX6_init_89 : decode cX6_init 89 = .ok (.iload_n 2, 1) := by decide +kernel
theorem dX6_init_90 : decode cX6_init 90 = .ok (.imul, 1) := by decide +kernel
theorem dX6_init_91 : decode cX6_init 91 = .ok (.aload_n 0, 1) := by decide +kernel
theorem dX6_init_92 : decode cX6_init 92 = .ok (.getfield 9, 3) := by decide +kernel
theorem dX6_init_95 : decode cX6_init 95 = .ok (.iload_n 2, 1) := by decide +kernel
theorem dX6_init_96 : decode cX6_init 96 = .ok (.iaload, 1) := by decide +kernel
theorem dX6_init_97 : decode cX6_init 97 = .ok (.iastore, 1) := by decide +kernel
theorem dX6_init_98 : decode cX6_init 98 = .ok (.aload_n 0, 1) := by decide +kernel
theorem dX6_init_99 : decode cX6_init 99 = .ok (.getfield 15, 3) := by decide +kernel
theorem dX6_init_102 : decode cX6_init 102 = .ok (.iconst 2, 1) := by decide +kernel
theorem dX6_init_103 : decode cX6_init 103 = .ok (.iload_n 2, 1) := by decide +kernel
theorem dX6_init_104 : decode cX6_init 104 = .ok (.imul, 1) := by decide +kernel
theorem dX6_init_105 : decode cX6_init 105 = .ok (.iload_n 3, 1) := by decide +kernel
theorem dX6_init_106 : decode cX6_init 106 = .ok (.iastore, 1) := by decide +kernel
theorem dX6_init_107 : decode cX6_init 107 = .ok (.aload_n 0, 1) := by decide +kernel
theorem dX6_init_108 : decode cX6_init 108 = .ok (.getfield 9, 3) := by decide +kernel
theorem dX6_init_111 : decode cX6_init 111 = .ok (.iconst 2, 1) := by decide +kernel
theorem dX6_init_112 : decode cX6_init 112 = .ok (.iload_n 2, 1) := by decide +kernel
theorem dX6_init_113 : decode cX6_init 113 = .ok (.imul, 1) := by decide +kernel
theorem dX6_init_114 : decode cX6_init 114 = .ok (.iconst 1, 1) := by decide +kernel
theorem dX6_init_115 : decode cX6_init 115 = .ok (.iadd, 1) := by decide +kernel
theorem dX6_init_116 : decode cX6_init 116 = .ok (.iload_n 3, 1) := by decide +kernel
theorem dX6_init_117 : decode cX6_init 117 = .ok (.iconst 1, 1) := by decide +kernel
theorem dX6_init_118 : decode cX6_init 118 = .ok (.iadd, 1) := by decide +kernel
theorem dX6_init_119 : decode cX6_init 119 = .ok (.iastore, 1) := by decide +kernel
theorem dX6_init_120 : decode cX6_init 120 = .ok (.aload_n 0, 1) := by decide +kernel
theorem dX6_init_121 : decode cX6_init 121 = .ok (.getfield 15, 3) := by decide +kernel
theorem dX6_init_124 : decode cX6_init 124 = .ok (.iconst 2, 1) := by decide +kernel
theorem dX6_init_125 : decode cX6_init 125 = .ok (.iload_n 2, 1) := by decide +kernel
theorem dX6_init_126 : decode cX6_init 126 = .ok (.imul, 1) := by decide +kernel
theorem dX6_init_127 : decode cX6_init 127 = .ok (.iconst 1, 1) := by decide +kernel
theorem dX6_init_128 : decode cX6_init 128 = .ok (.iadd, 1) := by decide +kernel
theorem dX6_init_129 : decode cX6_init 129 = .ok (.aload_n 0, 1) := by decide +kernel
theorem dX6_init_130 : decode cX6_init 130 = .ok (.getfield 15, 3) := by decide +kernel
theorem dX6_init_133 : decode cX6_init 133 = .ok (.iload_n 2, 1) := by decide +kernel
theorem dX6_init_134 : decode cX6_init 134 = .ok (.iaload, 1) := by decide +kernel
theorem dX6_init_135 : decode cX6_init 135 = .ok (.iastore, 1) := by decide +kernel
theorem dX6_init_136 : decode cX6_init 136 = .ok (.iinc 2 1, 3) := by decide +kernel
theorem dX6_init_139 : decode cX6_init 139 = .ok (.goto (-79), 3) := by decide +kernel
theorem dX6_init_142 : decode cX6_init 142 = .ok (.return_, 1) := by decide +kernel
theorem dX6_firstPlace_0 : decode cX6_firstPlace 0 = .ok (.iload_n 1, 1) := by decide +kernel
theorem dX6_firstPlace_1 : decode cX6_firstPlace 1 = .ok (.invokestatic 32, 3) := by decide +kernel
theorem dX6_firstPlace_4 : decode cX6_firstPlace 4 = .ok (.ifCond .eq 12, 3) := by decide +kernel
theorem dX6_firstPlace_7 : decode cX6_firstPlace 7 = .ok (.aload_n 0, 1) := by decide +kernel
theorem dX6_firstPlace_8 : decode cX6_firstPlace 8 = .ok (.getfield 9, 3) := by decide +kernel
theorem dX6_firstPlace_11 : decode cX6_firstPlace 11 = .ok (.iload_n 1, 1) := by decide +kernel
theorem dX6_firstPlace_12 : decode cX6_firstPlace 12 = .ok (.iaload, 1) := by decide +kernel
theorem dX6_firstPlace_13 : decode cX6_firstPlace 13 = .ok (.goto 4, 3) := by decide +kernel
theorem dX6_firstPlace_16 : decode cX6_firstPlace 16 = .ok (.iconst (-1), 1) := by decide +kernel
theorem dX6_firstPlace_17 : decode cX6_firstPlace 17 = .ok (.ireturn, 1) := by decide +kernel
theorem dX6_lastPlace_0 : decode cX6_lastPlace 0 = .ok (.iload_n 1, 1) := by decide +kernel
theorem dX6_lastPlace_1 : decode cX6_lastPlace 1 = .ok (.invokestatic 32, 3) := by decide +kernel
theorem dX6_lastPlace_4 : decode cX6_lastPlace 4 = .ok (.ifCond .eq 12, 3) := by decide +kernel
theorem dX6_lastPlace_7 : decode cX6_lastPlace 7 = .ok (.aload_n 0, 1) := by decide +kernel
theorem dX6_lastPlace_8 : decode cX6_lastPlace 8 = .ok (.getfield 15, 3) := by decide +kernel
theorem dX6_lastPlace_11 : decode cX6_lastPlace 11 = .ok (.iload_n 1, 1) := by decide +kernel
theorem dX6_lastPlace_12 : decode cX6_lastPlace 12 = .ok (.iaload, 1) := by decide +kernel
theorem dX6_lastPlace_13 : decode cX6_lastPlace 13 = .ok (.goto 4, 3) := by decide +kernel
theorem dX6_lastPlace_16 : decode cX6_lastPlace 16 = .ok (.iconst (-1), 1) := by decide +kernel
theorem dX6_lastPlace_17 : decode cX6_lastPlace 17 = .ok (.ireturn, 1) := by decide +kernel
theorem dX6_middle_0 : decode cX6_middle 0 = .ok (.iload_n 1, 1) := by decide +kernel
theorem dX6_middle_1 : decode cX6_middle 1 = .ok (.invokestatic 32, 3) := by decide +kernel
theorem dX6_middle_4 : decode cX6_middle 4 = .ok (.ifCond .eq 21, 3) := by decide +kernel
theorem dX6_middle_7 : decode cX6_middle 7 = .ok (.aload_n 0, 1) := by decide +kernel
theorem dX6_middle_8 : decode cX6_middle 8 = .ok (.getfield 9, 3) := by decide +kernel
theorem dX6_middle_11 : decode cX6_middle 11 = .ok (.iload_n 1, 1) := by decide +kernel
theorem dX6_middle_12 : decode cX6_middle 12 = .ok (.iaload, 1) := by decide +kernel
theorem dX6_middle_13 : decode cX6_middle 13 = .ok (.aload_n 0, 1) := by decide +kernel
theorem dX6_middle_14 : decode cX6_middle 14 = .ok (.getfield 15, 3) := by decide +kernel
theorem dX6_middle_17 : decode cX6_middle 17 = .ok (.iload_n 1, 1) := by decide +kernel
theorem dX6_middle_18 : decode cX6_middle 18 = .ok (.iaload, 1) := by decide +kernel
theorem dX6_middle_19 : decode cX6_middle 19 = .ok (.iadd, 1) := by decide +kernel
theorem dX6_middle_20 : decode cX6_middle 20 = .ok (.iconst 2, 1) := by decide +kernel
theorem dX6_middle_21 : decode cX6_middle 21 = .ok (.idiv, 1) := by decide +kernel
theorem dX6_middle_22 : decode cX6_middle 22 = .ok (.goto 4, 3) := by decide +kernel
theorem dX6_middle_25 : decode cX6_middle 25 = .ok (.iconst (-1), 1) := by decide +kernel
theorem dX6_middle_26 : decode cX6_middle 26 = .ok (.ireturn, 1) := by decide +kernel
theorem dX6_lineOf_0 : decode cX6_lineOf 0 = .ok (.aload_n 0, 1) := by decide +kernel
theorem dX6_lineOf_1 : decode cX6_lineOf 1 = .ok (.invokevirtual 36, 3) := by decide +kernel
theorem dX6_lineOf_4 : decode cX6_lineOf 4 = .ok (.iload_n 1, 1) := by decide +kernel
theorem dX6_lineOf_5 : decode cX6_lineOf 5 = .ok (.invokestatic 32, 3) := by decide +kernel
theorem dX6_lineOf_8 : decode cX6_lineOf 8 = .ok (.ifCond .eq 12, 3) := by decide +kernel
theorem dX6_lineOf_11 : decode cX6_lineOf 11 = .ok (.aload_n 0, 1) := by decide +kernel
theorem dX6_lineOf_12 : decode cX6_lineOf 12 = .ok (.getfield 18, 3) := by decide +kernel
theorem dX6_lineOf_15 : decode cX6_lineOf 15 = .ok (.iload_n 1, 1) := by decide +kernel
theorem dX6_lineOf_16 : decode cX6_lineOf 16 = .ok (.iaload, 1) := by decide +kernel
theorem dX6_lineOf_17 : decode cX6_lineOf 17 = .ok (.goto 4, 3) := by decide +kernel
theorem dX6_lineOf_20 : decode cX6_lineOf 20 = .ok (.iconst (-1), 1) := by decide +kernel
theorem dX6_lineOf_21 : decode cX6_lineOf 21 = .ok (.ireturn, 1) := by decide +kernel
theorem dX6_stepsAt_0 : decode cX6_stepsAt 0 = .ok (.aload_n 0, 1) := by decide +kernel
theorem dX6_stepsAt_1 : decode cX6_stepsAt 1 = .ok (.invokevirtual 36, 3) := by decide +kernel
theorem dX6_stepsAt_4 : decode cX6_stepsAt 4 = .ok (.iload_n 1, 1) := by decide +kernel
theorem dX6_stepsAt_5 : decode cX6_stepsAt 5 = .ok (.invokestatic 32, 3) := by decide +kernel
theorem dX6_stepsAt_8 : decode cX6_stepsAt 8 = .ok (.ifCond .eq 12, 3) := by decide +kernel
theorem dX6_stepsAt_11 : decode cX6_stepsAt 11 = .ok (.aload_n 0, 1) := by decide +kernel
theorem dX6_stepsAt_12 : decode cX6_stepsAt 12 = .ok (.getfield 21, 3) := by decide +kernel
theorem dX6_stepsAt_15 : decode cX6_stepsAt 15 = .ok (.iload_n 1, 1) := by decide +kernel
theorem dX6_stepsAt_16 : decode cX6_stepsAt 16 = .ok (.iaload, 1) := by decide +kernel
theorem dX6_stepsAt_17 : decode cX6_stepsAt 17 = .ok (.goto 4, 3) := by decide +kernel
theorem dX6_stepsAt_20 : decode cX6_stepsAt 20 = .ok (.iconst (-1), 1) := by decide +kernel
theorem dX6_stepsAt_21 : decode cX6_stepsAt 21 = .ok (.ireturn, 1) := by decide +kernel
theorem dX6_nodesOf_0 : decode cX6_nodesOf 0 = .ok (.aload_n 0, 1) := by decide +kernel
theorem dX6_nodesOf_1 : decode cX6_nodesOf 1 = .ok (.invokevirtual 36, 3) := by decide +kernel
theorem dX6_nodesOf_4 : decode cX6_nodesOf 4 = .ok (.iconst 0, 1) := by decide +kernel
theorem dX6_nodesOf_5 : decode cX6_nodesOf 5 = .ok (.istore_n 2, 1) := by decide +kernel
theorem dX6_nodesOf_6 : decode cX6_nodesOf 6 = .ok (.iconst 1, 1) := by decide +kernel
theorem dX6_nodesOf_7 : decode cX6_nodesOf 7 = .ok (.istore_n 3, 1) := by decide +kernel
theorem dX6_nodesOf_8 : decode cX6_nodesOf 8 = .ok (.iload_n 3, 1) := by decide +kernel
theorem dX6_nodesOf_9 : decode cX6_nodesOf 9 = .ok (.bipush 127, 2) := by decide +kernel
theorem dX6_nodesOf_11 : decode cX6_nodesOf 11 = .ok (.if_icmp .gt 22, 3) := by decide +kernel
theorem dX6_nodesOf_14 : decode cX6_nodesOf 14 = .ok (.aload_n 0, 1) := by decide +kernel
theorem dX6_nodesOf_15 : decode cX6_nodesOf 15 = .ok (.getfield 18, 3) := by decide +kernel
theorem dX6_nodesOf_18 : decode cX6_nodesOf 18 = .ok (.iload_n 3, 1) := by decide +kernel
theorem dX6_nodesOf_19 : decode cX6_nodesOf 19 = .ok (.iaload, 1) := by decide +kernel
theorem dX6_nodesOf_20 : decode cX6_nodesOf 20 = .ok (.iload_n 1, 1) := by decide +kernel
theorem dX6_nodesOf_21 : decode cX6_nodesOf 21 = .ok (.if_icmp .ne 6, 3) := by decide +kernel
theorem dX6_nodesOf_24 : decode cX6_nodesOf 24 = .ok (.iinc 2 1, 3) := by decide +kernel
theorem dX6_nodesOf_27 : decode cX6_nodesOf 27 = .ok (.iinc 3 1, 3) := by decide +kernel
theorem dX6_nodesOf_30 : decode cX6_nodesOf 30 = .ok (.goto (-22), 3) := by decide +kernel
theorem dX6_nodesOf_33 : decode cX6_nodesOf 33 = .ok (.iload_n 2, 1) := by decide +kernel
theorem dX6_nodesOf_34 : decode cX6_nodesOf 34 = .ok (.ireturn, 1) := by decide +kernel
theorem dX6_allSteps_0 : decode cX6_allSteps 0 = .ok (.aload_n 0, 1) := by decide +kernel
theorem dX6_allSteps_1 : decode cX6_allSteps 1 = .ok (.invokevirtual 36, 3) := by decide +kernel
theorem dX6_allSteps_4 : decode cX6_allSteps 4 = .ok (.iconst 0, 1) := by decide +kernel
theorem dX6_allSteps_5 : decode cX6_allSteps 5 = .ok (.istore_n 1, 1) := by decide +kernel
theorem dX6_allSteps_6 : decode cX6_allSteps 6 = .ok (.iconst 1, 1) := by decide +kernel
theorem dX6_allSteps_7 : decode cX6_allSteps 7 = .ok (.istore_n 2, 1) := by decide +kernel
theorem dX6_allSteps_8 : decode cX6_allSteps 8 = .ok (.iload_n 2, 1) := by decide +kernel
theorem dX6_allSteps_9 : decode cX6_allSteps 9 = .ok (.bipush 127, 2) := by decide +kernel
theorem dX6_allSteps_11 : decode cX6_allSteps 11 = .ok (.if_icmp .gt 18, 3) := by decide +kernel
theorem dX6_allSteps_14 : decode cX6_allSteps 14 = .ok (.iload_n 1, 1) := by decide +kernel
theorem dX6_allSteps_15 : decode cX6_allSteps 15 = .ok (.aload_n 0, 1) := by decide +kernel
theorem dX6_allSteps_16 : decode cX6_allSteps 16 = .ok (.getfield 21, 3) := by decide +kernel
theorem dX6_allSteps_19 : decode cX6_allSteps 19 = .ok (.iload_n 2, 1) := by decide +kernel
theorem dX6_allSteps_20 : decode cX6_allSteps 20 = .ok (.iaload, 1) := by decide +kernel
theorem dX6_allSteps_21 : decode cX6_allSteps 21 = .ok (.iadd, 1) := by decide +kernel
theorem dX6_allSteps_22 : decode cX6_allSteps 22 = .ok (.istore_n 1, 1) := by decide +kernel
theorem dX6_allSteps_23 : decode cX6_allSteps 23 = .ok (.iinc 2 1, 3) := by decide +kernel
theorem dX6_allSteps_26 : decode cX6_allSteps 26 = .ok (.goto (-18), 3) := by decide +kernel
theorem dX6_allSteps_29 : decode cX6_allSteps 29 = .ok (.iload_n 1, 1) := by decide +kernel
theorem dX6_allSteps_30 : decode cX6_allSteps 30 = .ok (.ireturn, 1) := by decide +kernel
theorem dX6_has_0 : decode cX6_has 0 = .ok (.iload_n 0, 1) := by decide +kernel
theorem dX6_has_1 : decode cX6_has 1 = .ok (.iconst 1, 1) := by decide +kernel
theorem dX6_has_2 : decode cX6_has 2 = .ok (.if_icmp .lt 13, 3) := by decide +kernel
theorem dX6_has_5 : decode cX6_has 5 = .ok (.iload_n 0, 1) := by decide +kernel
theorem dX6_has_6 : decode cX6_has 6 = .ok (.bipush 127, 2) := by decide +kernel
theorem dX6_has_8 : decode cX6_has 8 = .ok (.if_icmp .gt 7, 3) := by decide +kernel
theorem dX6_has_11 : decode cX6_has 11 = .ok (.iconst 1, 1) := by decide +kernel
theorem dX6_has_12 : decode cX6_has 12 = .ok (.goto 4, 3) := by decide +kernel
theorem dX6_has_15 : decode cX6_has 15 = .ok (.iconst 0, 1) := by decide +kernel
theorem dX6_has_16 : decode cX6_has 16 = .ok (.ireturn, 1) := by decide +kernel
theorem dX6_renew_0 : decode cX6_renew 0 = .ok (.aload_n 0, 1) := by decide +kernel
theorem dX6_renew_1 : decode cX6_renew 1 = .ok (.getfield 24, 3) := by decide +kernel
theorem dX6_renew_4 : decode cX6_renew 4 = .ok (.aload_n 0, 1) := by decide +kernel
theorem dX6_renew_5 : decode cX6_renew 5 = .ok (.getfield 28, 3) := by decide +kernel
theorem dX6_renew_8 : decode cX6_renew 8 = .ok (.invokevirtual 39, 3) := by decide +kernel
theorem dX6_renew_11 : decode cX6_renew 11 = .ok (.if_icmp .ne 4, 3) := by decide +kernel
theorem dX6_renew_14 : decode cX6_renew 14 = .ok (.return_, 1) := by decide +kernel
theorem dX6_renew_15 : decode cX6_renew 15 = .ok (.aload_n 0, 1) := by decide +kernel
theorem dX6_renew_16 : decode cX6_renew 16 = .ok (.aload_n 0, 1) := by decide +kernel
theorem dX6_renew_17 : decode cX6_renew 17 = .ok (.getfield 28, 3) := by decide +kernel
theorem dX6_renew_20 : decode cX6_renew 20 = .ok (.invokevirtual 39, 3) := by decide +kernel
theorem dX6_renew_23 : decode cX6_renew 23 = .ok (.putfield 24, 3) := by decide +kernel
theorem dX6_renew_26 : decode cX6_renew 26 = .ok (.aload_n 0, 1) := by decide +kernel
theorem dX6_renew_27 : decode cX6_renew 27 = .ok (.getfield 18, 3) := by decide +kernel
theorem dX6_renew_30 : decode cX6_renew 30 = .ok (.iconst (-1), 1) := by decide +kernel
theorem dX6_renew_31 : decode cX6_renew 31 = .ok (.invokestatic 44, 3) := by decide +kernel
theorem dX6_renew_34 : decode cX6_renew 34 = .ok (.aload_n 0, 1) := by decide +kernel
theorem dX6_renew_35 : decode cX6_renew 35 = .ok (.getfield 21, 3) := by decide +kernel
theorem dX6_renew_38 : decode cX6_renew 38 = .ok (.iconst 0, 1) := by decide +kernel
theorem dX6_renew_39 : decode cX6_renew 39 = .ok (.invokestatic 44, 3) := by decide +kernel
theorem dX6_renew_42 : decode cX6_renew 42 = .ok (.iconst 0, 1) := by decide +kernel
theorem dX6_renew_43 : decode cX6_renew 43 = .ok (.istore_n 1, 1) := by decide +kernel
theorem dX6_renew_44 : decode cX6_renew 44 = .ok (.iload_n 1, 1) := by decide +kernel
theorem dX6_renew_45 : decode cX6_renew 45 = .ok (.aload_n 0, 1) := by decide +kernel
theorem dX6_renew_46 : decode cX6_renew 46 = .ok (.getfield 28, 3) := by decide +kernel
theorem dX6_renew_49 : decode cX6_renew 49 = .ok (.invokevirtual 50, 3) := by decide +kernel
theorem dX6_renew_52 : decode cX6_renew 52 = .ok (.if_icmp .ge 33, 3) := by decide +kernel
theorem dX6_renew_55 : decode cX6_renew 55 = .ok (.aload_n 0, 1) := by decide +kernel
theorem dX6_renew_56 : decode cX6_renew 56 = .ok (.getfield 28, 3) := by decide +kernel
theorem dX6_renew_59 : decode cX6_renew 59 = .ok (.iload_n 1, 1) := by decide +kernel
theorem dX6_renew_60 : decode cX6_renew 60 = .ok (.aload_n 0, 1) := by decide +kernel
theorem dX6_renew_61 : decode cX6_renew 61 = .ok (.getfield 28, 3) := by decide +kernel
theorem dX6_renew_64 : decode cX6_renew 64 = .ok (.invokevirtual 53, 3) := by decide +kernel
theorem dX6_renew_67 : decode cX6_renew 67 = .ok (.invokevirtual 56, 3) := by decide +kernel
theorem dX6_renew_70 : decode cX6_renew 70 = .ok (.ifCond .eq 9, 3) := by decide +kernel
theorem dX6_renew_73 : decode cX6_renew 73 = .ok (.aload_n 0, 1) := by decide +kernel
theorem dX6_renew_74 : decode cX6_renew 74 = .ok (.iload_n 1, 1) := by decide +kernel
theorem dX6_renew_75 : decode cX6_renew 75 = .ok (.iconst 1, 1) := by decide +kernel
theorem dX6_renew_76 : decode cX6_renew 76 = .ok (.invokevirtual 60, 3) := by decide +kernel
theorem dX6_renew_79 : decode cX6_renew 79 = .ok (.iinc 1 1, 3) := by decide +kernel
theorem dX6_renew_82 : decode cX6_renew 82 = .ok (.goto (-38), 3) := by decide +kernel
theorem dX6_renew_85 : decode cX6_renew 85 = .ok (.return_, 1) := by decide +kernel
theorem dX6_put_0 : decode cX6_put 0 = .ok (.iload_n 2, 1) := by decide +kernel
theorem dX6_put_1 : decode cX6_put 1 = .ok (.iconst 1, 1) := by decide +kernel
theorem dX6_put_2 : decode cX6_put 2 = .ok (.if_icmp .lt 9, 3) := by decide +kernel
theorem dX6_put_5 : decode cX6_put 5 = .ok (.iload_n 2, 1) := by decide +kernel
theorem dX6_put_6 : decode cX6_put 6 = .ok (.bipush 127, 2) := by decide +kernel
theorem dX6_put_8 : decode cX6_put 8 = .ok (.if_icmp .le 4, 3) := by decide +kernel
theorem dX6_put_11 : decode cX6_put 11 = .ok (.return_, 1) := by decide +kernel
theorem dX6_put_12 : decode cX6_put 12 = .ok (.aload_n 0, 1) := by decide +kernel
theorem dX6_put_13 : decode cX6_put 13 = .ok (.getfield 9, 3) := by decide +kernel
theorem dX6_put_16 : decode cX6_put 16 = .ok (.iload_n 2, 1) := by decide +kernel
theorem dX6_put_17 : decode cX6_put 17 = .ok (.iaload, 1) := by decide +kernel
theorem dX6_put_18 : decode cX6_put 18 = .ok (.istore_n 3, 1) := by decide +kernel
theorem dX6_put_19 : decode cX6_put 19 = .ok (.aload_n 0, 1) := by decide +kernel
theorem dX6_put_20 : decode cX6_put 20 = .ok (.getfield 15, 3) := by decide +kernel
theorem dX6_put_23 : decode cX6_put 23 = .ok (.iload_n 2, 1) := by decide +kernel
theorem dX6_put_24 : decode cX6_put 24 = .ok (.iaload, 1) := by decide +kernel
theorem dX6_put_25 : decode cX6_put 25 = .ok (.istore 4, 2) := by decide +kernel
theorem dX6_put_27 : decode cX6_put 27 = .ok (.aload_n 0, 1) := by decide +kernel
theorem dX6_put_28 : decode cX6_put 28 = .ok (.getfield 28, 3) := by decide +kernel
theorem dX6_put_31 : decode cX6_put 31 = .ok (.iload_n 1, 1) := by decide +kernel
theorem dX6_put_32 : decode cX6_put 32 = .ok (.iconst 2, 1) := by decide +kernel
theorem dX6_put_33 : decode cX6_put 33 = .ok (.invokevirtual 64, 3) := by decide +kernel
theorem dX6_put_36 : decode cX6_put 36 = .ok (.istore 5, 2) := by decide +kernel
theorem dX6_put_38 : decode cX6_put 38 = .ok (.aload_n 0, 1) := by decide +kernel
theorem dX6_put_39 : decode cX6_put 39 = .ok (.getfield 28, 3) := by decide +kernel
theorem dX6_put_42 : decode cX6_put 42 = .ok (.iload_n 1, 1) := by decide +kernel
theorem dX6_put_43 : decode cX6_put 43 = .ok (.iconst 3, 1) := by decide +kernel
theorem dX6_put_44 : decode cX6_put 44 = .ok (.invokevirtual 64, 3) := by decide +kernel
theorem dX6_put_47 : decode cX6_put 47 = .ok (.istore 6, 2) := by decide +kernel
theorem dX6_put_49 : decode cX6_put 49 = .ok (.iload 6, 2) := by decide +kernel
theorem dX6_put_51 : decode cX6_put 51 = .ok (.iload_n 3, 1) := by decide +kernel
theorem dX6_put_52 : decode cX6_put 52 = .ok (.if_icmp .lt 10, 3) := by decide +kernel
theorem dX6_put_55 : decode cX6_put 55 = .ok (.iload 5, 2) := by decide +kernel
theorem dX6_put_57 : decode cX6_put 57 = .ok (.iload 4, 2) := by decide +kernel
theorem dX6_put_59 : decode cX6_put 59 = .ok (.if_icmp .le 4, 3) := by decide +kernel
theorem dX6_put_62 : decode cX6_put 62 = .ok (.return_, 1) := by decide +kernel
theorem dX6_put_63 : decode cX6_put 63 = .ok (.iload 5, 2) := by decide +kernel
theorem dX6_put_65 : decode cX6_put 65 = .ok (.iload_n 3, 1) := by decide +kernel
theorem dX6_put_66 : decode cX6_put 66 = .ok (.if_icmp .gt 10, 3) := by decide +kernel
theorem dX6_put_69 : decode cX6_put 69 = .ok (.iload 6, 2) := by decide +kernel
theorem dX6_put_71 : decode cX6_put 71 = .ok (.iload 4, 2) := by decide +kernel
theorem dX6_put_73 : decode cX6_put 73 = .ok (.if_icmp .ge 22, 3) := by decide +kernel
theorem dX6_put_76 : decode cX6_put 76 = .ok (.aload_n 0, 1) := by decide +kernel
theorem dX6_put_77 : decode cX6_put 77 = .ok (.iload_n 1, 1) := by decide +kernel
theorem dX6_put_78 : decode cX6_put 78 = .ok (.iconst 2, 1) := by decide +kernel
theorem dX6_put_79 : decode cX6_put 79 = .ok (.iload_n 2, 1) := by decide +kernel
theorem dX6_put_80 : decode cX6_put 80 = .ok (.imul, 1) := by decide +kernel
theorem dX6_put_81 : decode cX6_put 81 = .ok (.invokevirtual 60, 3) := by decide +kernel
theorem dX6_put_84 : decode cX6_put 84 = .ok (.aload_n 0, 1) := by decide +kernel
theorem dX6_put_85 : decode cX6_put 85 = .ok (.iload_n 1, 1) := by decide +kernel
theorem dX6_put_86 : decode cX6_put 86 = .ok (.iconst 2, 1) := by decide +kernel
theorem dX6_put_87 : decode cX6_put 87 = .ok (.iload_n 2, 1) := by decide +kernel
theorem dX6_put_88 : decode cX6_put 88 = .ok (.imul, 1) := by decide +kernel
theorem dX6_put_89 : decode cX6_put 89 = .ok (.iconst 1, 1) := by decide +kernel
theorem dX6_put_90 : decode cX6_put 90 = .ok (.iadd, 1) := by decide +kernel
theorem dX6_put_91 : decode cX6_put 91 = .ok (.invokevirtual 60, 3) := by decide +kernel
theorem dX6_put_94 : decode cX6_put 94 = .ok (.return_, 1) := by decide +kernel
theorem dX6_put_95 : decode cX6_put 95 = .ok (.aload_n 0, 1) := by decide +kernel
theorem dX6_put_96 : decode cX6_put 96 = .ok (.getfield 21, 3) := by decide +kernel
theorem dX6_put_99 : decode cX6_put 99 = .ok (.iload_n 2, 1) := by decide +kernel
theorem dX6_put_100 : decode cX6_put 100 = .ok (.dup2, 1) := by decide +kernel
theorem dX6_put_101 : decode cX6_put 101 = .ok (.iaload, 1) := by decide +kernel
theorem dX6_put_102 : decode cX6_put 102 = .ok (.iconst 1, 1) := by decide +kernel
theorem dX6_put_103 : decode cX6_put 103 = .ok (.iadd, 1) := by decide +kernel
theorem dX6_put_104 : decode cX6_put 104 = .ok (.iastore, 1) := by decide +kernel
theorem dX6_put_105 : decode cX6_put 105 = .ok (.aload_n 0, 1) := by decide +kernel
theorem dX6_put_106 : decode cX6_put 106 = .ok (.getfield 18, 3) := by decide +kernel
theorem dX6_put_109 : decode cX6_put 109 = .ok (.iload_n 2, 1) := by decide +kernel
theorem dX6_put_110 : decode cX6_put 110 = .ok (.iaload, 1) := by decide +kernel
theorem dX6_put_111 : decode cX6_put 111 = .ok (.iconst (-1), 1) := by decide +kernel
theorem dX6_put_112 : decode cX6_put 112 = .ok (.if_icmp .ne 11, 3) := by decide +kernel
theorem dX6_put_115 : decode cX6_put 115 = .ok (.aload_n 0, 1) := by decide +kernel
theorem dX6_put_116 : decode cX6_put 116 = .ok (.getfield 18, 3) := by decide +kernel
theorem dX6_put_119 : decode cX6_put 119 = .ok (.iload_n 2, 1) := by decide +kernel
theorem dX6_put_120 : decode cX6_put 120 = .ok (.iload_n 1, 1) := by decide +kernel
theorem dX6_put_121 : decode cX6_put 121 = .ok (.iastore, 1) := by decide +kernel
theorem dX6_put_122 : decode cX6_put 122 = .ok (.return_, 1) := by decide +kernel
theorem dX6_put_123 : decode cX6_put 123 = .ok (.iload_n 1, 1) := by decide +kernel
theorem dX6_put_124 : decode cX6_put 124 = .ok (.istore 7, 2) := by decide +kernel
theorem dX6_put_126 : decode cX6_put 126 = .ok (.aload_n 0, 1) := by decide +kernel
theorem dX6_put_127 : decode cX6_put 127 = .ok (.getfield 28, 3) := by decide +kernel
theorem dX6_put_130 : decode cX6_put 130 = .ok (.iload_n 1, 1) := by decide +kernel
theorem dX6_put_131 : decode cX6_put 131 = .ok (.aload_n 0, 1) := by decide +kernel
theorem dX6_put_132 : decode cX6_put 132 = .ok (.getfield 18, 3) := by decide +kernel
theorem dX6_put_135 : decode cX6_put 135 = .ok (.iload_n 2, 1) := by decide +kernel
theorem dX6_put_136 : decode cX6_put 136 = .ok (.iaload, 1) := by decide +kernel
theorem dX6_put_137 : decode cX6_put 137 = .ok (.iload_n 3, 1) := by decide +kernel
theorem dX6_put_138 : decode cX6_put 138 = .ok (.iload 4, 2) := by decide +kernel
theorem dX6_put_140 : decode cX6_put 140 = .ok (.iadd, 1) := by decide +kernel
theorem dX6_put_141 : decode cX6_put 141 = .ok (.iconst 2, 1) := by decide +kernel
theorem dX6_put_142 : decode cX6_put 142 = .ok (.idiv, 1) := by decide +kernel
theorem dX6_put_143 : decode cX6_put 143 = .ok (.invokevirtual 68, 3) := by decide +kernel
theorem dX6_put_146 : decode cX6_put 146 = .ok (.ifCond .eq 18, 3) := by decide +kernel
theorem dX6_put_149 : decode cX6_put 149 = .ok (.aload_n 0, 1) := by decide +kernel
theorem dX6_put_150 : decode cX6_put 150 = .ok (.getfield 18, 3) := by decide +kernel
theorem dX6_put_153 : decode cX6_put 153 = .ok (.iload_n 2, 1) := by decide +kernel
theorem dX6_put_154 : decode cX6_put 154 = .ok (.iaload, 1) := by decide +kernel
theorem dX6_put_155 : decode cX6_put 155 = .ok (.istore 7, 2) := by decide +kernel
theorem dX6_put_157 : decode cX6_put 157 = .ok (.aload_n 0, 1) := by decide +kernel
theorem dX6_put_158 : decode cX6_put 158 = .ok (.getfield 18, 3) := by decide +kernel
theorem dX6_put_161 : decode cX6_put 161 = .ok (.iload_n 2, 1) := by decide +kernel
theorem dX6_put_162 : decode cX6_put 162 = .ok (.iload_n 1, 1) := by decide +kernel
theorem dX6_put_163 : decode cX6_put 163 = .ok (.iastore, 1) := by decide +kernel
theorem dX6_put_164 : decode cX6_put 164 = .ok (.iload_n 3, 1) := by decide +kernel
theorem dX6_put_165 : decode cX6_put 165 = .ok (.iload 4, 2) := by decide +kernel
theorem dX6_put_167 : decode cX6_put 167 = .ok (.if_icmp .ne 4, 3) := by decide +kernel
theorem dX6_put_170 : decode cX6_put 170 = .ok (.return_, 1) := by decide +kernel
theorem dX6_put_171 : decode cX6_put 171 = .ok (.aload_n 0, 1) := by decide +kernel
theorem dX6_put_172 : decode cX6_put 172 = .ok (.getfield 28, 3) := by decide +kernel
theorem dX6_put_175 : decode cX6_put 175 = .ok (.iload 7, 2) := by decide +kernel
theorem dX6_put_177 : decode cX6_put 177 = .ok (.aload_n 0, 1) := by decide +kernel
theorem dX6_put_178 : decode cX6_put 178 = .ok (.getfield 18, 3) := by decide +kernel
theorem dX6_put_181 : decode cX6_put 181 = .ok (.iload_n 2, 1) := by decide +kernel
theorem dX6_put_182 : decode cX6_put 182 = .ok (.iaload, 1) := by decide +kernel
theorem dX6_put_183 : decode cX6_put 183 = .ok (.iload_n 3, 1) := by decide +kernel
theorem dX6_put_184 : decode cX6_put 184 = .ok (.invokevirtual 68, 3) := by decide +kernel
theorem dX6_put_187 : decode cX6_put 187 = .ok (.ifCond .eq 15, 3) := by decide +kernel
theorem dX6_put_190 : decode cX6_put 190 = .ok (.aload_n 0, 1) := by decide +kernel
theorem dX6_put_191 : decode cX6_put 191 = .ok (.iload 7, 2) := by decide +kernel
theorem dX6_put_193 : decode cX6_put 193 = .ok (.iconst 2, 1) := by decide +kernel
theorem dX6_put_194 : decode cX6_put 194 = .ok (.iload_n 2, 1) := by decide +kernel
theorem dX6_put_195 : decode cX6_put 195 = .ok (.imul, 1) := by decide +kernel
theorem dX6_put_196 : decode cX6_put 196 = .ok (.invokevirtual 60, 3) := by decide +kernel
theorem dX6_put_199 : decode cX6_put 199 = .ok (.goto 34, 3) := by decide +kernel
theorem dX6_put_202 : decode cX6_put 202 = .ok (.aload_n 0, 1) := by decide +kernel
theorem dX6_put_203 : decode cX6_put 203 = .ok (.getfield 28, 3) := by decide +kernel
theorem dX6_put_206 : decode cX6_put 206 = .ok (.iload 7, 2) := by decide +kernel
theorem dX6_put_208 : decode cX6_put 208 = .ok (.aload_n 0, 1) := by decide +kernel
theorem dX6_put_209 : decode cX6_put 209 = .ok (.getfield 18, 3) := by decide +kernel
theorem dX6_put_212 : decode cX6_put 212 = .ok (.iload_n 2, 1) := by decide +kernel
theorem dX6_put_213 : decode cX6_put 213 = .ok (.iaload, 1) := by decide +kernel
theorem dX6_put_214 : decode cX6_put 214 = .ok (.iload 4, 2) := by decide +kernel
theorem dX6_put_216 : decode cX6_put 216 = .ok (.invokevirtual 68, 3) := by decide +kernel
theorem dX6_put_219 : decode cX6_put 219 = .ok (.ifCond .eq 14, 3) := by decide +kernel
theorem dX6_put_222 : decode cX6_put 222 = .ok (.aload_n 0, 1) := by decide +kernel
theorem dX6_put_223 : decode cX6_put 223 = .ok (.iload 7, 2) := by decide +kernel
theorem dX6_put_225 : decode cX6_put 225 = .ok (.iconst 2, 1) := by decide +kernel
theorem dX6_put_226 : decode cX6_put 226 = .ok (.iload_n 2, 1) := by decide +kernel
theorem dX6_put_227 : decode cX6_put 227 = .ok (.imul, 1) := by decide +kernel
theorem dX6_put_228 : decode cX6_put 228 = .ok (.iconst 1, 1) := by decide +kernel
theorem dX6_put_229 : decode cX6_put 229 = .ok (.iadd, 1) := by decide +kernel
theorem dX6_put_230 : decode cX6_put 230 = .ok (.invokevirtual 60, 3) := by decide +kernel
theorem dX6_put_233 : decode cX6_put 233 = .ok (.return_, 1) := by decide +kernel
theorem dX7_init_0 : decode cX7_init 0 = .ok (.aload_n 0, 1) := by decide +kernel
theorem dX7_init_1 : decode cX7_init 1 = .ok (.invokespecial 1, 3) := by decide +kernel
theorem dX7_init_4 : decode cX7_init 4 = .ok (.aload_n 0, 1) := by decide +kernel
theorem dX7_init_5 : decode cX7_init 5 = .ok (.new 7, 3) := by decide +kernel
theorem dX7_init_8 : decode cX7_init 8 = .ok (.dup, 1) := by decide +kernel
theorem dX7_init_9 : decode cX7_init 9 = .ok (.invokespecial 9, 3) := by decide +kernel
theorem dX7_init_12 : decode cX7_init 12 = .ok (.putfield 10, 3) := by decide +kernel
theorem dX7_init_15 : decode cX7_init 15 = .ok (.aload_n 0, 1) := by decide +kernel
theorem dX7_init_16 : decode cX7_init 16 = .ok (.new 16, 3) := by decide +kernel
theorem dX7_init_19 : decode cX7_init 19 = .ok (.dup, 1) := by decide +kernel
theorem dX7_init_20 : decode cX7_init 20 = .ok (.invokespecial 18, 3) := by decide +kernel
theorem dX7_init_23 : decode cX7_init 23 = .ok (.putfield 19, 3) := by decide +kernel
theorem dX7_init_26 : decode cX7_init 26 = .ok (.aload_n 0, 1) := by decide +kernel
theorem dX7_init_27 : decode cX7_init 27 = .ok (.new 23, 3) := by decide +kernel
theorem dX7_init_30 : decode cX7_init 30 = .ok (.dup, 1) := by decide +kernel
theorem dX7_init_31 : decode cX7_init 31 = .ok (.invokespecial 25, 3) := by decide +kernel
theorem dX7_init_34 : decode cX7_init 34 = .ok (.putfield 26, 3) := by decide +kernel
theorem dX7_init_37 : decode cX7_init 37 = .ok (.aload_n 0, 1) := by decide +kernel
theorem dX7_init_38 : decode cX7_init 38 = .ok (.new 30, 3) := by decide +kernel
theorem dX7_init_41 : decode cX7_init 41 = .ok (.dup, 1) := by decide +kernel
theorem dX7_init_42 : decode cX7_init 42 = .ok (.aload_n 0, 1) := by decide +kernel
theorem dX7_init_43 : decode cX7_init 43 = .ok (.getfield 10, 3) := by decide +kernel
theorem dX7_init_46 : decode cX7_init 46 = .ok (.invokespecial 32, 3) := by decide +kernel
theorem dX7_init_49 : decode cX7_init 49 = .ok (.putfield 35, 3) := by decide +kernel
theorem dX7_init_52 : decode cX7_init 52 = .ok (.aload_n 0, 1) := by decide +kernel
theorem dX7_init_53 : decode cX7_init 53 = .ok (.new 39, 3) := by decide +kernel
theorem dX7_init_56 : decode cX7_init 56 = .ok (.dup, 1) := by decide +kernel
theorem dX7_init_57 : decode cX7_init 57 = .ok (.aload_n 0, 1) := by decide +kernel
theorem dX7_init_58 : decode cX7_init 58 = .ok (.getfield 10, 3) := by decide +kernel
theorem dX7_init_61 : decode cX7_init 61 = .ok (.invokespecial 41, 3) := by decide +kernel
theorem dX7_init_64 : decode cX7_init 64 = .ok (.putfield 42, 3) := by decide +kernel
theorem dX7_init_67 : decode cX7_init 67 = .ok (.aload_n 0, 1) := by decide +kernel
theorem dX7_init_68 : decode cX7_init 68 = .ok (.new 46, 3) := by decide +kernel
theorem dX7_init_71 : decode cX7_init 71 = .ok (.dup, 1) := by decide +kernel
theorem dX7_init_72 : decode cX7_init 72 = .ok (.aload_n 0, 1) := by decide +kernel
theorem dX7_init_73 : decode cX7_init 73 = .ok (.getfield 10, 3) := by decide +kernel
theorem dX7_init_76 : decode cX7_init 76 = .ok (.invokespecial 48, 3) := by decide +kernel
theorem dX7_init_79 : decode cX7_init 79 = .ok (.putfield 49, 3) := by decide +kernel
theorem dX7_init_82 : decode cX7_init 82 = .ok (.return_, 1) := by decide +kernel
theorem dX7_add_0 : decode cX7_add 0 = .ok (.iload_n 1, 1) := by decide +kernel
theorem dX7_add_1 : decode cX7_add 1 = .ok (.invokestatic 53, 3) := by decide +kernel
theorem dX7_add_4 : decode cX7_add 4 = .ok (.ifCond .eq 10, 3) := by decide +kernel
theorem dX7_add_7 : decode cX7_add 7 = .ok (.iload_n 2, 1) := by decide +kernel
theorem dX7_add_8 : decode cX7_add 8 = .ok (.invokestatic 57, 3) := by decide +kernel
theorem dX7_add_11 : decode cX7_add 11 = .ok (.ifCond .ne 13, 3) := by decide +kernel
theorem dX7_add_14 : decode cX7_add 14 = .ok (.new 60, 3) := by decide +kernel
theorem dX7_add_17 : decode cX7_add 17 = .ok (.dup, 1) := by decide +kernel
theorem dX7_add_18 : decode cX7_add 18 = .ok (.ldc 62, 2) := by decide +kernel
theorem dX7_add_20 : decode cX7_add 20 = .ok (.invokespecial 64, 3) := by decide +kernel
theorem dX7_add_23 : decode cX7_add 23 = .ok (.athrow, 1) := by decide +kernel
theorem dX7_add_24 : decode cX7_add 24 = .ok (.aload_n 0, 1) := by decide +kernel
theorem dX7_add_25 : decode cX7_add 25 = .ok (.getfield 10, 3) := by decide +kernel
theorem dX7_add_28 : decode cX7_add 28 = .ok (.invokevirtual 67, 3) := by decide +kernel
theorem dX7_add_31 : decode cX7_add 31 = .ok (.bipush 20, 2) := by decide +kernel
theorem dX7_add_33 : decode cX7_add 33 = .ok (.if_icmp .lt 13, 3) := by decide +kernel
theorem dX7_add_36 : decode cX7_add 36 = .ok (.new 71, 3) := by decide +kernel
theorem dX7_add_39 : decode cX7_add 39 = .ok (.dup, 1) := by decide +kernel
theorem dX7_add_40 : decode cX7_add 40 = .ok (.ldc 73, 2) := by decide +kernel
theorem dX7_add_42 : decode cX7_add 42 = .ok (.invokespecial 75, 3) := by decide +kernel
theorem dX7_add_45 : decode cX7_add 45 = .ok (.athrow, 1) := by decide +kernel
theorem dX7_add_46 : decode cX7_add 46 = .ok (.aload_n 0, 1) := by decide +kernel
theorem dX7_add_47 : decode cX7_add 47 = .ok (.getfield 19, 3) := by decide +kernel
theorem dX7_add_50 : decode cX7_add 50 = .ok (.aload_n 0, 1) := by decide +kernel
theorem dX7_add_51 : decode cX7_add 51 = .ok (.getfield 10, 3) := by decide +kernel
theorem dX7_add_54 : decode cX7_add 54 = .ok (.invokevirtual 76, 3) := by decide +kernel
theorem dX7_add_57 : decode cX7_add 57 = .ok (.aload_n 0, 1) := by decide +kernel
theorem dX7_add_58 : decode cX7_add 58 = .ok (.getfield 10, 3) := by decide +kernel
theorem dX7_add_61 : decode cX7_add 61 = .ok (.iload_n 1, 1) := by decide +kernel
theorem dX7_add_62 : decode cX7_add 62 = .ok (.iload_n 2, 1) := by decide +kernel
theorem dX7_add_63 : decode cX7_add 63 = .ok (.iconst 0, 1) := by decide +kernel
theorem dX7_add_64 : decode cX7_add 64 = .ok (.bipush 99, 2) := by decide +kernel
theorem dX7_add_66 : decode cX7_add 66 = .ok (.invokevirtual 79, 3) := by decide +kernel
theorem dX7_add_69 : decode cX7_add 69 = .ok (.aload_n 0, 1) := by decide +kernel
theorem dX7_add_70 : decode cX7_add 70 = .ok (.getfield 10, 3) := by decide +kernel
theorem dX7_add_73 : decode cX7_add 73 = .ok (.invokevirtual 67, 3) := by decide +kernel
theorem dX7_add_76 : decode cX7_add 76 = .ok (.iconst 1, 1) := by decide +kernel
theorem dX7_add_77 : decode cX7_add 77 = .ok (.isub, 1) := by decide +kernel
theorem dX7_add_78 : decode cX7_add 78 = .ok (.ireturn, 1) := by decide +kernel
theorem dX7_span_0 : decode cX7_span 0 = .ok (.aload_n 0, 1) := by decide +kernel
theorem dX7_span_1 : decode cX7_span 1 = .ok (.getfield 10, 3) := by decide +kernel
theorem dX7_span_4 : decode cX7_span 4 = .ok (.iload_n 1, 1) := by decide +kernel
theorem dX7_span_5 : decode cX7_span 5 = .ok (.invokevirtual 83, 3) := by decide +kernel
theorem dX7_span_8 : decode cX7_span 8 = .ok (.ifCond .ne 13, 3) := by decide +kernel
theorem dX7_span_11 : decode cX7_span 11 = .ok (.new 86, 3) := by decide +kernel
theorem dX7_span_14 : decode cX7_span 14 = .ok (.dup, 1) := by decide +kernel
theorem dX7_span_15 : decode cX7_span 15 = .ok (.ldc 88, 2) := by decide +kernel
theorem dX7_span_17 : decode cX7_span 17 = .ok (.invokespecial 90, 3) := by decide +kernel
theorem dX7_span_20 : decode cX7_span 20 = .ok (.athrow, 1) := by decide +kernel
theorem dX7_span_21 : decode cX7_span 21 = .ok (.iload_n 2, 1) := by decide +kernel
theorem dX7_span_22 : decode cX7_span 22 = .ok (.iload_n 3, 1) := by decide +kernel
theorem dX7_span_23 : decode cX7_span 23 = .ok (.bipush 64, 2) := by decide +kernel
theorem dX7_span_25 : decode cX7_span 25 = .ok (.invokestatic 91, 3) := by decide +kernel
theorem dX7_span_28 : decode cX7_span 28 = .ok (.ifCond .ne 13, 3) := by decide +kernel
theorem dX7_span_31 : decode cX7_span 31 = .ok (.new 60, 3) := by decide +kernel
theorem dX7_span_34 : decode cX7_span 34 = .ok (.dup, 1) := by decide +kernel
theorem dX7_span_35 : decode cX7_span 35 = .ok (.ldc 95, 2) := by decide +kernel
theorem dX7_span_37 : decode cX7_span 37 = .ok (.invokespecial 64, 3) := by decide +kernel
theorem dX7_span_40 : decode cX7_span 40 = .ok (.athrow, 1) := by decide +kernel
theorem dX7_span_41 : decode cX7_span 41 = .ok (.aload_n 0, 1) := by decide +kernel
theorem dX7_span_42 : decode cX7_span 42 = .ok (.iload_n 1, 1) := by decide +kernel
theorem dX7_span_43 : decode cX7_span 43 = .ok (.iconst 2, 1) := by decide +kernel
theorem dX7_span_44 : decode cX7_span 44 = .ok (.iload_n 2, 1) := by decide +kernel
theorem dX7_span_45 : decode cX7_span 45 = .ok (.iconst 3, 1) := by decide +kernel
theorem dX7_span_46 : decode cX7_span 46 = .ok (.iload_n 3, 1) := by decide +kernel
theorem dX7_span_47 : decode cX7_span 47 = .ok (.invokevirtual 97, 3) := by decide +kernel
theorem dX7_span_50 : decode cX7_span 50 = .ok (.ireturn, 1) := by decide +kernel
theorem dX7_live_0 : decode cX7_live 0 = .ok (.aload_n 0, 1) := by decide +kernel
theorem dX7_live_1 : decode cX7_live 1 = .ok (.getfield 10, 3) := by decide +kernel
theorem dX7_live_4 : decode cX7_live 4 = .ok (.iload_n 1, 1) := by decide +kernel
theorem dX7_live_5 : decode cX7_live 5 = .ok (.invokevirtual 83, 3) := by decide +kernel
theorem dX7_live_8 : decode cX7_live 8 = .ok (.ifCond .ne 13, 3) := by decide +kernel
theorem dX7_live_11 : decode cX7_live 11 = .ok (.new 86, 3) := by decide +kernel
theorem dX7_live_14 : decode cX7_live 14 = .ok (.dup, 1) := by decide +kernel
theorem dX7_live_15 : decode cX7_live 15 = .ok (.ldc 88, 2) := by decide +kernel
theorem dX7_live_17 : decode cX7_live 17 = .ok (.invokespecial 90, 3) := by decide +kernel
theorem dX7_live_20 : decode cX7_live 20 = .ok (.athrow, 1) := by decide +kernel
theorem dX7_live_21 : decode cX7_live 21 = .ok (.iload_n 2, 1) := by decide +kernel
theorem dX7_live_22 : decode cX7_live 22 = .ok (.iload_n 3, 1) := by decide +kernel
theorem dX7_live_23 : decode cX7_live 23 = .ok (.bipush 100, 2) := by decide +kernel
theorem dX7_live_25 : decode cX7_live 25 = .ok (.invokestatic 91, 3) := by decide +kernel
theorem dX7_live_28 : decode cX7_live 28 = .ok (.ifCond .ne 13, 3) := by decide +kernel
theorem dX7_live_31 : decode cX7_live 31 = .ok (.new 60, 3) := by decide +kernel
theorem dX7_live_34 : decode cX7_live 34 = .ok (.dup, 1) := by decide +kernel
theorem dX7_live_35 : decode cX7_live 35 = .ok (.ldc 101, 2) := by decide +kernel
theorem dX7_live_37 : decode cX7_live 37 = .ok (.invokespecial 64, 3) := by decide +kernel
theorem dX7_live_40 : decode cX7_live 40 = .ok (.athrow, 1) := by decide +kernel
theorem dX7_live_41 : decode cX7_live 41 = .ok (.aload_n 0, 1) := by decide +kernel
theorem dX7_live_42 : decode cX7_live 42 = .ok (.iload_n 1, 1) := by decide +kernel
theorem dX7_live_43 : decode cX7_live 43 = .ok (.iconst 4, 1) := by decide +kernel
theorem dX7_live_44 : decode cX7_live 44 = .ok (.iload_n 2, 1) := by decide +kernel
theorem dX7_live_45 : decode cX7_live 45 = .ok (.iconst 5, 1) := by decide +kernel
theorem dX7_live_46 : decode cX7_live 46 = .ok (.iload_n 3, 1) := by decide +kernel
theorem dX7_live_47 : decode cX7_live 47 = .ok (.invokevirtual 97, 3) := by decide +kernel
theorem dX7_live_50 : decode cX7_live 50 = .ok (.ireturn, 1) := by decide +kernel
theorem dX7_lift_0 : decode cX7_lift 0 = .ok (.aload_n 0, 1) := by decide +kernel
theorem dX7_lift_1 : decode cX7_lift 1 = .ok (.getfield 10, 3) := by decide +kernel
theorem dX7_lift_4 : decode cX7_lift 4 = .ok (.iload_n 1, 1) := by decide +kernel
theorem dX7_lift_5 : decode cX7_lift 5 = .ok (.invokevirtual 83, 3) := by decide +kernel
theorem dX7_lift_8 : decode cX7_lift 8 = .ok (.ifCond .ne 13, 3) := by decide +kernel
theorem dX7_lift_11 : decode cX7_lift 11 = .ok (.new 86, 3) := by decide +kernel
theorem dX7_lift_14 : decode cX7_lift 14 = .ok (.dup, 1) := by decide +kernel
theorem dX7_lift_15 : decode cX7_lift 15 = .ok (.ldc 88, 2) := by decide +kernel
theorem dX7_lift_17 : decode cX7_lift 17 = .ok (.invokespecial 90, 3) := by decide +kernel
theorem dX7_lift_20 : decode cX7_lift 20 = .ok (.athrow, 1) := by decide +kernel
theorem dX7_lift_21 : decode cX7_lift 21 = .ok (.iload_n 2, 1) := by decide +kernel
theorem dX7_lift_22 : decode cX7_lift 22 = .ok (.invokestatic 57, 3) := by decide +kernel
theorem dX7_lift_25 : decode cX7_lift 25 = .ok (.ifCond .ne 13, 3) := by decide +kernel
theorem dX7_lift_28 : decode cX7_lift 28 = .ok (.new 60, 3) := by decide +kernel
theorem dX7_lift_31 : decode cX7_lift 31 = .ok (.dup, 1) := by decide +kernel
theorem dX7_lift_32 : decode cX7_lift 32 = .ok (.ldc 103, 2) := by decide +kernel
theorem dX7_lift_34 : decode cX7_lift 34 = .ok (.invokespecial 64, 3) := by decide +kernel
theorem dX7_lift_37 : decode cX7_lift 37 = .ok (.athrow, 1) := by decide +kernel
theorem dX7_lift_38 : decode cX7_lift 38 = .ok (.aload_n 0, 1) := by decide +kernel
theorem dX7_lift_39 : decode cX7_lift 39 = .ok (.getfield 10, 3) := by decide +kernel
theorem dX7_lift_42 : decode cX7_lift 42 = .ok (.iload_n 1, 1) := by decide +kernel
theorem dX7_lift_43 : decode cX7_lift 43 = .ok (.iconst 1, 1) := by decide +kernel
theorem dX7_lift_44 : decode cX7_lift 44 = .ok (.invokevirtual 105, 3) := by decide +kernel
theorem dX7_lift_47 : decode cX7_lift 47 = .ok (.iload_n 2, 1) := by decide +kernel
theorem dX7_lift_48 : decode cX7_lift 48 = .ok (.iadd, 1) := by decide +kernel
theorem dX7_lift_49 : decode cX7_lift 49 = .ok (.istore_n 3, 1) := by decide +kernel
theorem dX7_lift_50 : decode cX7_lift 50 = .ok (.iload_n 3, 1) := by decide +kernel
theorem dX7_lift_51 : decode cX7_lift 51 = .ok (.invokestatic 57, 3) := by decide +kernel
theorem dX7_lift_54 : decode cX7_lift 54 = .ok (.ifCond .ne 13, 3) := by decide +kernel
theorem dX7_lift_57 : decode cX7_lift 57 = .ok (.new 71, 3) := by decide +kernel
theorem dX7_lift_60 : decode cX7_lift 60 = .ok (.dup, 1) := by decide +kernel
theorem dX7_lift_61 : decode cX7_lift 61 = .ok (.ldc 109, 2) := by decide +kernel
theorem dX7_lift_63 : decode cX7_lift 63 = .ok (.invokespecial 75, 3) := by decide +kernel
