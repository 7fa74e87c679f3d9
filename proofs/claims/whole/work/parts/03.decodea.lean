theorem dX0_init_0 : decode cX0_init 0 = .ok (.aload_n 0, 1) := by decide +kernel
theorem dX0_init_1 : decode cX0_init 1 = .ok (.invokespecial 3, 3) := by decide +kernel
theorem dX0_init_4 : decode cX0_init 4 = .ok (.aload_n 0, 1) := by decide +kernel
theorem dX0_init_5 : decode cX0_init 5 = .ok (.sipush 732, 3) := by decide +kernel
theorem dX0_init_8 : decode cX0_init 8 = .ok (.newarray .int, 2) := by decide +kernel
theorem dX0_init_10 : decode cX0_init 10 = .ok (.putfield 11, 3) := by decide +kernel
theorem dX0_init_13 : decode cX0_init 13 = .ok (.aload_n 0, 1) := by decide +kernel
theorem dX0_init_14 : decode cX0_init 14 = .ok (.iconst 0, 1) := by decide +kernel
theorem dX0_init_15 : decode cX0_init 15 = .ok (.putfield 17, 3) := by decide +kernel
theorem dX0_init_18 : decode cX0_init 18 = .ok (.return_, 1) := by decide +kernel
theorem dX0_size_0 : decode cX0_size 0 = .ok (.aload_n 0, 1) := by decide +kernel
theorem dX0_size_1 : decode cX0_size 1 = .ok (.getfield 17, 3) := by decide +kernel
theorem dX0_size_4 : decode cX0_size 4 = .ok (.ireturn, 1) := by decide +kernel
theorem dX0_save_0 : decode cX0_save 0 = .ok (.aload_n 0, 1) := by decide +kernel
theorem dX0_save_1 : decode cX0_save 1 = .ok (.getfield 17, 3) := by decide +kernel
theorem dX0_save_4 : decode cX0_save 4 = .ok (.bipush 6, 2) := by decide +kernel
theorem dX0_save_6 : decode cX0_save 6 = .ok (.if_icmp .lt 30, 3) := by decide +kernel
theorem dX0_save_9 : decode cX0_save 9 = .ok (.aload_n 0, 1) := by decide +kernel
theorem dX0_save_10 : decode cX0_save 10 = .ok (.getfield 11, 3) := by decide +kernel
theorem dX0_save_13 : decode cX0_save 13 = .ok (.bipush 122, 2) := by decide +kernel
theorem dX0_save_15 : decode cX0_save 15 = .ok (.aload_n 0, 1) := by decide +kernel
theorem dX0_save_16 : decode cX0_save 16 = .ok (.getfield 11, 3) := by decide +kernel
theorem dX0_save_19 : decode cX0_save 19 = .ok (.iconst 0, 1) := by decide +kernel
theorem dX0_save_20 : decode cX0_save 20 = .ok (.aload_n 0, 1) := by decide +kernel
theorem dX0_save_21 : decode cX0_save 21 = .ok (.getfield 11, 3) := by decide +kernel
theorem dX0_save_24 : decode cX0_save 24 = .ok (.arraylength, 1) := by decide +kernel
theorem dX0_save_25 : decode cX0_save 25 = .ok (.bipush 122, 2) := by decide +kernel
theorem dX0_save_27 : decode cX0_save 27 = .ok (.isub, 1) := by decide +kernel
theorem dX0_save_28 : decode cX0_save 28 = .ok (.invokestatic 21, 3) := by decide +kernel
theorem dX0_save_31 : decode cX0_save 31 = .ok (.aload_n 0, 1) := by decide +kernel
theorem dX0_save_32 : decode cX0_save 32 = .ok (.iconst 5, 1) := by decide +kernel
theorem dX0_save_33 : decode cX0_save 33 = .ok (.putfield 17, 3) := by decide +kernel
theorem dX0_save_36 : decode cX0_save 36 = .ok (.aload_n 1, 1) := by decide +kernel
theorem dX0_save_37 : decode cX0_save 37 = .ok (.aload_n 0, 1) := by decide +kernel
theorem dX0_save_38 : decode cX0_save 38 = .ok (.getfield 11, 3) := by decide +kernel
theorem dX0_save_41 : decode cX0_save 41 = .ok (.aload_n 0, 1) := by decide +kernel
theorem dX0_save_42 : decode cX0_save 42 = .ok (.getfield 17, 3) := by decide +kernel
theorem dX0_save_45 : decode cX0_save 45 = .ok (.bipush 122, 2) := by decide +kernel
theorem dX0_save_47 : decode cX0_save 47 = .ok (.imul, 1) := by decide +kernel
theorem dX0_save_48 : decode cX0_save 48 = .ok (.invokevirtual 27, 3) := by decide +kernel
theorem dX0_save_51 : decode cX0_save 51 = .ok (.aload_n 0, 1) := by decide +kernel
theorem dX0_save_52 : decode cX0_save 52 = .ok (.dup, 1) := by decide +kernel
theorem dX0_save_53 : decode cX0_save 53 = .ok (.getfield 17, 3) := by decide +kernel
theorem dX0_save_56 : decode cX0_save 56 = .ok (.iconst 1, 1) := by decide +kernel
theorem dX0_save_57 : decode cX0_save 57 = .ok (.iadd, 1) := by decide +kernel
theorem dX0_save_58 : decode cX0_save 58 = .ok (.putfield 17, 3) := by decide +kernel
theorem dX0_save_61 : decode cX0_save 61 = .ok (.return_, 1) := by decide +kernel
theorem dX0_restore_0 : decode cX0_restore 0 = .ok (.aload_n 0, 1) := by decide +kernel
theorem dX0_restore_1 : decode cX0_restore 1 = .ok (.getfield 17, 3) := by decide +kernel
theorem dX0_restore_4 : decode cX0_restore 4 = .ok (.ifCond .le 28, 3) := by decide +kernel
theorem dX0_restore_7 : decode cX0_restore 7 = .ok (.aload_n 0, 1) := by decide +kernel
theorem dX0_restore_8 : decode cX0_restore 8 = .ok (.dup, 1) := by decide +kernel
theorem dX0_restore_9 : decode cX0_restore 9 = .ok (.getfield 17, 3) := by decide +kernel
theorem dX0_restore_12 : decode cX0_restore 12 = .ok (.iconst 1, 1) := by decide +kernel
theorem dX0_restore_13 : decode cX0_restore 13 = .ok (.isub, 1) := by decide +kernel
theorem dX0_restore_14 : decode cX0_restore 14 = .ok (.putfield 17, 3) := by decide +kernel
theorem dX0_restore_17 : decode cX0_restore 17 = .ok (.aload_n 1, 1) := by decide +kernel
theorem dX0_restore_18 : decode cX0_restore 18 = .ok (.aload_n 0, 1) := by decide +kernel
theorem dX0_restore_19 : decode cX0_restore 19 = .ok (.getfield 11, 3) := by decide +kernel
theorem dX0_restore_22 : decode cX0_restore 22 = .ok (.aload_n 0, 1) := by decide +kernel
theorem dX0_restore_23 : decode cX0_restore 23 = .ok (.getfield 17, 3) := by decide +kernel
theorem dX0_restore_26 : decode cX0_restore 26 = .ok (.bipush 122, 2) := by decide +kernel
theorem dX0_restore_28 : decode cX0_restore 28 = .ok (.imul, 1) := by decide +kernel
theorem dX0_restore_29 : decode cX0_restore 29 = .ok (.invokevirtual 31, 3) := by decide +kernel
theorem dX0_restore_32 : decode cX0_restore 32 = .ok (.return_, 1) := by decide +kernel
theorem dX1_init_0 : decode cX1_init 0 = .ok (.aload_n 0, 1) := by decide +kernel
theorem dX1_init_1 : decode cX1_init 1 = .ok (.invokespecial 3, 3) := by decide +kernel
theorem dX1_init_4 : decode cX1_init 4 = .ok (.aload_n 0, 1) := by decide +kernel
theorem dX1_init_5 : decode cX1_init 5 = .ok (.bipush 120, 2) := by decide +kernel
theorem dX1_init_7 : decode cX1_init 7 = .ok (.newarray .int, 2) := by decide +kernel
theorem dX1_init_9 : decode cX1_init 9 = .ok (.putfield 9, 3) := by decide +kernel
theorem dX1_init_12 : decode cX1_init 12 = .ok (.aload_n 0, 1) := by decide +kernel
theorem dX1_init_13 : decode cX1_init 13 = .ok (.iconst 0, 1) := by decide +kernel
theorem dX1_init_14 : decode cX1_init 14 = .ok (.putfield 15, 3) := by decide +kernel
theorem dX1_init_17 : decode cX1_init 17 = .ok (.aload_n 0, 1) := by decide +kernel
theorem dX1_init_18 : decode cX1_init 18 = .ok (.iconst 0, 1) := by decide +kernel
theorem dX1_init_19 : decode cX1_init 19 = .ok (.putfield 19, 3) := by decide +kernel
theorem dX1_init_22 : decode cX1_init 22 = .ok (.aload_n 0, 1) := by decide +kernel
theorem dX1_init_23 : decode cX1_init 23 = .ok (.iconst 0, 1) := by decide +kernel
theorem dX1_init_24 : decode cX1_init 24 = .ok (.putfield 22, 3) := by decide +kernel
theorem dX1_init_27 : decode cX1_init 27 = .ok (.return_, 1) := by decide +kernel
theorem dX1_size_0 : decode cX1_size 0 = .ok (.aload_n 0, 1) := by decide +kernel
theorem dX1_size_1 : decode cX1_size 1 = .ok (.getfield 15, 3) := by decide +kernel
theorem dX1_size_4 : decode cX1_size 4 = .ok (.ireturn, 1) := by decide +kernel
theorem dX1_moment_0 : decode cX1_moment 0 = .ok (.aload_n 0, 1) := by decide +kernel
theorem dX1_moment_1 : decode cX1_moment 1 = .ok (.getfield 19, 3) := by decide +kernel
theorem dX1_moment_4 : decode cX1_moment 4 = .ok (.ireturn, 1) := by decide +kernel
theorem dX1_version_0 : decode cX1_version 0 = .ok (.aload_n 0, 1) := by decide +kernel
theorem dX1_version_1 : decode cX1_version 1 = .ok (.getfield 22, 3) := by decide +kernel
theorem dX1_version_4 : decode cX1_version 4 = .ok (.ireturn, 1) := by decide +kernel
theorem dX1_has_0 : decode cX1_has 0 = .ok (.iload_n 1, 1) := by decide +kernel
theorem dX1_has_1 : decode cX1_has 1 = .ok (.ifCond .lt 15, 3) := by decide +kernel
theorem dX1_has_4 : decode cX1_has 4 = .ok (.iload_n 1, 1) := by decide +kernel
theorem dX1_has_5 : decode cX1_has 5 = .ok (.aload_n 0, 1) := by decide +kernel
theorem dX1_has_6 : decode cX1_has 6 = .ok (.getfield 15, 3) := by decide +kernel
theorem dX1_has_9 : decode cX1_has 9 = .ok (.if_icmp .ge 7, 3) := by decide +kernel
theorem dX1_has_12 : decode cX1_has 12 = .ok (.iconst 1, 1) := by decide +kernel
theorem dX1_has_13 : decode cX1_has 13 = .ok (.goto 4, 3) := by decide +kernel
theorem dX1_has_16 : decode cX1_has 16 = .ok (.iconst 0, 1) := by decide +kernel
theorem dX1_has_17 : decode cX1_has 17 = .ok (.ireturn, 1) := by decide +kernel
theorem dX1_property_0 : decode cX1_property 0 = .ok (.iload_n 1, 1) := by decide +kernel
theorem dX1_property_1 : decode cX1_property 1 = .ok (.ifCond .lt 21, 3) := by decide +kernel
theorem dX1_property_4 : decode cX1_property 4 = .ok (.iload_n 1, 1) := by decide +kernel
theorem dX1_property_5 : decode cX1_property 5 = .ok (.aload_n 0, 1) := by decide +kernel
theorem dX1_property_6 : decode cX1_property 6 = .ok (.getfield 15, 3) := by decide +kernel
theorem dX1_property_9 : decode cX1_property 9 = .ok (.if_icmp .ge 13, 3) := by decide +kernel
theorem dX1_property_12 : decode cX1_property 12 = .ok (.iload_n 2, 1) := by decide +kernel
theorem dX1_property_13 : decode cX1_property 13 = .ok (.ifCond .lt 9, 3) := by decide +kernel
theorem dX1_property_16 : decode cX1_property 16 = .ok (.iload_n 2, 1) := by decide +kernel
theorem dX1_property_17 : decode cX1_property 17 = .ok (.bipush 6, 2) := by decide +kernel
theorem dX1_property_19 : decode cX1_property 19 = .ok (.if_icmp .lt 5, 3) := by decide +kernel
theorem dX1_property_22 : decode cX1_property 22 = .ok (.iconst (-1), 1) := by decide +kernel
theorem dX1_property_23 : decode cX1_property 23 = .ok (.ireturn, 1) := by decide +kernel
theorem dX1_property_24 : decode cX1_property 24 = .ok (.aload_n 0, 1) := by decide +kernel
theorem dX1_property_25 : decode cX1_property 25 = .ok (.getfield 9, 3) := by decide +kernel
theorem dX1_property_28 : decode cX1_property 28 = .ok (.iload_n 1, 1) := by decide +kernel
theorem dX1_property_29 : decode cX1_property 29 = .ok (.bipush 6, 2) := by decide +kernel
theorem dX1_property_31 : decode cX1_property 31 = .ok (.imul, 1) := by decide +kernel
theorem dX1_property_32 : decode cX1_property 32 = .ok (.iload_n 2, 1) := by decide +kernel
theorem dX1_property_33 : decode cX1_property 33 = .ok (.iadd, 1) := by decide +kernel
theorem dX1_property_34 : decode cX1_property 34 = .ok (.iaload, 1) := by decide +kernel
theorem dX1_property_35 : decode cX1_property 35 = .ok (.ireturn, 1) := by decide +kernel
theorem dX1_change_0 : decode cX1_change 0 = .ok (.aload_n 0, 1) := by decide +kernel
theorem dX1_change_1 : decode cX1_change 1 = .ok (.iload_n 1, 1) := by decide +kernel
theorem dX1_change_2 : decode cX1_change 2 = .ok (.invokevirtual 25, 3) := by decide +kernel
theorem dX1_change_5 : decode cX1_change 5 = .ok (.ifCond .eq 35, 3) := by decide +kernel
theorem dX1_change_8 : decode cX1_change 8 = .ok (.iload_n 2, 1) := by decide +kernel
theorem dX1_change_9 : decode cX1_change 9 = .ok (.ifCond .lt 31, 3) := by decide +kernel
theorem dX1_change_12 : decode cX1_change 12 = .ok (.iload_n 2, 1) := by decide +kernel
theorem dX1_change_13 : decode cX1_change 13 = .ok (.bipush 6, 2) := by decide +kernel
theorem dX1_change_15 : decode cX1_change 15 = .ok (.if_icmp .ge 25, 3) := by decide +kernel
theorem dX1_change_18 : decode cX1_change 18 = .ok (.aload_n 0, 1) := by decide +kernel
theorem dX1_change_19 : decode cX1_change 19 = .ok (.getfield 9, 3) := by decide +kernel
theorem dX1_change_22 : decode cX1_change 22 = .ok (.iload_n 1, 1) := by decide +kernel
theorem dX1_change_23 : decode cX1_change 23 = .ok (.bipush 6, 2) := by decide +kernel
theorem dX1_change_25 : decode cX1_change 25 = .ok (.imul, 1) := by decide +kernel
theorem dX1_change_26 : decode cX1_change 26 = .ok (.iload_n 2, 1) := by decide +kernel
theorem dX1_change_27 : decode cX1_change 27 = .ok (.iadd, 1) := by decide +kernel
theorem dX1_change_28 : decode cX1_change 28 = .ok (.iload_n 3, 1) := by decide +kernel
theorem dX1_change_29 : decode cX1_change 29 = .ok (.iastore, 1) := by decide +kernel
theorem dX1_change_30 : decode cX1_change 30 = .ok (.aload_n 0, 1) := by decide +kernel
theorem dX1_change_31 : decode cX1_change 31 = .ok (.dup, 1) := by decide +kernel
theorem dX1_change_32 : decode cX1_change 32 = .ok (.getfield 22, 3) := by decide +kernel
theorem dX1_change_35 : decode cX1_change 35 = .ok (.iconst 1, 1) := by decide +kernel
theorem dX1_change_36 : decode cX1_change 36 = .ok (.iadd, 1) := by decide +kernel
theorem dX1_change_37 : decode cX1_change 37 = .ok (.putfield 22, 3) := by decide +kernel
theorem dX1_change_40 : decode cX1_change 40 = .ok (.return_, 1) := by decide +kernel
theorem dX1_addLine_0 : decode cX1_addLine 0 = .ok (.aload_n 0, 1) := by decide +kernel
theorem dX1_addLine_1 : decode cX1_addLine 1 = .ok (.getfield 15, 3) := by decide +kernel
theorem dX1_addLine_4 : decode cX1_addLine 4 = .ok (.bipush 20, 2) := by decide +kernel
theorem dX1_addLine_6 : decode cX1_addLine 6 = .ok (.if_icmp .lt 4, 3) := by decide +kernel
theorem dX1_addLine_9 : decode cX1_addLine 9 = .ok (.return_, 1) := by decide +kernel
theorem dX1_addLine_10 : decode cX1_addLine 10 = .ok (.aload_n 0, 1) := by decide +kernel
theorem dX1_addLine_11 : decode cX1_addLine 11 = .ok (.getfield 15, 3) := by decide +kernel
theorem dX1_addLine_14 : decode cX1_addLine 14 = .ok (.istore 5, 2) := by decide +kernel
theorem dX1_addLine_16 : decode cX1_addLine 16 = .ok (.aload_n 0, 1) := by decide +kernel
theorem dX1_addLine_17 : decode cX1_addLine 17 = .ok (.dup, 1) := by decide +kernel
theorem dX1_addLine_18 : decode cX1_addLine 18 = .ok (.getfield 15, 3) := by decide +kernel
theorem dX1_addLine_21 : decode cX1_addLine 21 = .ok (.iconst 1, 1) := by decide +kernel
theorem dX1_addLine_22 : decode cX1_addLine 22 = .ok (.iadd, 1) := by decide +kernel
theorem dX1_addLine_23 : decode cX1_addLine 23 = .ok (.putfield 15, 3) := by decide +kernel
theorem dX1_addLine_26 : decode cX1_addLine 26 = .ok (.aload_n 0, 1) := by decide +kernel
theorem dX1_addLine_27 : decode cX1_addLine 27 = .ok (.iload 5, 2) := by decide +kernel
theorem dX1_addLine_29 : decode cX1_addLine 29 = .ok (.iconst 0, 1) := by decide +kernel
theorem dX1_addLine_30 : decode cX1_addLine 30 = .ok (.iload_n 1, 1) := by decide +kernel
theorem dX1_addLine_31 : decode cX1_addLine 31 = .ok (.invokevirtual 29, 3) := by decide +kernel
theorem dX1_addLine_34 : decode cX1_addLine 34 = .ok (.aload_n 0, 1) := by decide +kernel
theorem dX1_addLine_35 : decode cX1_addLine 35 = .ok (.iload 5, 2) := by decide +kernel
theorem dX1_addLine_37 : decode cX1_addLine 37 = .ok (.iconst 1, 1) := by decide +kernel
theorem dX1_addLine_38 : decode cX1_addLine 38 = .ok (.iload_n 2, 1) := by decide +kernel
theorem dX1_addLine_39 : decode cX1_addLine 39 = .ok (.invokevirtual 29, 3) := by decide +kernel
theorem dX1_addLine_42 : decode cX1_addLine 42 = .ok (.aload_n 0, 1) := by decide +kernel
theorem dX1_addLine_43 : decode cX1_addLine 43 = .ok (.iload 5, 2) := by decide +kernel
theorem dX1_addLine_45 : decode cX1_addLine 45 = .ok (.iconst 2, 1) := by decide +kernel
theorem dX1_addLine_46 : decode cX1_addLine 46 = .ok (.iconst 0, 1) := by decide +kernel
theorem dX1_addLine_47 : decode cX1_addLine 47 = .ok (.invokevirtual 29, 3) := by decide +kernel
theorem dX1_addLine_50 : decode cX1_addLine 50 = .ok (.aload_n 0, 1) := by decide +kernel
theorem dX1_addLine_51 : decode cX1_addLine 51 = .ok (.iload 5, 2) := by decide +kernel
theorem dX1_addLine_53 : decode cX1_addLine 53 = .ok (.iconst 3, 1) := by decide +kernel
theorem dX1_addLine_54 : decode cX1_addLine 54 = .ok (.bipush 63, 2) := by decide +kernel
theorem dX1_addLine_56 : decode cX1_addLine 56 = .ok (.invokevirtual 29, 3) := by decide +kernel
theorem dX1_addLine_59 : decode cX1_addLine 59 = .ok (.aload_n 0, 1) := by decide +kernel
theorem dX1_addLine_60 : decode cX1_addLine 60 = .ok (.iload 5, 2) := by decide +kernel
theorem dX1_addLine_62 : decode cX1_addLine 62 = .ok (.iconst 4, 1) := by decide +kernel
theorem dX1_addLine_63 : decode cX1_addLine 63 = .ok (.iload_n 3, 1) := by decide +kernel
theorem dX1_addLine_64 : decode cX1_addLine 64 = .ok (.invokevirtual 29, 3) := by decide +kernel
theorem dX1_addLine_67 : decode cX1_addLine 67 = .ok (.aload_n 0, 1) := by decide +kernel
theorem dX1_addLine_68 : decode cX1_addLine 68 = .ok (.iload 5, 2) := by decide +kernel
theorem dX1_addLine_70 : decode cX1_addLine 70 = .ok (.iconst 5, 1) := by decide +kernel
theorem dX1_addLine_71 : decode cX1_addLine 71 = .ok (.iload 4, 2) := by decide +kernel
theorem dX1_addLine_73 : decode cX1_addLine 73 = .ok (.invokevirtual 29, 3) := by decide +kernel
theorem dX1_addLine_76 : decode cX1_addLine 76 = .ok (.return_, 1) := by decide +kernel
theorem dX1_drop_0 : decode cX1_drop 0 = .ok (.aload_n 0, 1) := by decide +kernel
theorem dX1_drop_1 : decode cX1_drop 1 = .ok (.iload_n 1, 1) := by decide +kernel
theorem dX1_drop_2 : decode cX1_drop 2 = .ok (.invokevirtual 25, 3) := by decide +kernel
theorem dX1_drop_5 : decode cX1_drop 5 = .ok (.ifCond .ne 4, 3) := by decide +kernel
theorem dX1_drop_8 : decode cX1_drop 8 = .ok (.return_, 1) := by decide +kernel
theorem dX1_drop_9 : decode cX1_drop 9 = .ok (.iload_n 1, 1) := by decide +kernel
theorem dX1_drop_10 : decode cX1_drop 10 = .ok (.iconst 1, 1) := by decide +kernel
theorem dX1_drop_11 : decode cX1_drop 11 = .ok (.iadd, 1) := by decide +kernel
theorem dX1_drop_12 : decode cX1_drop 12 = .ok (.bipush 6, 2) := by decide +kernel
theorem dX1_drop_14 : decode cX1_drop 14 = .ok (.imul, 1) := by decide +kernel
theorem dX1_drop_15 : decode cX1_drop 15 = .ok (.istore_n 2, 1) := by decide +kernel
theorem dX1_drop_16 : decode cX1_drop 16 = .ok (.aload_n 0, 1) := by decide +kernel
theorem dX1_drop_17 : decode cX1_drop 17 = .ok (.getfield 9, 3) := by decide +kernel
theorem dX1_drop_20 : decode cX1_drop 20 = .ok (.iload_n 2, 1) := by decide +kernel
theorem dX1_drop_21 : decode cX1_drop 21 = .ok (.aload_n 0, 1) := by decide +kernel
theorem dX1_drop_22 : decode cX1_drop 22 = .ok (.getfield 9, 3) := by decide +kernel
theorem dX1_drop_25 : decode cX1_drop 25 = .ok (.iload_n 1, 1) := by decide +kernel
theorem dX1_drop_26 : decode cX1_drop 26 = .ok (.bipush 6, 2) := by decide +kernel
theorem dX1_drop_28 : decode cX1_drop 28 = .ok (.imul, 1) := by decide +kernel
theorem dX1_drop_29 : decode cX1_drop 29 = .ok (.aload_n 0, 1) := by decide +kernel
theorem dX1_drop_30 : decode cX1_drop 30 = .ok (.getfield 15, 3) := by decide +kernel
theorem dX1_drop_33 : decode cX1_drop 33 = .ok (.bipush 6, 2) := by decide +kernel
theorem dX1_drop_35 : decode cX1_drop 35 = .ok (.imul, 1) := by decide +kernel
theorem dX1_drop_36 : decode cX1_drop 36 = .ok (.iload_n 2, 1) := by decide +kernel
theorem dX1_drop_37 : decode cX1_drop 37 = .ok (.isub, 1) := by decide +kernel
theorem dX1_drop_38 : decode cX1_drop 38 = .ok (.invokestatic 33, 3) := by decide +kernel
theorem dX1_drop_41 : decode cX1_drop 41 = .ok (.aload_n 0, 1) := by decide +kernel
theorem dX1_drop_42 : decode cX1_drop 42 = .ok (.dup, 1) := by decide +kernel
theorem dX1_drop_43 : decode cX1_drop 43 = .ok (.getfield 15, 3) := by decide +kernel
theorem dX1_drop_46 : decode cX1_drop 46 = .ok (.iconst 1, 1) := by decide +kernel
theorem dX1_drop_47 : decode cX1_drop 47 = .ok (.isub, 1) := by decide +kernel
theorem dX1_drop_48 : decode cX1_drop 48 = .ok (.putfield 15, 3) := by decide +kernel
theorem dX1_drop_51 : decode cX1_drop 51 = .ok (.aload_n 0, 1) := by decide +kernel
theorem dX1_drop_52 : decode cX1_drop 52 = .ok (.dup, 1) := by decide +kernel
theorem dX1_drop_53 : decode cX1_drop 53 = .ok (.getfield 22, 3) := by decide +kernel
theorem dX1_drop_56 : decode cX1_drop 56 = .ok (.iconst 1, 1) := by decide +kernel
theorem dX1_drop_57 : decode cX1_drop 57 = .ok (.iadd, 1) := by decide +kernel
theorem dX1_drop_58 : decode cX1_drop 58 = .ok (.putfield 22, 3) := by decide +kernel
theorem dX1_drop_61 : decode cX1_drop 61 = .ok (.return_, 1) := by decide +kernel
theorem dX1_moveTo_0 : decode cX1_moveTo 0 = .ok (.aload_n 0, 1) := by decide +kernel
theorem dX1_moveTo_1 : decode cX1_moveTo 1 = .ok (.iload_n 1, 1) := by decide +kernel
theorem dX1_moveTo_2 : decode cX1_moveTo 2 = .ok (.putfield 19, 3) := by decide +kernel
theorem dX1_moveTo_5 : decode cX1_moveTo 5 = .ok (.aload_n 0, 1) := by decide +kernel
theorem dX1_moveTo_6 : decode cX1_moveTo 6 = .ok (.dup, 1) := by decide +kernel
theorem dX1_moveTo_7 : decode cX1_moveTo 7 = .ok (.getfield 22, 3) := by decide +kernel
theorem dX1_moveTo_10 : decode cX1_moveTo 10 = .ok (.iconst 1, 1) := by decide +kernel
theorem dX1_moveTo_11 : decode cX1_moveTo 11 = .ok (.iadd, 1) := by decide +kernel
theorem dX1_moveTo_12 : decode cX1_moveTo 12 = .ok (.putfield 22, 3) := by decide +kernel
theorem dX1_moveTo_15 : decode cX1_moveTo 15 = .ok (.return_, 1) := by decide +kernel
theorem dX1_saveTo_0 : decode cX1_saveTo 0 = .ok (.iload_n 2, 1) := by decide +kernel
theorem dX1_saveTo_1 : decode cX1_saveTo 1 = .ok (.ifCond .lt 12, 3) := by decide +kernel
theorem dX1_saveTo_4 : decode cX1_saveTo 4 = .ok (.iload_n 2, 1) := by decide +kernel
theorem dX1_saveTo_5 : decode cX1_saveTo 5 = .ok (.aload_n 1, 1) := by decide +kernel
theorem dX1_saveTo_6 : decode cX1_saveTo 6 = .ok (.arraylength, 1) := by decide +kernel
theorem dX1_saveTo_7 : decode cX1_saveTo 7 = .ok (.bipush 122, 2) := by decide +kernel
theorem dX1_saveTo_9 : decode cX1_saveTo 9 = .ok (.isub, 1) := by decide +kernel
theorem dX1_saveTo_10 : decode cX1_saveTo 10 = .ok (.if_icmp .le 4, 3) := by decide +kernel
theorem dX1_saveTo_13 : decode cX1_saveTo 13 = .ok (.return_, 1) := by decide +kernel
theorem dX1_saveTo_14 : decode cX1_saveTo 14 = .ok (.aload_n 1, 1) := by decide +kernel
theorem dX1_saveTo_15 : decode cX1_saveTo 15 = .ok (.iload_n 2, 1) := by decide +kernel
theorem dX1_saveTo_16 : decode cX1_saveTo 16 = .ok (.aload_n 0, 1) := by decide +kernel
theorem dX1_saveTo_17 : decode cX1_saveTo 17 = .ok (.getfield 19, 3) := by decide +kernel
theorem dX1_saveTo_20 : decode cX1_saveTo 20 = .ok (.iastore, 1) := by decide +kernel
theorem dX1_saveTo_21 : decode cX1_saveTo 21 = .ok (.aload_n 1, 1) := by decide +kernel
theorem dX1_saveTo_22 : decode cX1_saveTo 22 = .ok (.iload_n 2, 1) := by decide +kernel
theorem dX1_saveTo_23 : decode cX1_saveTo 23 = .ok (.iconst 1, 1) := by decide +kernel
theorem dX1_saveTo_24 : decode cX1_saveTo 24 = .ok (.iadd, 1) := by decide +kernel
theorem dX1_saveTo_25 : decode cX1_saveTo 25 = .ok (.aload_n 0, 1) := by decide +kernel
theorem dX1_saveTo_26 : decode cX1_saveTo 26 = .ok (.getfield 15, 3) := by decide +kernel
theorem dX1_saveTo_29 : decode cX1_saveTo 29 = .ok (.iastore, 1) := by decide +kernel
theorem dX1_saveTo_30 : decode cX1_saveTo 30 = .ok (.aload_n 0, 1) := by decide +kernel
theorem dX1_saveTo_31 : decode cX1_saveTo 31 = .ok (.getfield 9, 3) := by decide +kernel
theorem dX1_saveTo_34 : decode cX1_saveTo 34 = .ok (.iconst 0, 1) := by decide +kernel
theorem dX1_saveTo_35 : decode cX1_saveTo 35 = .ok (.aload_n 1, 1) := by decide +kernel
theorem dX1_saveTo_36 : decode cX1_saveTo 36 = .ok (.iload_n 2, 1) := by decide +kernel
theorem dX1_saveTo_37 : decode cX1_saveTo 37 = .ok (.iconst 2, 1) := by decide +kernel
theorem dX1_saveTo_38 : decode cX1_saveTo 38 = .ok (.iadd, 1) := by decide +kernel
theorem dX1_saveTo_39 : decode cX1_saveTo 39 = .ok (.aload_n 0, 1) := by decide +kernel
theorem dX1_saveTo_40 : decode cX1_saveTo 40 = .ok (.getfield 9, 3) := by decide +kernel
theorem dX1_saveTo_43 : decode cX1_saveTo 43 = .ok (.arraylength, 1) := by decide +kernel
theorem dX1_saveTo_44 : decode cX1_saveTo 44 = .ok (.invokestatic 33, 3) := by decide +kernel
theorem dX1_saveTo_47 : decode cX1_saveTo 47 = .ok (.return_, 1) := by decide +kernel
theorem dX1_restoreFrom_0 : decode cX1_restoreFrom 0 = .ok (.iload_n 2, 1) := by decide +kernel
theorem dX1_restoreFrom_1 : decode cX1_restoreFrom 1 = .ok (.ifCond .lt 12, 3) := by decide +kernel
theorem dX1_restoreFrom_4 : decode cX1_restoreFrom 4 = .ok (.iload_n 2, 1) := by decide +kernel
theorem dX1_restoreFrom_5 : decode cX1_restoreFrom 5 = .ok (.aload_n 1, 1) := by decide +kernel
theorem dX1_restoreFrom_6 : decode cX1_restoreFrom 6 = .ok (.arraylength, 1) := by decide +kernel
theorem dX1_restoreFrom_7 : decode cX1_restoreFrom 7 = .ok (.bipush 122, 2) := by decide +kernel
theorem dX1_restoreFrom_9 : decode cX1_restoreFrom 9 = .ok (.isub, 1) := by decide +kernel
theorem dX1_restoreFrom_10 : decode cX1_restoreFrom 10 = .ok (.if_icmp .le 4, 3) := by decide +kernel
theorem dX1_restoreFrom_13 : decode cX1_restoreFrom 13 = .ok (.return_, 1) := by decide +kernel
theorem dX1_restoreFrom_14 : decode cX1_restoreFrom 14 = .ok (.aload_n 0, 1) := by decide +kernel
theorem dX1_restoreFrom_15 : decode cX1_restoreFrom 15 = .ok (.aload_n 1, 1) := by decide +kernel
theorem dX1_restoreFrom_16 : decode cX1_restoreFrom 16 = .ok (.iload_n 2, 1) := by decide +kernel
theorem dX1_restoreFrom_17 : decode cX1_restoreFrom 17 = .ok (.iaload, 1) := by decide +kernel
theorem dX1_restoreFrom_18 : decode cX1_restoreFrom 18 = .ok (.putfield 19, 3) := by decide +kernel
theorem dX1_restoreFrom_21 : decode cX1_restoreFrom 21 = .ok (.aload_n 0, 1) := by decide +kernel
theorem dX1_restoreFrom_22 : decode cX1_restoreFrom 22 = .ok (.aload_n 1, 1) := by decide +kernel
theorem dX1_restoreFrom_23 : decode cX1_restoreFrom 23 = .ok (.iload_n 2, 1) := by decide +kernel
theorem dX1_restoreFrom_24 : decode cX1_restoreFrom 24 = .ok (.iconst 1, 1) := by decide +kernel
theorem dX1_restoreFrom_25 : decode cX1_restoreFrom 25 = .ok (.iadd, 1) := by decide +kernel
theorem dX1_restoreFrom_26 : decode cX1_restoreFrom 26 = .ok (.iaload, 1) := by decide +kernel
theorem dX1_restoreFrom_27 : decode cX1_restoreFrom 27 = .ok (.putfield 15, 3) := by decide +kernel
theorem dX1_restoreFrom_30 : decode cX1_restoreFrom 30 = .ok (.aload_n 1, 1) := by decide +kernel
theorem dX1_restoreFrom_31 : decode cX1_restoreFrom 31 = .ok (.iload_n 2, 1) := by decide +kernel
theorem dX1_restoreFrom_32 : decode cX1_restoreFrom 32 = .ok (.iconst 2, 1) := by decide +kernel
theorem dX1_restoreFrom_33 : decode cX1_restoreFrom 33 = .ok (.iadd, 1) := by decide +kernel
theorem dX1_restoreFrom_34 : decode cX1_restoreFrom 34 = .ok (.aload_n 0, 1) := by decide +kernel
theorem dX1_restoreFrom_35 : decode cX1_restoreFrom 35 = .ok (.getfield 9, 3) := by decide +kernel
theorem dX1_restoreFrom_38 : decode cX1_restoreFrom 38 = .ok (.iconst 0, 1) := by decide +kernel
theorem dX1_restoreFrom_39 : decode cX1_restoreFrom 39 = .ok (.aload_n 0, 1) := by decide +kernel
theorem dX1_restoreFrom_40 : decode cX1_restoreFrom 40 = .ok (.getfield 9, 3) := by decide +kernel
theorem dX1_restoreFrom_43 : decode cX1_restoreFrom 43 = .ok (.arraylength, 1) := by decide +kernel
theorem dX1_restoreFrom_44 : decode cX1_restoreFrom 44 = .ok (.invokestatic 33, 3) := by decide +kernel
theorem dX1_restoreFrom_47 : decode cX1_restoreFrom 47 = .ok (.aload_n 0, 1) := by decide +kernel
theorem dX1_restoreFrom_48 : decode cX1_restoreFrom 48 = .ok (.dup, 1) := by decide +kernel
theorem dX1_restoreFrom_49 : decode cX1_restoreFrom 49 = .ok (.getfield 22, 3) := by decide +kernel
theorem dX1_restoreFrom_52 : decode cX1_restoreFrom 52 = .ok (.iconst 1, 1) := by decide +kernel
theorem dX1_restoreFrom_53 : decode cX1_restoreFrom 53 = .ok (.iadd, 1) := by decide +kernel
theorem dX1_restoreFrom_54 : decode cX1_restoreFrom 54 = .ok (.putfield 22, 3) := by decide +kernel
theorem dX1_restoreFrom_57 : decode cX1_restoreFrom 57 = .ok (.return_, 1) := by decide +kernel
theorem dX1_valueAt_0 : decode cX1_valueAt 0 = .ok (.iload_n 1, 1) := by decide +kernel
theorem dX1_valueAt_1 : decode cX1_valueAt 1 = .ok (.ifCond .lt 11, 3) := by decide +kernel
theorem dX1_valueAt_4 : decode cX1_valueAt 4 = .ok (.iload_n 1, 1) := by decide +kernel
theorem dX1_valueAt_5 : decode cX1_valueAt 5 = .ok (.aload_n 0, 1) := by decide +kernel
theorem dX1_valueAt_6 : decode cX1_valueAt 6 = .ok (.getfield 15, 3) := by decide +kernel
theorem dX1_valueAt_9 : decode cX1_valueAt 9 = .ok (.if_icmp .lt 5, 3) := by decide +kernel
theorem dX1_valueAt_12 : decode cX1_valueAt 12 = .ok (.iconst 0, 1) := by decide +kernel
theorem dX1_valueAt_13 : decode cX1_valueAt 13 = .ok (.ireturn, 1) := by decide +kernel
theorem dX1_valueAt_14 : decode cX1_valueAt 14 = .ok (.aload_n 0, 1) := by decide +kernel
theorem dX1_valueAt_15 : decode cX1_valueAt 15 = .ok (.getfield 9, 3) := by decide +kernel
theorem dX1_valueAt_18 : decode cX1_valueAt 18 = .ok (.iload_n 1, 1) := by decide +kernel
theorem dX1_valueAt_19 : decode cX1_valueAt 19 = .ok (.bipush 6, 2) := by decide +kernel
theorem dX1_valueAt_21 : decode cX1_valueAt 21 = .ok (.imul, 1) := by decide +kernel
theorem dX1_valueAt_22 : decode cX1_valueAt 22 = .ok (.iconst 0, 1) := by decide +kernel
theorem dX1_valueAt_23 : decode cX1_valueAt 23 = .ok (.iadd, 1) := by decide +kernel
theorem dX1_valueAt_24 : decode cX1_valueAt 24 = .ok (.iaload, 1) := by decide +kernel
theorem dX1_valueAt_25 : decode cX1_valueAt 25 = .ok (.iload_n 2, 1) := by decide +kernel
theorem dX1_valueAt_26 : decode cX1_valueAt 26 = .ok (.imul, 1) := by decide +kernel
theorem dX1_valueAt_27 : decode cX1_valueAt 27 = .ok (.aload_n 0, 1) := by decide +kernel
theorem dX1_valueAt_28 : decode cX1_valueAt 28 = .ok (.getfield 9, 3) := by decide +kernel
theorem dX1_valueAt_31 : decode cX1_valueAt 31 = .ok (.iload_n 1, 1) := by decide +kernel
theorem dX1_valueAt_32 : decode cX1_valueAt 32 = .ok (.bipush 6, 2) := by decide +kernel
theorem dX1_valueAt_34 : decode cX1_valueAt 34 = .ok (.imul, 1) := by decide +kernel
theorem dX1_valueAt_35 : decode cX1_valueAt 35 = .ok (.iconst 1, 1) := by decide +kernel
theorem dX1_valueAt_36 : decode cX1_valueAt 36 = .ok (.iadd, 1) := by decide +kernel
theorem dX1_valueAt_37 : decode cX1_valueAt 37 = .ok (.iaload, 1) := by decide +kernel
theorem dX1_valueAt_38 : decode cX1_valueAt 38 = .ok (.iadd, 1) := by decide +kernel
theorem dX1_valueAt_39 : decode cX1_valueAt 39 = .ok (.ireturn, 1) := by decide +kernel
theorem dX1_spans_0 : decode cX1_spans 0 = .ok (.aload_n 0, 1) := by decide +kernel
theorem dX1_spans_1 : decode cX1_spans 1 = .ok (.iload_n 1, 1) := by decide +kernel
theorem dX1_spans_2 : decode cX1_spans 2 = .ok (.iconst 2, 1) := by decide +kernel
theorem dX1_spans_3 : decode cX1_spans 3 = .ok (.invokevirtual 39, 3) := by decide +kernel
theorem dX1_spans_6 : decode cX1_spans 6 = .ok (.iload_n 2, 1) := by decide +kernel
theorem dX1_spans_7 : decode cX1_spans 7 = .ok (.if_icmp .gt 17, 3) := by decide +kernel
theorem dX1_spans_10 : decode cX1_spans 10 = .ok (.iload_n 2, 1) := by decide +kernel
theorem dX1_spans_11 : decode cX1_spans 11 = .ok (.aload_n 0, 1) := by decide +kernel
theorem dX1_spans_12 : decode cX1_spans 12 = .ok (.iload_n 1, 1) := by decide +kernel
theorem dX1_spans_13 : decode cX1_spans 13 = .ok (.iconst 3, 1) := by decide +kernel
theorem dX1_spans_14 : decode cX1_spans 14 = .ok (.invokevirtual 39, 3) := by decide +kernel
theorem dX1_spans_17 : decode cX1_spans 17 = .ok (.if_icmp .gt 7, 3) := by decide +kernel
theorem dX1_spans_20 : decode cX1_spans 20 = .ok (.iconst 1, 1) := by decide +kernel
theorem dX1_spans_21 : decode cX1_spans 21 = .ok (.goto 4, 3) := by decide +kernel
theorem dX1_spans_24 : decode cX1_spans 24 = .ok (.iconst 0, 1) := by decide +kernel
theorem dX1_spans_25 : decode cX1_spans 25 = .ok (.ireturn, 1) := by decide +kernel
theorem dX1_lives_0 : decode cX1_lives 0 = .ok (.aload_n 0, 1) := by decide +kernel
theorem dX1_lives_1 : decode cX1_lives 1 = .ok (.iload_n 1, 1) := by decide +kernel
theorem dX1_lives_2 : decode cX1_lives 2 = .ok (.iconst 4, 1) := by decide +kernel
theorem dX1_lives_3 : decode cX1_lives 3 = .ok (.invokevirtual 39, 3) := by decide +kernel
theorem dX1_lives_6 : decode cX1_lives 6 = .ok (.iload_n 2, 1) := by decide +kernel
theorem dX1_lives_7 : decode cX1_lives 7 = .ok (.if_icmp .gt 17, 3) := by decide +kernel
theorem dX1_lives_10 : decode cX1_lives 10 = .ok (.iload_n 2, 1) := by decide +kernel
theorem dX1_lives_11 : decode cX1_lives 11 = .ok (.aload_n 0, 1) := by decide +kernel
theorem dX1_lives_12 : decode cX1_lives 12 = .ok (.iload_n 1, 1) := by decide +kernel
theorem dX1_lives_13 : decode cX1_lives 13 = .ok (.iconst 5, 1) := by decide +kernel
theorem dX1_lives_14 : decode cX1_lives 14 = .ok (.invokevirtual 39, 3) := by decide +kernel
theorem dX1_lives_17 : decode cX1_lives 17 = .ok (.if_icmp .gt 7, 3) := by decide +kernel
theorem dX1_lives_20 : decode cX1_lives 20 = .ok (.iconst 1, 1) := by decide +kernel
theorem dX1_lives_21 : decode cX1_lives 21 = .ok (.goto 4, 3) := by decide +kernel
theorem dX1_lives_24 : decode cX1_lives 24 = .ok (.iconst 0, 1) := by decide +kernel
theorem dX1_lives_25 : decode cX1_lives 25 = .ok (.ireturn, 1) := by decide +kernel
theorem dX1_counts_0 : decode cX1_counts 0 = .ok (.iload_n 1, 1) := by decide +kernel
theorem dX1_counts_1 : decode cX1_counts 1 = .ok (.ifCond .lt 11, 3) := by decide +kernel
theorem dX1_counts_4 : decode cX1_counts 4 = .ok (.iload_n 1, 1) := by decide +kernel
theorem dX1_counts_5 : decode cX1_counts 5 = .ok (.aload_n 0, 1) := by decide +kernel
theorem dX1_counts_6 : decode cX1_counts 6 = .ok (.getfield 15, 3) := by decide +kernel
theorem dX1_counts_9 : decode cX1_counts 9 = .ok (.if_icmp .lt 5, 3) := by decide +kernel
theorem dX1_counts_12 : decode cX1_counts 12 = .ok (.iconst 0, 1) := by decide +kernel
theorem dX1_counts_13 : decode cX1_counts 13 = .ok (.ireturn, 1) := by decide +kernel
theorem dX1_counts_14 : decode cX1_counts 14 = .ok (.iload_n 1, 1) := by decide +kernel
theorem dX1_counts_15 : decode cX1_counts 15 = .ok (.bipush 6, 2) := by decide +kernel
theorem dX1_counts_17 : decode cX1_counts 17 = .ok (.imul, 1) := by decide +kernel
theorem dX1_counts_18 : decode cX1_counts 18 = .ok (.istore 4, 2) := by decide +kernel
theorem dX1_counts_20 : decode cX1_counts 20 = .ok (.aload_n 0, 1) := by decide +kernel
theorem dX1_counts_21 : decode cX1_counts 21 = .ok (.getfield 9, 3) := by decide +kernel
theorem dX1_counts_24 : decode cX1_counts 24 = .ok (.iload 4, 2) := by decide +kernel
theorem dX1_counts_26 : decode cX1_counts 26 = .ok (.iconst 2, 1) := by decide +kernel
theorem dX1_counts_27 : decode cX1_counts 27 = .ok (.iadd, 1) := by decide +kernel
theorem dX1_counts_28 : decode cX1_counts 28 = .ok (.iaload, 1) := by decide +kernel
theorem dX1_counts_29 : decode cX1_counts 29 = .ok (.iload_n 2, 1) := by decide +kernel
theorem dX1_counts_30 : decode cX1_counts 30 = .ok (.if_icmp .gt 46, 3) := by decide +kernel
theorem dX1_counts_33 : decode cX1_counts 33 = .ok (.iload_n 2, 1) := by decide +kernel
theorem dX1_counts_34 : decode cX1_counts 34 = .ok (.aload_n 0, 1) := by decide +kernel
theorem dX1_counts_35 : decode cX1_counts 35 = .ok (.getfield 9, 3) := by decide +kernel
theorem dX1_counts_38 : decode cX1_counts 38 = .ok (.iload 4, 2) := by decide +kernel
theorem dX1_counts_40 : decode cX1_counts 40 = .ok (.iconst 3, 1) := by decide +kernel
theorem dX1_counts_41 : decode cX1_counts 41 = .ok (.iadd, 1) := by decide +kernel
theorem dX1_counts_42 : decode cX1_counts 42 = .ok (.iaload, 1) := by decide +kernel
theorem dX1_counts_43 : decode cX1_counts 43 = .ok (.if_icmp .gt 33, 3) := by decide +kernel
theorem dX1_counts_46 : decode cX1_counts 46 = .ok (.aload_n 0, 1) := by decide +kernel
theorem dX1_counts_47 : decode cX1_counts 47 = .ok (.getfield 9, 3) := by decide +kernel
theorem dX1_counts_50 : decode cX1_counts 50 = .ok (.iload 4, 2) := by decide +kernel
theorem dX1_counts_52 : decode cX1_counts 52 = .ok (.iconst 4, 1) := by decide +kernel
theorem dX1_counts_53 : decode cX1_counts 53 = .ok (.iadd, 1) := by decide +kernel
theorem dX1_counts_54 : decode cX1_counts 54 = .ok (.iaload, 1) := by decide +kernel
theorem dX1_counts_55 : decode cX1_counts 55 = .ok (.iload_n 3, 1) := by decide +kernel
theorem dX1_counts_56 : decode cX1_counts 56 = .ok (.if_icmp .gt 20, 3) := by decide +kernel
theorem dX1_counts_59 : decode cX1_counts 59 = .ok (.iload_n 3, 1) := by decide +kernel
theorem dX1_counts_60 : decode cX1_counts 60 = .ok (.aload_n 0, 1) := by decide +kernel
theorem dX1_counts_61 : decode cX1_counts 61 = .ok (.getfield 9, 3) := by decide +kernel
theorem dX1_counts_64 : decode cX1_counts 64 = .ok (.iload 4, 2) := by decide +kernel
theorem dX1_counts_66 : decode cX1_counts 66 = .ok (.iconst 5, 1) := by decide +kernel
theorem dX1_counts_67 : decode cX1_counts 67 = .ok (.iadd, 1) := by decide +kernel
theorem dX1_counts_68 : decode cX1_counts 68 = .ok (.iaload, 1) := by decide +kernel
theorem dX1_counts_69 : decode cX1_counts 69 = .ok (.if_icmp .gt 7, 3) := by decide +kernel
theorem dX1_counts_72 : decode cX1_counts 72 = .ok (.iconst 1, 1) := by decide +kernel
theorem dX1_counts_73 : decode cX1_counts 73 = .ok (.goto 4, 3) := by decide +kernel
theorem dX1_counts_76 : decode cX1_counts 76 = .ok (.iconst 0, 1) := by decide +kernel
theorem dX1_counts_77 : decode cX1_counts 77 = .ok (.ireturn, 1) := by decide +kernel
theorem dX1_living_0 : decode cX1_living 0 = .ok (.iconst 0, 1) := by decide +kernel
theorem dX1_living_1 : decode cX1_living 1 = .ok (.istore_n 1, 1) := by decide +kernel
theorem dX1_living_2 : decode cX1_living 2 = .ok (.iconst 0, 1) := by decide +kernel
theorem dX1_living_3 : decode cX1_living 3 = .ok (.istore_n 2, 1) := by decide +kernel
theorem dX1_living_4 : decode cX1_living 4 = .ok (.iload_n 2, 1) := by decide +kernel
theorem dX1_living_5 : decode cX1_living 5 = .ok (.aload_n 0, 1) := by decide +kernel
theorem dX1_living_6 : decode cX1_living 6 = .ok (.getfield 15, 3) := by decide +kernel
theorem dX1_living_9 : decode cX1_living 9 = .ok (.if_icmp .ge 24, 3) := by decide +kernel
theorem dX1_living_12 : decode cX1_living 12 = .ok (.aload_n 0, 1) := by decide +kernel
theorem dX1_living_13 : decode cX1_living 13 = .ok (.iload_n 2, 1) := by decide +kernel
theorem dX1_living_14 : decode cX1_living 14 = .ok (.aload_n 0, 1) := by decide +kernel
theorem dX1_living_15 : decode cX1_living 15 = .ok (.getfield 19, 3) := by decide +kernel
theorem dX1_living_18 : decode cX1_living 18 = .ok (.invokevirtual 43, 3) := by decide +kernel
theorem dX1_living_21 : decode cX1_living 21 = .ok (.ifCond .eq 6, 3) := by decide +kernel
theorem dX1_living_24 : decode cX1_living 24 = .ok (.iinc 1 1, 3) := by decide +kernel
theorem dX1_living_27 : decode cX1_living 27 = .ok (.iinc 2 1, 3) := by decide +kernel
theorem dX1_living_30 : decode cX1_living 30 = .ok (.goto (-26), 3) := by decide +kernel
theorem dX1_living_33 : decode cX1_living 33 = .ok (.iload_n 1, 1) := by decide +kernel
theorem dX1_living_34 : decode cX1_living 34 = .ok (.ireturn, 1) := by decide +kernel
theorem dX1_livesChangeAt_0 : decode cX1_livesChangeAt 0 = .ok (.iconst 0, 1) := by decide +kernel
theorem dX1_livesChangeAt_1 : decode cX1_livesChangeAt 1 = .ok (.istore_n 2, 1) := by decide +kernel
theorem dX1_livesChangeAt_2 : decode cX1_livesChangeAt 2 = .ok (.iload_n 2, 1) := by decide +kernel
theorem dX1_livesChangeAt_3 : decode cX1_livesChangeAt 3 = .ok (.aload_n 0, 1) := by decide +kernel
theorem dX1_livesChangeAt_4 : decode cX1_livesChangeAt 4 = .ok (.getfield 15, 3) := by decide +kernel
theorem dX1_livesChangeAt_7 : decode cX1_livesChangeAt 7 = .ok (.if_icmp .ge 28, 3) := by decide +kernel
theorem dX1_livesChangeAt_10 : decode cX1_livesChangeAt 10 = .ok (.aload_n 0, 1) := by decide +kernel
theorem dX1_livesChangeAt_11 : decode cX1_livesChangeAt 11 = .ok (.iload_n 2, 1) := by decide +kernel
theorem dX1_livesChangeAt_12 : decode cX1_livesChangeAt 12 = .ok (.iload_n 1, 1) := by decide +kernel
theorem dX1_livesChangeAt_13 : decode cX1_livesChangeAt 13 = .ok (.invokevirtual 43, 3) := by decide +kernel
theorem dX1_livesChangeAt_16 : decode cX1_livesChangeAt 16 = .ok (.aload_n 0, 1) := by decide +kernel
theorem dX1_livesChangeAt_17 : decode cX1_livesChangeAt 17 = .ok (.iload_n 2, 1) := by decide +kernel
theorem dX1_livesChangeAt_18 : decode cX1_livesChangeAt 18 = .ok (.iload_n 1, 1) := by decide +kernel
theorem dX1_livesChangeAt_19 : decode cX1_livesChangeAt 19 = .ok (.iconst 1, 1) := by decide +kernel
theorem dX1_livesChangeAt_20 : decode cX1_livesChangeAt 20 = .ok (.isub, 1) := by decide +kernel
theorem dX1_livesChangeAt_21 : decode cX1_livesChangeAt 21 = .ok (.invokevirtual 43, 3) := by decide +kernel
theorem dX1_livesChangeAt_24 : decode cX1_livesChangeAt 24 = .ok (.if_icmp .eq 5, 3) := by decide +kernel
theorem dX1_livesChangeAt_27 : decode cX1_livesChangeAt 27 = .ok (.iconst 1, 1) := by decide +kernel
theorem dX1_livesChangeAt_28 : decode cX1_livesChangeAt 28 = .ok (.ireturn, 1) := by decide +kernel
theorem dX1_livesChangeAt_29 : decode cX1_livesChangeAt 29 = .ok (.iinc 2 1, 3) := by decide +kernel
theorem dX1_livesChangeAt_32 : decode cX1_livesChangeAt 32 = .ok (.goto (-30), 3) := by decide +kernel
theorem dX1_livesChangeAt_35 : decode cX1_livesChangeAt 35 = .ok (.iconst 0, 1) := by decide +kernel
theorem dX1_livesChangeAt_36 : decode cX1_livesChangeAt 36 = .ok (.ireturn, 1) := by decide +kernel
theorem dX1_isLower_0 : decode cX1_isLower 0 = .ok (.aload_n 0, 1) := by decide +kernel
theorem dX1_isLower_1 : decode cX1_isLower 1 = .ok (.iload_n 1, 1) := by decide +kernel
theorem dX1_isLower_2 : decode cX1_isLower 2 = .ok (.iload_n 3, 1) := by decide +kernel
theorem dX1_isLower_3 : decode cX1_isLower 3 = .ok (.invokevirtual 47, 3) := by decide +kernel
theorem dX1_isLower_6 : decode cX1_isLower 6 = .ok (.aload_n 0, 1) := by decide +kernel
theorem dX1_isLower_7 : decode cX1_isLower 7 = .ok (.iload_n 2, 1) := by decide +kernel
theorem dX1_isLower_8 : decode cX1_isLower 8 = .ok (.iload_n 3, 1) := by decide +kernel
theorem dX1_isLower_9 : decode cX1_isLower 9 = .ok (.invokevirtual 47, 3) := by decide +kernel
theorem dX1_isLower_12 : decode cX1_isLower 12 = .ok (.isub, 1) := by decide +kernel
theorem dX1_isLower_13 : decode cX1_isLower 13 = .ok (.istore 4, 2) := by decide +kernel
theorem dX1_isLower_15 : decode cX1_isLower 15 = .ok (.iload 4, 2) := by decide +kernel
theorem dX1_isLower_17 : decode cX1_isLower 17 = .ok (.ifCond .lt 13, 3) := by decide +kernel
theorem dX1_isLower_20 : decode cX1_isLower 20 = .ok (.iload 4, 2) := by decide +kernel
theorem dX1_isLower_22 : decode cX1_isLower 22 = .ok (.ifCond .ne 12, 3) := by decide +kernel
theorem dX1_isLower_25 : decode cX1_isLower 25 = .ok (.iload_n 1, 1) := by decide +kernel
theorem dX1_isLower_26 : decode cX1_isLower 26 = .ok (.iload_n 2, 1) := by decide +kernel
theorem dX1_isLower_27 : decode cX1_isLower 27 = .ok (.if_icmp .ge 7, 3) := by decide +kernel
theorem dX1_isLower_30 : decode cX1_isLower 30 = .ok (.iconst 1, 1) := by decide +kernel
theorem dX1_isLower_31 : decode cX1_isLower 31 = .ok (.goto 4, 3) := by decide +kernel
theorem dX1_isLower_34 : decode cX1_isLower 34 = .ok (.iconst 0, 1) := by decide +kernel
theorem dX1_isLower_35 : decode cX1_isLower 35 = .ok (.ireturn, 1) := by decide +kernel
theorem dX1_rankOf_0 : decode cX1_rankOf 0 = .ok (.iconst 0, 1) := by decide +kernel
theorem dX1_rankOf_1 : decode cX1_rankOf 1 = .ok (.istore_n 3, 1) := by decide +kernel
theorem dX1_rankOf_2 : decode cX1_rankOf 2 = .ok (.iconst 0, 1) := by decide +kernel
theorem dX1_rankOf_3 : decode cX1_rankOf 3 = .ok (.istore 4, 2) := by decide +kernel
theorem dX1_rankOf_5 : decode cX1_rankOf 5 = .ok (.iload 4, 2) := by decide +kernel
theorem dX1_rankOf_7 : decode cX1_rankOf 7 = .ok (.aload_n 0, 1) := by decide +kernel
theorem dX1_rankOf_8 : decode cX1_rankOf 8 = .ok (.getfield 15, 3) := by decide +kernel
theorem dX1_rankOf_11 : decode cX1_rankOf 11 = .ok (.if_icmp .ge 37, 3) := by decide +kernel
theorem dX1_rankOf_14 : decode cX1_rankOf 14 = .ok (.aload_n 0, 1) := by decide +kernel
theorem dX1_rankOf_15 : decode cX1_rankOf 15 = .ok (.iload 4, 2) := by decide +kernel
theorem dX1_rankOf_17 : decode cX1_rankOf 17 = .ok (.iload_n 2, 1) := by decide +kernel
theorem dX1_rankOf_18 : decode cX1_rankOf 18 = .ok (.aload_n 0, 1) := by decide +kernel
theorem dX1_rankOf_19 : decode cX1_rankOf 19 = .ok (.getfield 19, 3) := by decide +kernel
theorem dX1_rankOf_22 : decode cX1_rankOf 22 = .ok (.invokevirtual 50, 3) := by decide +kernel
theorem dX1_rankOf_25 : decode cX1_rankOf 25 = .ok (.ifCond .eq 17, 3) := by decide +kernel
theorem dX1_rankOf_28 : decode cX1_rankOf 28 = .ok (.aload_n 0, 1) := by decide +kernel
theorem dX1_rankOf_29 : decode cX1_rankOf 29 = .ok (.iload 4, 2) := by decide +kernel
theorem dX1_rankOf_31 : decode cX1_rankOf 31 = .ok (.iload_n 1, 1) := by decide +kernel
theorem dX1_rankOf_32 : decode cX1_rankOf 32 = .ok (.iload_n 2, 1) := by decide +kernel
theorem dX1_rankOf_33 : decode cX1_rankOf 33 = .ok (.invokevirtual 54, 3) := by decide +kernel
theorem dX1_rankOf_36 : decode cX1_rankOf 36 = .ok (.ifCond .eq 6, 3) := by decide +kernel
theorem dX1_rankOf_39 : decode cX1_rankOf 39 = .ok (.iinc 3 1, 3) := by decide +kernel
theorem dX1_rankOf_42 : decode cX1_rankOf 42 = .ok (.iinc 4 1, 3) := by decide +kernel
theorem dX1_rankOf_45 : decode cX1_rankOf 45 = .ok (.goto (-40), 3) := by decide +kernel
theorem dX1_rankOf_48 : decode cX1_rankOf 48 = .ok (.iload_n 3, 1) := by decide +kernel
theorem dX1_rankOf_49 : decode cX1_rankOf 49 = .ok (.ireturn, 1) := by decide +kernel
theorem dX1_lowestBut_0 : decode cX1_lowestBut 0 = .ok (.iconst (-1), 1) := by decide +kernel
theorem dX1_lowestBut_1 : decode cX1_lowestBut 1 = .ok (.istore 4, 2) := by decide +kernel
theorem dX1_lowestBut_3 : decode cX1_lowestBut 3 = .ok (.iconst 0, 1) := by decide +kernel
theorem dX1_lowestBut_4 : decode cX1_lowestBut 4 = .ok (.istore 5, 2) := by decide +kernel
theorem dX1_lowestBut_6 : decode cX1_lowestBut 6 = .ok (.iconst 0, 1) := by decide +kernel
theorem dX1_lowestBut_7 : decode cX1_lowestBut 7 = .ok (.istore 6, 2) := by decide +kernel
theorem dX1_lowestBut_9 : decode cX1_lowestBut 9 = .ok (.iload 6, 2) := by decide +kernel
theorem dX1_lowestBut_11 : decode cX1_lowestBut 11 = .ok (.aload_n 0, 1) := by decide +kernel
theorem dX1_lowestBut_12 : decode cX1_lowestBut 12 = .ok (.getfield 15, 3) := by decide +kernel
theorem dX1_lowestBut_15 : decode cX1_lowestBut 15 = .ok (.if_icmp .ge 56, 3) := by decide +kernel
theorem dX1_lowestBut_18 : decode cX1_lowestBut 18 = .ok (.iload 6, 2) := by decide +kernel
theorem dX1_lowestBut_20 : decode cX1_lowestBut 20 = .ok (.iload_n 1, 1) := by decide +kernel
theorem dX1_lowestBut_21 : decode cX1_lowestBut 21 = .ok (.if_icmp .eq 44, 3) := by decide +kernel
theorem dX1_lowestBut_24 : decode cX1_lowestBut 24 = .ok (.aload_n 0, 1) := by decide +kernel
theorem dX1_lowestBut_25 : decode cX1_lowestBut 25 = .ok (.iload 6, 2) := by decide +kernel
theorem dX1_lowestBut_27 : decode cX1_lowestBut 27 = .ok (.iload_n 2, 1) := by decide +kernel
theorem dX1_lowestBut_28 : decode cX1_lowestBut 28 = .ok (.iload_n 3, 1) := by decide +kernel
theorem dX1_lowestBut_29 : decode cX1_lowestBut 29 = .ok (.invokevirtual 50, 3) := by decide +kernel
theorem dX1_lowestBut_32 : decode cX1_lowestBut 32 = .ok (.ifCond .eq 33, 3) := by decide +kernel
theorem dX1_lowestBut_35 : decode cX1_lowestBut 35 = .ok (.aload_n 0, 1) := by decide +kernel
theorem dX1_lowestBut_36 : decode cX1_lowestBut 36 = .ok (.iload 6, 2) := by decide +kernel
theorem dX1_lowestBut_38 : decode cX1_lowestBut 38 = .ok (.iload_n 2, 1) := by decide +kernel
theorem dX1_lowestBut_39 : decode cX1_lowestBut 39 = .ok (.invokevirtual 47, 3) := by decide +kernel
theorem dX1_lowestBut_42 : decode cX1_lowestBut 42 = .ok (.istore 7, 2) := by decide +kernel
theorem dX1_lowestBut_44 : decode cX1_lowestBut 44 = .ok (.iload 4, 2) := by decide +kernel
theorem dX1_lowestBut_46 : decode cX1_lowestBut 46 = .ok (.iconst (-1), 1) := by decide +kernel
theorem dX1_lowestBut_47 : decode cX1_lowestBut 47 = .ok (.if_icmp .eq 10, 3) := by decide +kernel
theorem dX1_lowestBut_50 : decode cX1_lowestBut 50 = .ok (.iload 7, 2) := by decide +kernel
theorem dX1_lowestBut_52 : decode cX1_lowestBut 52 = .ok (.iload 5, 2) := by decide +kernel
theorem dX1_lowestBut_54 : decode cX1_lowestBut 54 = .ok (.if_icmp .ge 11, 3) := by decide +kernel
theorem dX1_lowestBut_57 : decode cX1_lowestBut 57 = .ok (.iload 6, 2) := by decide +kernel
theorem dX1_lowestBut_59 : decode cX1_lowestBut 59 = .ok (.istore 4, 2) := by decide +kernel
theorem dX1_lowestBut_61 : decode cX1_lowestBut 61 = .ok (.iload 7, 2) := by decide +kernel
theorem dX1_lowestBut_63 : decode cX1_lowestBut 63 = .ok (.istore 5, 2) := by decide +kernel
theorem dX1_lowestBut_65 : decode cX1_lowestBut 65 = .ok (.iinc 6 1, 3) := by decide +kernel
theorem dX1_lowestBut_68 : decode cX1_lowestBut 68 = .ok (.goto (-59), 3) := by decide +kernel
theorem dX1_lowestBut_71 : decode cX1_lowestBut 71 = .ok (.iload 4, 2) := by decide +kernel
theorem dX1_lowestBut_73 : decode cX1_lowestBut 73 = .ok (.ireturn, 1) := by decide +kernel
theorem dX2_init_0 : decode cX2_init 0 = .ok (.aload_n 0, 1) := by decide +kernel
theorem dX2_init_1 : decode cX2_init 1 = .ok (.invokespecial 3, 3) := by decide +kernel
theorem dX2_init_4 : decode cX2_init 4 = .ok (.aload_n 0, 1) := by decide +kernel
theorem dX2_init_5 : decode cX2_init 5 = .ok (.bipush 64, 2) := by decide +kernel
theorem dX2_init_7 : decode cX2_init 7 = .ok (.newarray .int, 2) := by decide +kernel
theorem dX2_init_9 : decode cX2_init 9 = .ok (.putfield 9, 3) := by decide +kernel
theorem dX2_init_12 : decode cX2_init 12 = .ok (.aload_n 0, 1) := by decide +kernel
theorem dX2_init_13 : decode cX2_init 13 = .ok (.bipush 65, 2) := by decide +kernel
theorem dX2_init_15 : decode cX2_init 15 = .ok (.newarray .int, 2) := by decide +kernel
theorem dX2_init_17 : decode cX2_init 17 = .ok (.putfield 15, 3) := by decide +kernel
theorem dX2_init_20 : decode cX2_init 20 = .ok (.aload_n 0, 1) := by decide +kernel
theorem dX2_init_21 : decode cX2_init 21 = .ok (.iconst 0, 1) := by decide +kernel
theorem dX2_init_22 : decode cX2_init 22 = .ok (.putfield 18, 3) := by decide +kernel
theorem dX2_init_25 : decode cX2_init 25 = .ok (.aload_n 0, 1) := by decide +kernel
theorem dX2_init_26 : decode cX2_init 26 = .ok (.iconst (-1), 1) := by decide +kernel
theorem dX2_init_27 : decode cX2_init 27 = .ok (.putfield 22, 3) := by decide +kernel
theorem dX2_init_30 : decode cX2_init 30 = .ok (.aload_n 0, 1) := by decide +kernel
theorem dX2_init_31 : decode cX2_init 31 = .ok (.aload_n 1, 1) := by decide +kernel
theorem dX2_init_32 : decode cX2_init 32 = .ok (.putfield 25, 3) := by decide +kernel
theorem dX2_init_35 : decode cX2_init 35 = .ok (.return_, 1) := by decide +kernel
theorem dX2_lineAt_0 : decode cX2_lineAt 0 = .ok (.aload_n 0, 1) := by decide +kernel
theorem dX2_lineAt_1 : decode cX2_lineAt 1 = .ok (.invokevirtual 29, 3) := by decide +kernel
theorem dX2_lineAt_4 : decode cX2_lineAt 4 = .ok (.iload_n 1, 1) := by decide +kernel
theorem dX2_lineAt_5 : decode cX2_lineAt 5 = .ok (.ifCond .lt 9, 3) := by decide +kernel
theorem dX2_lineAt_8 : decode cX2_lineAt 8 = .ok (.iload_n 1, 1) := by decide +kernel
theorem dX2_lineAt_9 : decode cX2_lineAt 9 = .ok (.bipush 64, 2) := by decide +kernel
theorem dX2_lineAt_11 : decode cX2_lineAt 11 = .ok (.if_icmp .lt 7, 3) := by decide +kernel
theorem dX2_lineAt_14 : decode cX2_lineAt 14 = .ok (.iconst (-1), 1) := by decide +kernel
theorem dX2_lineAt_15 : decode cX2_lineAt 15 = .ok (.goto 9, 3) := by decide +kernel
theorem dX2_lineAt_18 : decode cX2_lineAt 18 = .ok (.aload_n 0, 1) := by decide +kernel
theorem dX2_lineAt_19 : decode cX2_lineAt 19 = .ok (.getfield 9, 3) := by decide +kernel
theorem dX2_lineAt_22 : decode cX2_lineAt 22 = .ok (.iload_n 1, 1) := by decide +kernel
theorem dX2_lineAt_23 : decode cX2_lineAt 23 = .ok (.iaload, 1) := by decide +kernel
theorem dX2_lineAt_24 : decode cX2_lineAt 24 = .ok (.ireturn, 1) := by decide +kernel
theorem dX2_placesOf_0 : decode cX2_placesOf 0 = .ok (.aload_n 0, 1) := by decide +kernel
theorem dX2_placesOf_1 : decode cX2_placesOf 1 = .ok (.invokevirtual 29, 3) := by decide +kernel
theorem dX2_placesOf_4 : decode cX2_placesOf 4 = .ok (.iconst 0, 1) := by decide +kernel
theorem dX2_placesOf_5 : decode cX2_placesOf 5 = .ok (.istore_n 2, 1) := by decide +kernel
theorem dX2_placesOf_6 : decode cX2_placesOf 6 = .ok (.iconst 0, 1) := by decide +kernel
theorem dX2_placesOf_7 : decode cX2_placesOf 7 = .ok (.istore_n 3, 1) := by decide +kernel
theorem dX2_placesOf_8 : decode cX2_placesOf 8 = .ok (.iload_n 3, 1) := by decide +kernel
theorem dX2_placesOf_9 : decode cX2_placesOf 9 = .ok (.bipush 64, 2) := by decide +kernel
theorem dX2_placesOf_11 : decode cX2_placesOf 11 = .ok (.if_icmp .ge 22, 3) := by decide +kernel
theorem dX2_placesOf_14 : decode cX2_placesOf 14 = .ok (.aload_n 0, 1) := by decide +kernel
theorem dX2_placesOf_15 : decode cX2_placesOf 15 = .ok (.getfield 9, 3) := by decide +kernel
theorem dX2_placesOf_18 : decode cX2_placesOf 18 = .ok (.iload_n 3, 1) := by decide +kernel
theorem dX2_placesOf_19 : decode cX2_placesOf 19 = .ok (.iaload, 1) := by decide +kernel
theorem dX2_placesOf_20 : decode cX2_placesOf 20 = .ok (.iload_n 1, 1) := by decide +kernel
theorem dX2_placesOf_21 : decode cX2_placesOf 21 = .ok (.if_icmp .ne 6, 3) := by decide +kernel
theorem dX2_placesOf_24 : decode cX2_placesOf 24 = .ok (.iinc 2 1, 3) := by decide +kernel
theorem dX2_placesOf_27 : decode cX2_placesOf 27 = .ok (.iinc 3 1, 3) := by decide +kernel
theorem dX2_placesOf_30 : decode cX2_placesOf 30 = .ok (.goto (-22), 3) := by decide +kernel
theorem dX2_placesOf_33 : decode cX2_placesOf 33 = .ok (.iload_n 2, 1) := by decide +kernel
theorem dX2_placesOf_34 : decode cX2_placesOf 34 = .ok (.ireturn, 1) := by decide +kernel
theorem dX2_rowCount_0 : decode cX2_rowCount 0 = .ok (.aload_n 0, 1) := by decide +kernel
theorem dX2_rowCount_1 : decode cX2_rowCount 1 = .ok (.invokevirtual 29, 3) := by decide +kernel
theorem dX2_rowCount_4 : decode cX2_rowCount 4 = .ok (.aload_n 0, 1) := by decide +kernel
theorem dX2_rowCount_5 : decode cX2_rowCount 5 = .ok (.getfield 18, 3) := by decide +kernel
theorem dX2_rowCount_8 : decode cX2_rowCount 8 = .ok (.ireturn, 1) := by decide +kernel
theorem dX2_rowStart_0 : decode cX2_rowStart 0 = .ok (.aload_n 0, 1) := by decide +kernel
theorem dX2_rowStart_1 : decode cX2_rowStart 1 = .ok (.invokevirtual 29, 3) := by decide +kernel
theorem dX2_rowStart_4 : decode cX2_rowStart 4 = .ok (.iload_n 1, 1) := by decide +kernel
theorem dX2_rowStart_5 : decode cX2_rowStart 5 = .ok (.ifCond .lt 11, 3) := by decide +kernel
theorem dX2_rowStart_8 : decode cX2_rowStart 8 = .ok (.iload_n 1, 1) := by decide +kernel
theorem dX2_rowStart_9 : decode cX2_rowStart 9 = .ok (.aload_n 0, 1) := by decide +kernel
theorem dX2_rowStart_10 : decode cX2_rowStart 10 = .ok (.getfield 18, 3) := by decide +kernel
theorem dX2_rowStart_13 : decode cX2_rowStart 13 = .ok (.if_icmp .le 7, 3) := by decide +kernel
theorem dX2_rowStart_16 : decode cX2_rowStart 16 = .ok (.iconst (-1), 1) := by decide +kernel
theorem dX2_rowStart_17 : decode cX2_rowStart 17 = .ok (.goto 9, 3) := by decide +kernel
theorem dX2_rowStart_20 : decode cX2_rowStart 20 = .ok (.aload_n 0, 1) := by decide +kernel
theorem dX2_rowStart_21 : decode cX2_rowStart 21 = .ok (.getfield 15, 3) := by decide +kernel
theorem dX2_rowStart_24 : decode cX2_rowStart 24 = .ok (.iload_n 1, 1) := by decide +kernel
theorem dX2_rowStart_25 : decode cX2_rowStart 25 = .ok (.iaload, 1) := by decide +kernel
theorem dX2_rowStart_26 : decode cX2_rowStart 26 = .ok (.ireturn, 1) := by decide +kernel
theorem dX2_renew_0 : decode cX2_renew 0 = .ok (.aload_n 0, 1) := by decide +kernel
theorem dX2_renew_1 : decode cX2_renew 1 = .ok (.getfield 22, 3) := by decide +kernel
theorem dX2_renew_4 : decode cX2_renew 4 = .ok (.aload_n 0, 1) := by decide +kernel
theorem dX2_renew_5 : decode cX2_renew 5 = .ok (.getfield 25, 3) := by decide +kernel
theorem dX2_renew_8 : decode cX2_renew 8 = .ok (.invokevirtual 32, 3) := by decide +kernel
theorem dX2_renew_11 : decode cX2_renew 11 = .ok (.if_icmp .ne 4, 3) := by decide +kernel
theorem dX2_renew_14 : decode cX2_renew 14 = .ok (.return_, 1) := by decide +kernel
theorem dX2_renew_15 : decode cX2_renew 15 = .ok (.aload_n 0, 1) := by decide +kernel
theorem dX2_renew_16 : decode cX2_renew 16 = .ok (.aload_n 0, 1) := by decide +kernel
theorem dX2_renew_17 : decode cX2_renew 17 = .ok (.getfield 25, 3) := by decide +kernel
theorem dX2_renew_20 : decode cX2_renew 20 = .ok (.invokevirtual 32, 3) := by decide +kernel
theorem dX2_renew_23 : decode cX2_renew 23 = .ok (.putfield 22, 3) := by decide +kernel
theorem dX2_renew_26 : decode cX2_renew 26 = .ok (.aload_n 0, 1) := by decide +kernel
theorem dX2_renew_27 : decode cX2_renew 27 = .ok (.iconst 0, 1) := by decide +kernel
theorem dX2_renew_28 : decode cX2_renew 28 = .ok (.putfield 18, 3) := by decide +kernel
theorem dX2_renew_31 : decode cX2_renew 31 = .ok (.iconst 0, 1) := by decide +kernel
theorem dX2_renew_32 : decode cX2_renew 32 = .ok (.istore_n 1, 1) := by decide +kernel
theorem dX2_renew_33 : decode cX2_renew 33 = .ok (.iload_n 1, 1) := by decide +kernel
theorem dX2_renew_34 : decode cX2_renew 34 = .ok (.bipush 64, 2) := by decide +kernel
theorem dX2_renew_36 : decode cX2_renew 36 = .ok (.if_icmp .ge 72, 3) := by decide +kernel
theorem dX2_renew_39 : decode cX2_renew 39 = .ok (.aload_n 0, 1) := by decide +kernel
theorem dX2_renew_40 : decode cX2_renew 40 = .ok (.getfield 9, 3) := by decide +kernel
theorem dX2_renew_43 : decode cX2_renew 43 = .ok (.iload_n 1, 1) := by decide +kernel
theorem dX2_renew_44 : decode cX2_renew 44 = .ok (.aload_n 0, 1) := by decide +kernel
theorem dX2_renew_45 : decode cX2_renew 45 = .ok (.getfield 25, 3) := by decide +kernel
theorem dX2_renew_48 : decode cX2_renew 48 = .ok (.iconst (-1), 1) := by decide +kernel
theorem dX2_renew_49 : decode cX2_renew 49 = .ok (.iload_n 1, 1) := by decide +kernel
theorem dX2_renew_50 : decode cX2_renew 50 = .ok (.aload_n 0, 1) := by decide +kernel
theorem dX2_renew_51 : decode cX2_renew 51 = .ok (.getfield 25, 3) := by decide +kernel
theorem dX2_renew_54 : decode cX2_renew 54 = .ok (.invokevirtual 37, 3) := by decide +kernel
theorem dX2_renew_57 : decode cX2_renew 57 = .ok (.invokevirtual 40, 3) := by decide +kernel
theorem dX2_renew_60 : decode cX2_renew 60 = .ok (.iastore, 1) := by decide +kernel
theorem dX2_renew_61 : decode cX2_renew 61 = .ok (.iload_n 1, 1) := by decide +kernel
theorem dX2_renew_62 : decode cX2_renew 62 = .ok (.ifCond .eq 20, 3) := by decide +kernel
theorem dX2_renew_65 : decode cX2_renew 65 = .ok (.aload_n 0, 1) := by decide +kernel
theorem dX2_renew_66 : decode cX2_renew 66 = .ok (.getfield 9, 3) := by decide +kernel
theorem dX2_renew_69 : decode cX2_renew 69 = .ok (.iload_n 1, 1) := by decide +kernel
theorem dX2_renew_70 : decode cX2_renew 70 = .ok (.iaload, 1) := by decide +kernel
theorem dX2_renew_71 : decode cX2_renew 71 = .ok (.aload_n 0, 1) := by decide +kernel
theorem dX2_renew_72 : decode cX2_renew 72 = .ok (.getfield 9, 3) := by decide +kernel
theorem dX2_renew_75 : decode cX2_renew 75 = .ok (.iload_n 1, 1) := by decide +kernel
theorem dX2_renew_76 : decode cX2_renew 76 = .ok (.iconst 1, 1) := by decide +kernel
theorem dX2_renew_77 : decode cX2_renew 77 = .ok (.isub, 1) := by decide +kernel
theorem dX2_renew_78 : decode cX2_renew 78 = .ok (.iaload, 1) := by decide +kernel
theorem dX2_renew_79 : decode cX2_renew 79 = .ok (.if_icmp .eq 23, 3) := by decide +kernel
theorem dX2_renew_82 : decode cX2_renew 82 = .ok (.aload_n 0, 1) := by decide +kernel
theorem dX2_renew_83 : decode cX2_renew 83 = .ok (.getfield 15, 3) := by decide +kernel
theorem dX2_renew_86 : decode cX2_renew 86 = .ok (.aload_n 0, 1) := by decide +kernel
theorem dX2_renew_87 : decode cX2_renew 87 = .ok (.getfield 18, 3) := by decide +kernel
theorem dX2_renew_90 : decode cX2_renew 90 = .ok (.iload_n 1, 1) := by decide +kernel
theorem dX2_renew_91 : decode cX2_renew 91 = .ok (.iastore, 1) := by decide +kernel
theorem dX2_renew_92 : decode cX2_renew 92 = .ok (.aload_n 0, 1) := by decide +kernel
theorem dX2_renew_93 : decode cX2_renew 93 = .ok (.dup, 1) := by decide +kernel
theorem dX2_renew_94 : decode cX2_renew 94 = .ok (.getfield 18, 3) := by decide +kernel
theorem dX2_renew_97 : decode cX2_renew 97 = .ok (.iconst 1, 1) := by decide +kernel
theorem dX2_renew_98 : decode cX2_renew 98 = .ok (.iadd, 1) := by decide +kernel
theorem dX2_renew_99 : decode cX2_renew 99 = .ok (.putfield 18, 3) := by decide +kernel
theorem dX2_renew_102 : decode cX2_renew 102 = .ok (.iinc 1 1, 3) := by decide +kernel
theorem dX2_renew_105 : decode cX2_renew 105 = .ok (.goto (-72), 3) := by decide +kernel
theorem dX2_renew_108 : decode cX2_renew 108 = .ok (.aload_n 0, 1) := by decide +kernel
theorem dX2_renew_109 : decode cX2_renew 109 = .ok (.getfield 15, 3) := by decide +kernel
theorem dX2_renew_112 : decode cX2_renew 112 = .ok (.aload_n 0, 1) := by decide +kernel
theorem dX2_renew_113 : decode cX2_renew 113 = .ok (.getfield 18, 3) := by decide +kernel
theorem dX2_renew_116 : decode cX2_renew 116 = .ok (.bipush 64, 2) := by decide +kernel
theorem dX2_renew_118 : decode cX2_renew 118 = .ok (.iastore, 1) := by decide +kernel
theorem dX2_renew_119 : decode cX2_renew 119 = .ok (.return_, 1) := by decide +kernel
theorem dX3_init_0 : decode cX3_init 0 = .ok (.aload_n 0, 1) := by decide +kernel
theorem dX3_init_1 : decode cX3_init 1 = .ok (.invokespecial 3, 3) := by decide +kernel
theorem dX3_init_4 : decode cX3_init 4 = .ok (.aload_n 0, 1) := by decide +kernel
theorem dX3_init_5 : decode cX3_init 5 = .ok (.iconst 0, 1) := by decide +kernel
theorem dX3_init_6 : decode cX3_init 6 = .ok (.putfield 11, 3) := by decide +kernel
theorem dX3_init_9 : decode cX3_init 9 = .ok (.aload_n 0, 1) := by decide +kernel
theorem dX3_init_10 : decode cX3_init 10 = .ok (.iconst 0, 1) := by decide +kernel
theorem dX3_init_11 : decode cX3_init 11 = .ok (.putfield 15, 3) := by decide +kernel
theorem dX3_init_14 : decode cX3_init 14 = .ok (.aload_n 0, 1) := by decide +kernel
theorem dX3_init_15 : decode cX3_init 15 = .ok (.iconst 0, 1) := by decide +kernel
theorem dX3_init_16 : decode cX3_init 16 = .ok (.putfield 18, 3) := by decide +kernel
theorem dX3_init_19 : decode cX3_init 19 = .ok (.aload_n 0, 1) := by decide +kernel
theorem dX3_init_20 : decode cX3_init 20 = .ok (.iconst 0, 1) := by decide +kernel
theorem dX3_init_21 : decode cX3_init 21 = .ok (.putfield 22, 3) := by decide +kernel
theorem dX3_init_24 : decode cX3_init 24 = .ok (.aload_n 0, 1) := by decide +kernel
theorem dX3_init_25 : decode cX3_init 25 = .ok (.iconst 0, 1) := by decide +kernel
theorem dX3_init_26 : decode cX3_init 26 = .ok (.putfield 25, 3) := by decide +kernel
theorem dX3_init_29 : decode cX3_init 29 = .ok (.aload_n 0, 1) := by decide +kernel
theorem dX3_init_30 : decode cX3_init 30 = .ok (.iconst 0, 1) := by decide +kernel
theorem dX3_init_31 : decode cX3_init 31 = .ok (.putfield 28, 3) := by decide +kernel
theorem dX3_init_34 : decode cX3_init 34 = .ok (.return_, 1) := by decide +kernel
theorem dX3_start_0 : decode cX3_start 0 = .ok (.aload_n 0, 1) := by decide +kernel
theorem dX3_start_1 : decode cX3_start 1 = .ok (.iconst 0, 1) := by decide +kernel
theorem dX3_start_2 : decode cX3_start 2 = .ok (.putfield 11, 3) := by decide +kernel
theorem dX3_start_5 : decode cX3_start 5 = .ok (.aload_n 0, 1) := by decide +kernel
theorem dX3_start_6 : decode cX3_start 6 = .ok (.iconst 0, 1) := by decide +kernel
theorem dX3_start_7 : decode cX3_start 7 = .ok (.putfield 18, 3) := by decide +kernel
theorem dX3_start_10 : decode cX3_start 10 = .ok (.return_, 1) := by decide +kernel
theorem dX3_hasWholeLine_0 : decode cX3_hasWholeLine 0 = .ok (.aload_n 0, 1) := by decide +kernel
theorem dX3_hasWholeLine_1 : decode cX3_hasWholeLine 1 = .ok (.getfield 11, 3) := by decide +kernel
theorem dX3_hasWholeLine_4 : decode cX3_hasWholeLine 4 = .ok (.iconst 5, 1) := by decide +kernel
theorem dX3_hasWholeLine_5 : decode cX3_hasWholeLine 5 = .ok (.if_icmp .eq 23, 3) := by decide +kernel
theorem dX3_hasWholeLine_8 : decode cX3_hasWholeLine 8 = .ok (.aload_n 0, 1) := by decide +kernel
theorem dX3_hasWholeLine_9 : decode cX3_hasWholeLine 9 = .ok (.getfield 11, 3) := by decide +kernel
theorem dX3_hasWholeLine_12 : decode cX3_hasWholeLine 12 = .ok (.bipush 9, 2) := by decide +kernel
theorem dX3_hasWholeLine_14 : decode cX3_hasWholeLine 14 = .ok (.if_icmp .ne 18, 3) := by decide +kernel
theorem dX3_hasWholeLine_17 : decode cX3_hasWholeLine 17 = .ok (.aload_n 0, 1) := by decide +kernel
theorem dX3_hasWholeLine_18 : decode cX3_hasWholeLine 18 = .ok (.getfield 15, 3) := by decide +kernel
theorem dX3_hasWholeLine_21 : decode cX3_hasWholeLine 21 = .ok (.aload_n 0, 1) := by decide +kernel
theorem dX3_hasWholeLine_22 : decode cX3_hasWholeLine 22 = .ok (.getfield 28, 3) := by decide +kernel
theorem dX3_hasWholeLine_25 : decode cX3_hasWholeLine 25 = .ok (.if_icmp .lt 7, 3) := by decide +kernel
theorem dX3_hasWholeLine_28 : decode cX3_hasWholeLine 28 = .ok (.iconst 1, 1) := by decide +kernel
theorem dX3_hasWholeLine_29 : decode cX3_hasWholeLine 29 = .ok (.goto 4, 3) := by decide +kernel
theorem dX3_hasWholeLine_32 : decode cX3_hasWholeLine 32 = .ok (.iconst 0, 1) := by decide +kernel
theorem dX3_hasWholeLine_33 : decode cX3_hasWholeLine 33 = .ok (.ireturn, 1) := by decide +kernel
theorem dX3_writeTo_0 : decode cX3_writeTo 0 = .ok (.aload_n 0, 1) := by decide +kernel
theorem dX3_writeTo_1 : decode cX3_writeTo 1 = .ok (.getfield 11, 3) := by decide +kernel
theorem dX3_writeTo_4 : decode cX3_writeTo 4 = .ok (.iconst 5, 1) := by decide +kernel
theorem dX3_writeTo_5 : decode cX3_writeTo 5 = .ok (.if_icmp .ne 21, 3) := by decide +kernel
theorem dX3_writeTo_8 : decode cX3_writeTo 8 = .ok (.aload_n 1, 1) := by decide +kernel
theorem dX3_writeTo_9 : decode cX3_writeTo 9 = .ok (.aload_n 0, 1) := by decide +kernel
theorem dX3_writeTo_10 : decode cX3_writeTo 10 = .ok (.getfield 22, 3) := by decide +kernel
theorem dX3_writeTo_13 : decode cX3_writeTo 13 = .ok (.aload_n 0, 1) := by decide +kernel
theorem dX3_writeTo_14 : decode cX3_writeTo 14 = .ok (.invokevirtual 31, 3) := by decide +kernel
theorem dX3_writeTo_17 : decode cX3_writeTo 17 = .ok (.iconst 0, 1) := by decide +kernel
theorem dX3_writeTo_18 : decode cX3_writeTo 18 = .ok (.bipush 99, 2) := by decide +kernel
theorem dX3_writeTo_20 : decode cX3_writeTo 20 = .ok (.invokevirtual 35, 3) := by decide +kernel
theorem dX3_writeTo_23 : decode cX3_writeTo 23 = .ok (.goto 32, 3) := by decide +kernel
theorem dX3_writeTo_26 : decode cX3_writeTo 26 = .ok (.aload_n 0, 1) := by decide +kernel
theorem dX3_writeTo_27 : decode cX3_writeTo 27 = .ok (.getfield 11, 3) := by decide +kernel
theorem dX3_writeTo_30 : decode cX3_writeTo 30 = .ok (.bipush 9, 2) := by decide +kernel
theorem dX3_writeTo_32 : decode cX3_writeTo 32 = .ok (.if_icmp .ne 23, 3) := by decide +kernel
theorem dX3_writeTo_35 : decode cX3_writeTo 35 = .ok (.aload_n 1, 1) := by decide +kernel
theorem dX3_writeTo_36 : decode cX3_writeTo 36 = .ok (.aload_n 0, 1) := by decide +kernel
theorem dX3_writeTo_37 : decode cX3_writeTo 37 = .ok (.getfield 22, 3) := by decide +kernel
theorem dX3_writeTo_40 : decode cX3_writeTo 40 = .ok (.aload_n 0, 1) := by decide +kernel
theorem dX3_writeTo_41 : decode cX3_writeTo 41 = .ok (.getfield 25, 3) := by decide +kernel
theorem dX3_writeTo_44 : decode cX3_writeTo 44 = .ok (.aload_n 0, 1) := by decide +kernel
theorem dX3_writeTo_45 : decode cX3_writeTo 45 = .ok (.getfield 28, 3) := by decide +kernel
theorem dX3_writeTo_48 : decode cX3_writeTo 48 = .ok (.aload_n 0, 1) := by decide +kernel
theorem dX3_writeTo_49 : decode cX3_writeTo 49 = .ok (.getfield 15, 3) := by decide +kernel
theorem dX3_writeTo_52 : decode cX3_writeTo 52 = .ok (.invokevirtual 35, 3) := by decide +kernel
theorem dX3_writeTo_55 : decode cX3_writeTo 55 = .ok (.return_, 1) := by decide +kernel
theorem dX3_takes_0 : decode cX3_takes 0 = .ok (.aload_n 0, 1) := by decide +kernel
theorem dX3_takes_1 : decode cX3_takes 1 = .ok (.getfield 11, 3) := by decide +kernel
theorem dX3_takes_4 : decode cX3_takes 4 = .ok (.tableswitch 172 0 8 #[52, 73, 80, 101, 107, 114, 120, 128, 149], 52) := by decide +kernel
theorem dX3_takes_56 : decode cX3_takes 56 = .ok (.iload_n 1, 1) := by decide +kernel
theorem dX3_takes_57 : decode cX3_takes 57 = .ok (.bipush 45, 2) := by decide +kernel
theorem dX3_takes_59 : decode cX3_takes 59 = .ok (.if_icmp .ne 11, 3) := by decide +kernel
theorem dX3_takes_62 : decode cX3_takes 62 = .ok (.aload_n 0, 1) := by decide +kernel
theorem dX3_takes_63 : decode cX3_takes 63 = .ok (.iconst 1, 1) := by decide +kernel
theorem dX3_takes_64 : decode cX3_takes 64 = .ok (.invokevirtual 41, 3) := by decide +kernel
theorem dX3_takes_67 : decode cX3_takes 67 = .ok (.goto 9, 3) := by decide +kernel
theorem dX3_takes_70 : decode cX3_takes 70 = .ok (.aload_n 0, 1) := by decide +kernel
theorem dX3_takes_71 : decode cX3_takes 71 = .ok (.iload_n 1, 1) := by decide +kernel
theorem dX3_takes_72 : decode cX3_takes 72 = .ok (.iconst 2, 1) := by decide +kernel
theorem dX3_takes_73 : decode cX3_takes 73 = .ok (.invokevirtual 45, 3) := by decide +kernel
theorem dX3_takes_76 : decode cX3_takes 76 = .ok (.ireturn, 1) := by decide +kernel
theorem dX3_takes_77 : decode cX3_takes 77 = .ok (.aload_n 0, 1) := by decide +kernel
theorem dX3_takes_78 : decode cX3_takes 78 = .ok (.iload_n 1, 1) := by decide +kernel
theorem dX3_takes_79 : decode cX3_takes 79 = .ok (.iconst 2, 1) := by decide +kernel
theorem dX3_takes_80 : decode cX3_takes 80 = .ok (.invokevirtual 45, 3) := by decide +kernel
theorem dX3_takes_83 : decode cX3_takes 83 = .ok (.ireturn, 1) := by decide +kernel
theorem dX3_takes_84 : decode cX3_takes 84 = .ok (.iload_n 1, 1) := by decide +kernel
theorem dX3_takes_85 : decode cX3_takes 85 = .ok (.bipush 120, 2) := by decide +kernel
theorem dX3_takes_87 : decode cX3_takes 87 = .ok (.if_icmp .ne 10, 3) := by decide +kernel
theorem dX3_takes_90 : decode cX3_takes 90 = .ok (.aload_n 0, 1) := by decide +kernel
theorem dX3_takes_91 : decode cX3_takes 91 = .ok (.invokevirtual 49, 3) := by decide +kernel
theorem dX3_takes_94 : decode cX3_takes 94 = .ok (.goto 10, 3) := by decide +kernel
theorem dX3_takes_97 : decode cX3_takes 97 = .ok (.aload_n 0, 1) := by decide +kernel
theorem dX3_takes_98 : decode cX3_takes 98 = .ok (.iload_n 1, 1) := by decide +kernel
theorem dX3_takes_99 : decode cX3_takes 99 = .ok (.bipush 99, 2) := by decide +kernel
theorem dX3_takes_101 : decode cX3_takes 101 = .ok (.invokevirtual 53, 3) := by decide +kernel
theorem dX3_takes_104 : decode cX3_takes 104 = .ok (.ireturn, 1) := by decide +kernel
theorem dX3_takes_105 : decode cX3_takes 105 = .ok (.aload_n 0, 1) := by decide +kernel
theorem dX3_takes_106 : decode cX3_takes 106 = .ok (.iload_n 1, 1) := by decide +kernel
theorem dX3_takes_107 : decode cX3_takes 107 = .ok (.invokevirtual 56, 3) := by decide +kernel
theorem dX3_takes_110 : decode cX3_takes 110 = .ok (.ireturn, 1) := by decide +kernel
theorem dX3_takes_111 : decode cX3_takes 111 = .ok (.aload_n 0, 1) := by decide +kernel
theorem dX3_takes_112 : decode cX3_takes 112 = .ok (.iload_n 1, 1) := by decide +kernel
theorem dX3_takes_113 : decode cX3_takes 113 = .ok (.iconst 5, 1) := by decide +kernel
theorem dX3_takes_114 : decode cX3_takes 114 = .ok (.invokevirtual 45, 3) := by decide +kernel
theorem dX3_takes_117 : decode cX3_takes 117 = .ok (.ireturn, 1) := by decide +kernel
theorem dX3_takes_118 : decode cX3_takes 118 = .ok (.aload_n 0, 1) := by decide +kernel
theorem dX3_takes_119 : decode cX3_takes 119 = .ok (.iload_n 1, 1) := by decide +kernel
theorem dX3_takes_120 : decode cX3_takes 120 = .ok (.invokevirtual 59, 3) := by decide +kernel
theorem dX3_takes_123 : decode cX3_takes 123 = .ok (.ireturn, 1) := by decide +kernel
theorem dX3_takes_124 : decode cX3_takes 124 = .ok (.aload_n 0, 1) := by decide +kernel
theorem dX3_takes_125 : decode cX3_takes 125 = .ok (.iload_n 1, 1) := by decide +kernel
theorem dX3_takes_126 : decode cX3_takes 126 = .ok (.bipush 7, 2) := by decide +kernel
theorem dX3_takes_128 : decode cX3_takes 128 = .ok (.invokevirtual 45, 3) := by decide +kernel
theorem dX3_takes_131 : decode cX3_takes 131 = .ok (.ireturn, 1) := by decide +kernel
theorem dX3_takes_132 : decode cX3_takes 132 = .ok (.iload_n 1, 1) := by decide +kernel
theorem dX3_takes_133 : decode cX3_takes 133 = .ok (.bipush 45, 2) := by decide +kernel
theorem dX3_takes_135 : decode cX3_takes 135 = .ok (.if_icmp .ne 10, 3) := by decide +kernel
theorem dX3_takes_138 : decode cX3_takes 138 = .ok (.aload_n 0, 1) := by decide +kernel
theorem dX3_takes_139 : decode cX3_takes 139 = .ok (.invokevirtual 62, 3) := by decide +kernel
theorem dX3_takes_142 : decode cX3_takes 142 = .ok (.goto 10, 3) := by decide +kernel
theorem dX3_takes_145 : decode cX3_takes 145 = .ok (.aload_n 0, 1) := by decide +kernel
theorem dX3_takes_146 : decode cX3_takes 146 = .ok (.iload_n 1, 1) := by decide +kernel
theorem dX3_takes_147 : decode cX3_takes 147 = .ok (.bipush 99, 2) := by decide +kernel
theorem dX3_takes_149 : decode cX3_takes 149 = .ok (.invokevirtual 53, 3) := by decide +kernel
theorem dX3_takes_152 : decode cX3_takes 152 = .ok (.ireturn, 1) := by decide +kernel
theorem dX3_takes_153 : decode cX3_takes 153 = .ok (.aload_n 0, 1) := by decide +kernel
theorem dX3_takes_154 : decode cX3_takes 154 = .ok (.iload_n 1, 1) := by decide +kernel
theorem dX3_takes_155 : decode cX3_takes 155 = .ok (.bipush 9, 2) := by decide +kernel
theorem dX3_takes_157 : decode cX3_takes 157 = .ok (.invokevirtual 45, 3) := by decide +kernel
theorem dX3_takes_160 : decode cX3_takes 160 = .ok (.ifCond .eq 14, 3) := by decide +kernel
theorem dX3_takes_163 : decode cX3_takes 163 = .ok (.aload_n 0, 1) := by decide +kernel
theorem dX3_takes_164 : decode cX3_takes 164 = .ok (.invokevirtual 65, 3) := by decide +kernel
theorem dX3_takes_167 : decode cX3_takes 167 = .ok (.ifCond .eq 7, 3) := by decide +kernel
theorem dX3_takes_170 : decode cX3_takes 170 = .ok (.iconst 1, 1) := by decide +kernel
theorem dX3_takes_171 : decode cX3_takes 171 = .ok (.goto 4, 3) := by decide +kernel
theorem dX3_takes_174 : decode cX3_takes 174 = .ok (.iconst 0, 1) := by decide +kernel
theorem dX3_takes_175 : decode cX3_takes 175 = .ok (.ireturn, 1) := by decide +kernel
theorem dX3_takes_176 : decode cX3_takes 176 = .ok (.aload_n 0, 1) := by decide +kernel
theorem dX3_takes_177 : decode cX3_takes 177 = .ok (.iload_n 1, 1) := by decide +kernel
theorem dX3_takes_178 : decode cX3_takes 178 = .ok (.invokevirtual 68, 3) := by decide +kernel
theorem dX3_takes_181 : decode cX3_takes 181 = .ok (.ireturn, 1) := by decide +kernel
theorem dX3_takesSign_0 : decode cX3_takesSign 0 = .ok (.iload_n 1, 1) := by decide +kernel
theorem dX3_takesSign_1 : decode cX3_takesSign 1 = .ok (.bipush 45, 2) := by decide +kernel
theorem dX3_takesSign_3 : decode cX3_takesSign 3 = .ok (.if_icmp .ne 9, 3) := by decide +kernel
theorem dX3_takesSign_6 : decode cX3_takesSign 6 = .ok (.aload_n 0, 1) := by decide +kernel
theorem dX3_takesSign_7 : decode cX3_takesSign 7 = .ok (.iconst 4, 1) := by decide +kernel
theorem dX3_takesSign_8 : decode cX3_takesSign 8 = .ok (.invokevirtual 41, 3) := by decide +kernel
theorem dX3_takesSign_11 : decode cX3_takesSign 11 = .ok (.ireturn, 1) := by decide +kernel
theorem dX3_takesSign_12 : decode cX3_takesSign 12 = .ok (.iload_n 1, 1) := by decide +kernel
theorem dX3_takesSign_13 : decode cX3_takesSign 13 = .ok (.bipush 43, 2) := by decide +kernel
theorem dX3_takesSign_15 : decode cX3_takesSign 15 = .ok (.if_icmp .ne 15, 3) := by decide +kernel
theorem dX3_takesSign_18 : decode cX3_takesSign 18 = .ok (.aload_n 0, 1) := by decide +kernel
theorem dX3_takesSign_19 : decode cX3_takesSign 19 = .ok (.iconst 4, 1) := by decide +kernel
theorem dX3_takesSign_20 : decode cX3_takesSign 20 = .ok (.invokevirtual 71, 3) := by decide +kernel
theorem dX3_takesSign_23 : decode cX3_takesSign 23 = .ok (.ifCond .eq 7, 3) := by decide +kernel
theorem dX3_takesSign_26 : decode cX3_takesSign 26 = .ok (.iconst 1, 1) := by decide +kernel
theorem dX3_takesSign_27 : decode cX3_takesSign 27 = .ok (.goto 4, 3) := by decide +kernel
theorem dX3_takesSign_30 : decode cX3_takesSign 30 = .ok (.iconst 0, 1) := by decide +kernel
theorem dX3_takesSign_31 : decode cX3_takesSign 31 = .ok (.ireturn, 1) := by decide +kernel
theorem dX3_takesInOffset_0 : decode cX3_takesInOffset 0 = .ok (.iload_n 1, 1) := by decide +kernel
theorem dX3_takesInOffset_1 : decode cX3_takesInOffset 1 = .ok (.bipush 59, 2) := by decide +kernel
theorem dX3_takesInOffset_3 : decode cX3_takesInOffset 3 = .ok (.if_icmp .ne 8, 3) := by decide +kernel
theorem dX3_takesInOffset_6 : decode cX3_takesInOffset 6 = .ok (.aload_n 0, 1) := by decide +kernel
theorem dX3_takesInOffset_7 : decode cX3_takesInOffset 7 = .ok (.invokevirtual 74, 3) := by decide +kernel
theorem dX3_takesInOffset_10 : decode cX3_takesInOffset 10 = .ok (.ireturn, 1) := by decide +kernel
theorem dX3_takesInOffset_11 : decode cX3_takesInOffset 11 = .ok (.iload_n 1, 1) := by decide +kernel
theorem dX3_takesInOffset_12 : decode cX3_takesInOffset 12 = .ok (.bipush 64, 2) := by decide +kernel
theorem dX3_takesInOffset_14 : decode cX3_takesInOffset 14 = .ok (.if_icmp .ne 18, 3) := by decide +kernel
theorem dX3_takesInOffset_17 : decode cX3_takesInOffset 17 = .ok (.aload_n 0, 1) := by decide +kernel
theorem dX3_takesInOffset_18 : decode cX3_takesInOffset 18 = .ok (.aload_n 0, 1) := by decide +kernel
theorem dX3_takesInOffset_19 : decode cX3_takesInOffset 19 = .ok (.invokevirtual 31, 3) := by decide +kernel
theorem dX3_takesInOffset_22 : decode cX3_takesInOffset 22 = .ok (.putfield 25, 3) := by decide +kernel
theorem dX3_takesInOffset_25 : decode cX3_takesInOffset 25 = .ok (.aload_n 0, 1) := by decide +kernel
theorem dX3_takesInOffset_26 : decode cX3_takesInOffset 26 = .ok (.bipush 6, 2) := by decide +kernel
theorem dX3_takesInOffset_28 : decode cX3_takesInOffset 28 = .ok (.invokevirtual 71, 3) := by decide +kernel
theorem dX3_takesInOffset_31 : decode cX3_takesInOffset 31 = .ok (.ireturn, 1) := by decide +kernel
theorem dX3_takesInOffset_32 : decode cX3_takesInOffset 32 = .ok (.aload_n 0, 1) := by decide +kernel
theorem dX3_takesInOffset_33 : decode cX3_takesInOffset 33 = .ok (.iload_n 1, 1) := by decide +kernel
theorem dX3_takesInOffset_34 : decode cX3_takesInOffset 34 = .ok (.sipush 9999, 3) := by decide +kernel
theorem dX3_takesInOffset_37 : decode cX3_takesInOffset 37 = .ok (.invokevirtual 53, 3) := by decide +kernel
theorem dX3_takesInOffset_40 : decode cX3_takesInOffset 40 = .ok (.ireturn, 1) := by decide +kernel
theorem dX3_takesInLast_0 : decode cX3_takesInLast 0 = .ok (.iload_n 1, 1) := by decide +kernel
theorem dX3_takesInLast_1 : decode cX3_takesInLast 1 = .ok (.bipush 59, 2) := by decide +kernel
theorem dX3_takesInLast_3 : decode cX3_takesInLast 3 = .ok (.if_icmp .ne 23, 3) := by decide +kernel
theorem dX3_takesInLast_6 : decode cX3_takesInLast 6 = .ok (.aload_n 0, 1) := by decide +kernel
theorem dX3_takesInLast_7 : decode cX3_takesInLast 7 = .ok (.invokevirtual 77, 3) := by decide +kernel
theorem dX3_takesInLast_10 : decode cX3_takesInLast 10 = .ok (.ifCond .eq 14, 3) := by decide +kernel
theorem dX3_takesInLast_13 : decode cX3_takesInLast 13 = .ok (.aload_n 0, 1) := by decide +kernel
theorem dX3_takesInLast_14 : decode cX3_takesInLast 14 = .ok (.invokevirtual 74, 3) := by decide +kernel
theorem dX3_takesInLast_17 : decode cX3_takesInLast 17 = .ok (.ifCond .eq 7, 3) := by decide +kernel
theorem dX3_takesInLast_20 : decode cX3_takesInLast 20 = .ok (.iconst 1, 1) := by decide +kernel
theorem dX3_takesInLast_21 : decode cX3_takesInLast 21 = .ok (.goto 4, 3) := by decide +kernel
theorem dX3_takesInLast_24 : decode cX3_takesInLast 24 = .ok (.iconst 0, 1) := by decide +kernel
theorem dX3_takesInLast_25 : decode cX3_takesInLast 25 = .ok (.ireturn, 1) := by decide +kernel
theorem dX3_takesInLast_26 : decode cX3_takesInLast 26 = .ok (.aload_n 0, 1) := by decide +kernel
theorem dX3_takesInLast_27 : decode cX3_takesInLast 27 = .ok (.iload_n 1, 1) := by decide +kernel
theorem dX3_takesInLast_28 : decode cX3_takesInLast 28 = .ok (.bipush 99, 2) := by decide +kernel
theorem dX3_takesInLast_30 : decode cX3_takesInLast 30 = .ok (.invokevirtual 53, 3) := by decide +kernel
theorem dX3_takesInLast_33 : decode cX3_takesInLast 33 = .ok (.ifCond .eq 14, 3) := by decide +kernel
theorem dX3_takesInLast_36 : decode cX3_takesInLast 36 = .ok (.aload_n 0, 1) := by decide +kernel
theorem dX3_takesInLast_37 : decode cX3_takesInLast 37 = .ok (.invokevirtual 65, 3) := by decide +kernel
theorem dX3_takesInLast_40 : decode cX3_takesInLast 40 = .ok (.ifCond .eq 7, 3) := by decide +kernel
theorem dX3_takesInLast_43 : decode cX3_takesInLast 43 = .ok (.iconst 1, 1) := by decide +kernel
theorem dX3_takesInLast_44 : decode cX3_takesInLast 44 = .ok (.goto 4, 3) := by decide +kernel
theorem dX3_takesInLast_47 : decode cX3_takesInLast 47 = .ok (.iconst 0, 1) := by decide +kernel
theorem dX3_takesInLast_48 : decode cX3_takesInLast 48 = .ok (.ireturn, 1) := by decide +kernel
theorem dX3_endsSlope_0 : decode cX3_endsSlope 0 = .ok (.aload_n 0, 1) := by decide +kernel
theorem dX3_endsSlope_1 : decode cX3_endsSlope 1 = .ok (.aload_n 0, 1) := by decide +kernel
theorem dX3_endsSlope_2 : decode cX3_endsSlope 2 = .ok (.invokevirtual 31, 3) := by decide +kernel
theorem dX3_endsSlope_5 : decode cX3_endsSlope 5 = .ok (.putfield 22, 3) := by decide +kernel
theorem dX3_endsSlope_8 : decode cX3_endsSlope 8 = .ok (.aload_n 0, 1) := by decide +kernel
theorem dX3_endsSlope_9 : decode cX3_endsSlope 9 = .ok (.iconst 0, 1) := by decide +kernel
theorem dX3_endsSlope_10 : decode cX3_endsSlope 10 = .ok (.putfield 18, 3) := by decide +kernel
theorem dX3_endsSlope_13 : decode cX3_endsSlope 13 = .ok (.aload_n 0, 1) := by decide +kernel
theorem dX3_endsSlope_14 : decode cX3_endsSlope 14 = .ok (.iconst 3, 1) := by decide +kernel
theorem dX3_endsSlope_15 : decode cX3_endsSlope 15 = .ok (.invokevirtual 71, 3) := by decide +kernel
theorem dX3_endsSlope_18 : decode cX3_endsSlope 18 = .ok (.ireturn, 1) := by decide +kernel
theorem dX3_endsFirstMoment_0 : decode cX3_endsFirstMoment 0 = .ok (.aload_n 0, 1) := by decide +kernel
theorem dX3_endsFirstMoment_1 : decode cX3_endsFirstMoment 1 = .ok (.aload_n 0, 1) := by decide +kernel
theorem dX3_endsFirstMoment_2 : decode cX3_endsFirstMoment 2 = .ok (.getfield 15, 3) := by decide +kernel
theorem dX3_endsFirstMoment_5 : decode cX3_endsFirstMoment 5 = .ok (.putfield 28, 3) := by decide +kernel
theorem dX3_endsFirstMoment_8 : decode cX3_endsFirstMoment 8 = .ok (.aload_n 0, 1) := by decide +kernel
theorem dX3_endsFirstMoment_9 : decode cX3_endsFirstMoment 9 = .ok (.bipush 8, 2) := by decide +kernel
theorem dX3_endsFirstMoment_11 : decode cX3_endsFirstMoment 11 = .ok (.invokevirtual 71, 3) := by decide +kernel
theorem dX3_endsFirstMoment_14 : decode cX3_endsFirstMoment 14 = .ok (.ireturn, 1) := by decide +kernel
theorem dX3_endsLine_0 : decode cX3_endsLine 0 = .ok (.aload_n 0, 1) := by decide +kernel
theorem dX3_endsLine_1 : decode cX3_endsLine 1 = .ok (.invokevirtual 80, 3) := by decide +kernel
theorem dX3_endsLine_4 : decode cX3_endsLine 4 = .ok (.iconst 1, 1) := by decide +kernel
theorem dX3_endsLine_5 : decode cX3_endsLine 5 = .ok (.ireturn, 1) := by decide +kernel
theorem dX3_goesNegative_0 : decode cX3_goesNegative 0 = .ok (.aload_n 0, 1) := by decide +kernel
theorem dX3_goesNegative_1 : decode cX3_goesNegative 1 = .ok (.iconst 1, 1) := by decide +kernel
theorem dX3_goesNegative_2 : decode cX3_goesNegative 2 = .ok (.putfield 18, 3) := by decide +kernel
theorem dX3_goesNegative_5 : decode cX3_goesNegative 5 = .ok (.aload_n 0, 1) := by decide +kernel
theorem dX3_goesNegative_6 : decode cX3_goesNegative 6 = .ok (.iload_n 1, 1) := by decide +kernel
theorem dX3_goesNegative_7 : decode cX3_goesNegative 7 = .ok (.invokevirtual 71, 3) := by decide +kernel
theorem dX3_goesNegative_10 : decode cX3_goesNegative 10 = .ok (.ireturn, 1) := by decide +kernel
theorem dX3_entered_0 : decode cX3_entered 0 = .ok (.aload_n 0, 1) := by decide +kernel
theorem dX3_entered_1 : decode cX3_entered 1 = .ok (.iload_n 1, 1) := by decide +kernel
theorem dX3_entered_2 : decode cX3_entered 2 = .ok (.putfield 11, 3) := by decide +kernel
theorem dX3_entered_5 : decode cX3_entered 5 = .ok (.iconst 1, 1) := by decide +kernel
theorem dX3_entered_6 : decode cX3_entered 6 = .ok (.ireturn, 1) := by decide +kernel
theorem dX3_startsNumber_0 : decode cX3_startsNumber 0 = .ok (.iload_n 1, 1) := by decide +kernel
theorem dX3_startsNumber_1 : decode cX3_startsNumber 1 = .ok (.invokestatic 83, 3) := by decide +kernel
theorem dX3_startsNumber_4 : decode cX3_startsNumber 4 = .ok (.ifCond .ne 5, 3) := by decide +kernel
theorem dX3_startsNumber_7 : decode cX3_startsNumber 7 = .ok (.iconst 0, 1) := by decide +kernel
theorem dX3_startsNumber_8 : decode cX3_startsNumber 8 = .ok (.ireturn, 1) := by decide +kernel
theorem dX3_startsNumber_9 : decode cX3_startsNumber 9 = .ok (.aload_n 0, 1) := by decide +kernel
theorem dX3_startsNumber_10 : decode cX3_startsNumber 10 = .ok (.iload_n 1, 1) := by decide +kernel
theorem dX3_startsNumber_11 : decode cX3_startsNumber 11 = .ok (.bipush 48, 2) := by decide +kernel
theorem dX3_startsNumber_13 : decode cX3_startsNumber 13 = .ok (.isub, 1) := by decide +kernel
theorem dX3_startsNumber_14 : decode cX3_startsNumber 14 = .ok (.putfield 15, 3) := by decide +kernel
theorem dX3_startsNumber_17 : decode cX3_startsNumber 17 = .ok (.aload_n 0, 1) := by decide +kernel
theorem dX3_startsNumber_18 : decode cX3_startsNumber 18 = .ok (.iload_n 2, 1) := by decide +kernel
theorem dX3_startsNumber_19 : decode cX3_startsNumber 19 = .ok (.invokevirtual 71, 3) := by decide +kernel
theorem dX3_startsNumber_22 : decode cX3_startsNumber 22 = .ok (.ireturn, 1) := by decide +kernel
theorem dX3_extendsNumber_0 : decode cX3_extendsNumber 0 = .ok (.iload_n 1, 1) := by decide +kernel
theorem dX3_extendsNumber_1 : decode cX3_extendsNumber 1 = .ok (.invokestatic 83, 3) := by decide +kernel
theorem dX3_extendsNumber_4 : decode cX3_extendsNumber 4 = .ok (.ifCond .eq 26, 3) := by decide +kernel
theorem dX3_extendsNumber_7 : decode cX3_extendsNumber 7 = .ok (.aload_n 0, 1) := by decide +kernel
theorem dX3_extendsNumber_8 : decode cX3_extendsNumber 8 = .ok (.getfield 15, 3) := by decide +kernel
theorem dX3_extendsNumber_11 : decode cX3_extendsNumber 11 = .ok (.ifCond .eq 19, 3) := by decide +kernel
theorem dX3_extendsNumber_14 : decode cX3_extendsNumber 14 = .ok (.aload_n 0, 1) := by decide +kernel
theorem dX3_extendsNumber_15 : decode cX3_extendsNumber 15 = .ok (.getfield 15, 3) := by decide +kernel
theorem dX3_extendsNumber_18 : decode cX3_extendsNumber 18 = .ok (.bipush 10, 2) := by decide +kernel
theorem dX3_extendsNumber_20 : decode cX3_extendsNumber 20 = .ok (.imul, 1) := by decide +kernel
theorem dX3_extendsNumber_21 : decode cX3_extendsNumber 21 = .ok (.iload_n 1, 1) := by decide +kernel
theorem dX3_extendsNumber_22 : decode cX3_extendsNumber 22 = .ok (.iadd, 1) := by decide +kernel
theorem dX3_extendsNumber_23 : decode cX3_extendsNumber 23 = .ok (.bipush 48, 2) := by decide +kernel
theorem dX3_extendsNumber_25 : decode cX3_extendsNumber 25 = .ok (.isub, 1) := by decide +kernel
theorem dX3_extendsNumber_26 : decode cX3_extendsNumber 26 = .ok (.iload_n 2, 1) := by decide +kernel
theorem dX3_extendsNumber_27 : decode cX3_extendsNumber 27 = .ok (.if_icmp .le 5, 3) := by decide +kernel
theorem dX3_extendsNumber_30 : decode cX3_extendsNumber 30 = .ok (.iconst 0, 1) := by decide +kernel
theorem dX3_extendsNumber_31 : decode cX3_extendsNumber 31 = .ok (.ireturn, 1) := by decide +kernel
theorem dX3_extendsNumber_32 : decode cX3_extendsNumber 32 = .ok (.aload_n 0, 1) := by decide +kernel
theorem dX3_extendsNumber_33 : decode cX3_extendsNumber 33 = .ok (.aload_n 0, 1) := by decide +kernel
theorem dX3_extendsNumber_34 : decode cX3_extendsNumber 34 = .ok (.getfield 15, 3) := by decide +kernel
theorem dX3_extendsNumber_37 : decode cX3_extendsNumber 37 = .ok (.bipush 10, 2) := by decide +kernel
theorem dX3_extendsNumber_39 : decode cX3_extendsNumber 39 = .ok (.imul, 1) := by decide +kernel
theorem dX3_extendsNumber_40 : decode cX3_extendsNumber 40 = .ok (.iload_n 1, 1) := by decide +kernel
theorem dX3_extendsNumber_41 : decode cX3_extendsNumber 41 = .ok (.iadd, 1) := by decide +kernel
theorem dX3_extendsNumber_42 : decode cX3_extendsNumber 42 = .ok (.bipush 48, 2) := by decide +kernel
theorem dX3_extendsNumber_44 : decode cX3_extendsNumber 44 = .ok (.isub, 1) := by decide +kernel
theorem dX3_extendsNumber_45 : decode cX3_extendsNumber 45 = .ok (.putfield 15, 3) := by decide +kernel
theorem dX3_extendsNumber_48 : decode cX3_extendsNumber 48 = .ok (.iconst 1, 1) := by decide +kernel
theorem dX3_extendsNumber_49 : decode cX3_extendsNumber 49 = .ok (.ireturn, 1) := by decide +kernel
theorem dX3_mayBecomeLast_0 : decode cX3_mayBecomeLast 0 = .ok (.aload_n 0, 1) := by decide +kernel
theorem dX3_mayBecomeLast_1 : decode cX3_mayBecomeLast 1 = .ok (.getfield 15, 3) := by decide +kernel
theorem dX3_mayBecomeLast_4 : decode cX3_mayBecomeLast 4 = .ok (.aload_n 0, 1) := by decide +kernel
theorem dX3_mayBecomeLast_5 : decode cX3_mayBecomeLast 5 = .ok (.getfield 28, 3) := by decide +kernel
theorem dX3_mayBecomeLast_8 : decode cX3_mayBecomeLast 8 = .ok (.if_icmp .ge 36, 3) := by decide +kernel
theorem dX3_mayBecomeLast_11 : decode cX3_mayBecomeLast 11 = .ok (.aload_n 0, 1) := by decide +kernel
theorem dX3_mayBecomeLast_12 : decode cX3_mayBecomeLast 12 = .ok (.getfield 15, 3) := by decide +kernel
theorem dX3_mayBecomeLast_15 : decode cX3_mayBecomeLast 15 = .ok (.ifCond .le 33, 3) := by decide +kernel
theorem dX3_mayBecomeLast_18 : decode cX3_mayBecomeLast 18 = .ok (.aload_n 0, 1) := by decide +kernel
theorem dX3_mayBecomeLast_19 : decode cX3_mayBecomeLast 19 = .ok (.getfield 15, 3) := by decide +kernel
theorem dX3_mayBecomeLast_22 : decode cX3_mayBecomeLast 22 = .ok (.bipush 10, 2) := by decide +kernel
theorem dX3_mayBecomeLast_24 : decode cX3_mayBecomeLast 24 = .ok (.if_icmp .ge 24, 3) := by decide +kernel
theorem dX3_mayBecomeLast_27 : decode cX3_mayBecomeLast 27 = .ok (.aload_n 0, 1) := by decide +kernel
theorem dX3_mayBecomeLast_28 : decode cX3_mayBecomeLast 28 = .ok (.getfield 15, 3) := by decide +kernel
theorem dX3_mayBecomeLast_31 : decode cX3_mayBecomeLast 31 = .ok (.bipush 10, 2) := by decide +kernel
theorem dX3_mayBecomeLast_33 : decode cX3_mayBecomeLast 33 = .ok (.imul, 1) := by decide +kernel
theorem dX3_mayBecomeLast_34 : decode cX3_mayBecomeLast 34 = .ok (.bipush 9, 2) := by decide +kernel
theorem dX3_mayBecomeLast_36 : decode cX3_mayBecomeLast 36 = .ok (.iadd, 1) := by decide +kernel
theorem dX3_mayBecomeLast_37 : decode cX3_mayBecomeLast 37 = .ok (.aload_n 0, 1) := by decide +kernel
theorem dX3_mayBecomeLast_38 : decode cX3_mayBecomeLast 38 = .ok (.getfield 28, 3) := by decide +kernel
theorem dX3_mayBecomeLast_41 : decode cX3_mayBecomeLast 41 = .ok (.if_icmp .lt 7, 3) := by decide +kernel
theorem dX3_mayBecomeLast_44 : decode cX3_mayBecomeLast 44 = .ok (.iconst 1, 1) := by decide +kernel
theorem dX3_mayBecomeLast_45 : decode cX3_mayBecomeLast 45 = .ok (.goto 4, 3) := by decide +kernel
theorem dX3_mayBecomeLast_48 : decode cX3_mayBecomeLast 48 = .ok (.iconst 0, 1) := by decide +kernel
theorem dX3_mayBecomeLast_49 : decode cX3_mayBecomeLast 49 = .ok (.ireturn, 1) := by decide +kernel
theorem dX3_signedNumber_0 : decode cX3_signedNumber 0 = .ok (.aload_n 0, 1) := by decide +kernel
theorem dX3_signedNumber_1 : decode cX3_signedNumber 1 = .ok (.getfield 18, 3) := by decide +kernel
theorem dX3_signedNumber_4 : decode cX3_signedNumber 4 = .ok (.ifCond .eq 11, 3) := by decide +kernel
theorem dX3_signedNumber_7 : decode cX3_signedNumber 7 = .ok (.aload_n 0, 1) := by decide +kernel
theorem dX3_signedNumber_8 : decode cX3_signedNumber 8 = .ok (.getfield 15, 3) := by decide +kernel
theorem dX3_signedNumber_11 : decode cX3_signedNumber 11 = .ok (.ineg, 1) := by decide +kernel
theorem dX3_signedNumber_12 : decode cX3_signedNumber 12 = .ok (.goto 7, 3) := by decide +kernel
theorem dX3_signedNumber_15 : decode cX3_signedNumber 15 = .ok (.aload_n 0, 1) := by decide +kernel
theorem dX3_signedNumber_16 : decode cX3_signedNumber 16 = .ok (.getfield 15, 3) := by decide +kernel
theorem dX3_signedNumber_19 : decode cX3_signedNumber 19 = .ok (.ireturn, 1) := by decide +kernel
theorem dX3_isDigit_0 : decode cX3_isDigit 0 = .ok (.iload_n 0, 1) := by decide +kernel
theorem dX3_isDigit_1 : decode cX3_isDigit 1 = .ok (.bipush 48, 2) := by decide +kernel
theorem dX3_isDigit_3 : decode cX3_isDigit 3 = .ok (.if_icmp .lt 13, 3) := by decide +kernel
theorem dX3_isDigit_6 : decode cX3_isDigit 6 = .ok (.iload_n 0, 1) := by decide +kernel
theorem dX3_isDigit_7 : decode cX3_isDigit 7 = .ok (.bipush 57, 2) := by decide +kernel
theorem dX3_isDigit_9 : decode cX3_isDigit 9 = .ok (.if_icmp .gt 7, 3) := by decide +kernel
theorem dX3_isDigit_12 : decode cX3_isDigit 12 = .ok (.iconst 1, 1) := by decide +kernel
theorem dX3_isDigit_13 : decode cX3_isDigit 13 = .ok (.goto 4, 3) := by decide +kernel
theorem dX3_isDigit_16 : decode cX3_isDigit 16 = .ok (.iconst 0, 1) := by decide +kernel
theorem dX3_isDigit_17 : decode cX3_isDigit 17 = .ok (.ireturn, 1) := by decide +kernel
theorem dX4_init_0 : decode cX4_init 0 = .ok (.aload_n 0, 1) := by decide +kernel
theorem dX4_init_1 : decode cX4_init 1 = .ok (.invokespecial 3, 3) := by decide +kernel
theorem dX4_init_4 : decode cX4_init 4 = .ok (.aload_n 0, 1) := by decide +kernel
theorem dX4_init_5 : decode cX4_init 5 = .ok (.bipush 20, 2) := by decide +kernel
theorem dX4_init_7 : decode cX4_init 7 = .ok (.newarray .int, 2) := by decide +kernel
theorem dX4_init_9 : decode cX4_init 9 = .ok (.putfield 9, 3) := by decide +kernel
theorem dX4_init_12 : decode cX4_init 12 = .ok (.aload_n 0, 1) := by decide +kernel
theorem dX4_init_13 : decode cX4_init 13 = .ok (.iconst (-1), 1) := by decide +kernel
theorem dX4_init_14 : decode cX4_init 14 = .ok (.putfield 15, 3) := by decide +kernel
theorem dX4_init_17 : decode cX4_init 17 = .ok (.aload_n 0, 1) := by decide +kernel
theorem dX4_init_18 : decode cX4_init 18 = .ok (.aload_n 1, 1) := by decide +kernel
theorem dX4_init_19 : decode cX4_init 19 = .ok (.putfield 19, 3) := by decide +kernel
theorem dX4_init_22 : decode cX4_init 22 = .ok (.return_, 1) := by decide +kernel
theorem dX4_firstMoment_0 : decode cX4_firstMoment 0 = .ok (.aload_n 0, 1) := by decide +kernel
theorem dX4_firstMoment_1 : decode cX4_firstMoment 1 = .ok (.invokevirtual 23, 3) := by decide +kernel
theorem dX4_firstMoment_4 : decode cX4_firstMoment 4 = .ok (.iload_n 1, 1) := by decide +kernel
theorem dX4_firstMoment_5 : decode cX4_firstMoment 5 = .ok (.ifCond .lt 9, 3) := by decide +kernel
theorem dX4_firstMoment_8 : decode cX4_firstMoment 8 = .ok (.iload_n 1, 1) := by decide +kernel
theorem dX4_firstMoment_9 : decode cX4_firstMoment 9 = .ok (.bipush 20, 2) := by decide +kernel
theorem dX4_firstMoment_11 : decode cX4_firstMoment 11 = .ok (.if_icmp .lt 7, 3) := by decide +kernel
theorem dX4_firstMoment_14 : decode cX4_firstMoment 14 = .ok (.iconst (-1), 1) := by decide +kernel
theorem dX4_firstMoment_15 : decode cX4_firstMoment 15 = .ok (.goto 9, 3) := by decide +kernel
theorem dX4_firstMoment_18 : decode cX4_firstMoment 18 = .ok (.aload_n 0, 1) := by decide +kernel
theorem dX4_firstMoment_19 : decode cX4_firstMoment 19 = .ok (.getfield 9, 3) := by decide +kernel
theorem dX4_firstMoment_22 : decode cX4_firstMoment 22 = .ok (.iload_n 1, 1) := by decide +kernel
theorem dX4_firstMoment_23 : decode cX4_firstMoment 23 = .ok (.iaload, 1) := by decide +kernel
theorem dX4_firstMoment_24 : decode cX4_firstMoment 24 = .ok (.ireturn, 1) := by decide +kernel
theorem dX4_neverLowest_0 : decode cX4_neverLowest 0 = .ok (.aload_n 0, 1) := by decide +kernel
theorem dX4_neverLowest_1 : decode cX4_neverLowest 1 = .ok (.invokevirtual 23, 3) := by decide +kernel
theorem dX4_neverLowest_4 : decode cX4_neverLowest 4 = .ok (.iconst 0, 1) := by decide +kernel
theorem dX4_neverLowest_5 : decode cX4_neverLowest 5 = .ok (.istore_n 1, 1) := by decide +kernel
theorem dX4_neverLowest_6 : decode cX4_neverLowest 6 = .ok (.iconst 0, 1) := by decide +kernel
theorem dX4_neverLowest_7 : decode cX4_neverLowest 7 = .ok (.istore_n 2, 1) := by decide +kernel
theorem dX4_neverLowest_8 : decode cX4_neverLowest 8 = .ok (.iload_n 2, 1) := by decide +kernel
theorem dX4_neverLowest_9 : decode cX4_neverLowest 9 = .ok (.aload_n 0, 1) := by decide +kernel
theorem dX4_neverLowest_10 : decode cX4_neverLowest 10 = .ok (.getfield 19, 3) := by decide +kernel
theorem dX4_neverLowest_13 : decode cX4_neverLowest 13 = .ok (.invokevirtual 26, 3) := by decide +kernel
theorem dX4_neverLowest_16 : decode cX4_neverLowest 16 = .ok (.if_icmp .ge 31, 3) := by decide +kernel
theorem dX4_neverLowest_19 : decode cX4_neverLowest 19 = .ok (.iload_n 2, 1) := by decide +kernel
theorem dX4_neverLowest_20 : decode cX4_neverLowest 20 = .ok (.bipush 20, 2) := by decide +kernel
theorem dX4_neverLowest_22 : decode cX4_neverLowest 22 = .ok (.if_icmp .ge 25, 3) := by decide +kernel
theorem dX4_neverLowest_25 : decode cX4_neverLowest 25 = .ok (.aload_n 0, 1) := by decide +kernel
theorem dX4_neverLowest_26 : decode cX4_neverLowest 26 = .ok (.getfield 9, 3) := by decide +kernel
theorem dX4_neverLowest_29 : decode cX4_neverLowest 29 = .ok (.iload_n 2, 1) := by decide +kernel
theorem dX4_neverLowest_30 : decode cX4_neverLowest 30 = .ok (.iaload, 1) := by decide +kernel
theorem dX4_neverLowest_31 : decode cX4_neverLowest 31 = .ok (.iconst (-1), 1) := by decide +kernel
theorem dX4_neverLowest_32 : decode cX4_neverLowest 32 = .ok (.if_icmp .ne 9, 3) := by decide +kernel
theorem dX4_neverLowest_35 : decode cX4_neverLowest 35 = .ok (.iload_n 1, 1) := by decide +kernel
theorem dX4_neverLowest_36 : decode cX4_neverLowest 36 = .ok (.iconst 1, 1) := by decide +kernel
theorem dX4_neverLowest_37 : decode cX4_neverLowest 37 = .ok (.iload_n 2, 1) := by decide +kernel
theorem dX4_neverLowest_38 : decode cX4_neverLowest 38 = .ok (.ishl, 1) := by decide +kernel
theorem dX4_neverLowest_39 : decode cX4_neverLowest 39 = .ok (.ior, 1) := by decide +kernel
theorem dX4_neverLowest_40 : decode cX4_neverLowest 40 = .ok (.istore_n 1, 1) := by decide +kernel
theorem dX4_neverLowest_41 : decode cX4_neverLowest 41 = .ok (.iinc 2 1, 3) := by decide +kernel
theorem dX4_neverLowest_44 : decode cX4_neverLowest 44 = .ok (.goto (-36), 3) := by decide +kernel
theorem dX4_neverLowest_47 : decode cX4_neverLowest 47 = .ok (.iload_n 1, 1) := by decide +kernel
theorem dX4_neverLowest_48 : decode cX4_neverLowest 48 = .ok (.ireturn, 1) := by decide +kernel
theorem dX4_renew_0 : decode cX4_renew 0 = .ok (.aload_n 0, 1) := by decide +kernel
theorem dX4_renew_1 : decode cX4_renew 1 = .ok (.getfield 15, 3) := by decide +kernel
theorem dX4_renew_4 : decode cX4_renew 4 = .ok (.aload_n 0, 1) := by decide +kernel
theorem dX4_renew_5 : decode cX4_renew 5 = .ok (.getfield 19, 3) := by decide +kernel
theorem dX4_renew_8 : decode cX4_renew 8 = .ok (.invokevirtual 32, 3) := by decide +kernel
theorem dX4_renew_11 : decode cX4_renew 11 = .ok (.if_icmp .ne 4, 3) := by decide +kernel
theorem dX4_renew_14 : decode cX4_renew 14 = .ok (.return_, 1) := by decide +kernel
theorem dX4_renew_15 : decode cX4_renew 15 = .ok (.aload_n 0, 1) := by decide +kernel
theorem dX4_renew_16 : decode cX4_renew 16 = .ok (.aload_n 0, 1) := by decide +kernel
theorem dX4_renew_17 : decode cX4_renew 17 = .ok (.getfield 19, 3) := by decide +kernel
theorem dX4_renew_20 : decode cX4_renew 20 = .ok (.invokevirtual 32, 3) := by decide +kernel
theorem dX4_renew_23 : decode cX4_renew 23 = .ok (.putfield 15, 3) := by decide +kernel
theorem dX4_renew_26 : decode cX4_renew 26 = .ok (.aload_n 0, 1) := by decide +kernel
theorem dX4_renew_27 : decode cX4_renew 27 = .ok (.getfield 9, 3) := by decide +kernel
theorem dX4_renew_30 : decode cX4_renew 30 = .ok (.iconst (-1), 1) := by decide +kernel
theorem dX4_renew_31 : decode cX4_renew 31 = .ok (.invokestatic 34, 3) := by decide +kernel
theorem dX4_renew_34 : decode cX4_renew 34 = .ok (.iconst 0, 1) := by decide +kernel
theorem dX4_renew_35 : decode cX4_renew 35 = .ok (.istore_n 1, 1) := by decide +kernel
theorem dX4_renew_36 : decode cX4_renew 36 = .ok (.iload_n 1, 1) := by decide +kernel
theorem dX4_renew_37 : decode cX4_renew 37 = .ok (.bipush 100, 2) := by decide +kernel
theorem dX4_renew_39 : decode cX4_renew 39 = .ok (.if_icmp .ge 25, 3) := by decide +kernel
theorem dX4_renew_42 : decode cX4_renew 42 = .ok (.aload_n 0, 1) := by decide +kernel
theorem dX4_renew_43 : decode cX4_renew 43 = .ok (.getfield 19, 3) := by decide +kernel
theorem dX4_renew_46 : decode cX4_renew 46 = .ok (.iload_n 1, 1) := by decide +kernel
theorem dX4_renew_47 : decode cX4_renew 47 = .ok (.invokevirtual 40, 3) := by decide +kernel
theorem dX4_renew_50 : decode cX4_renew 50 = .ok (.ifCond .eq 8, 3) := by decide +kernel
theorem dX4_renew_53 : decode cX4_renew 53 = .ok (.aload_n 0, 1) := by decide +kernel
theorem dX4_renew_54 : decode cX4_renew 54 = .ok (.iload_n 1, 1) := by decide +kernel
theorem dX4_renew_55 : decode cX4_renew 55 = .ok (.invokevirtual 44, 3) := by decide +kernel
theorem dX4_renew_58 : decode cX4_renew 58 = .ok (.iinc 1 1, 3) := by decide +kernel
theorem dX4_renew_61 : decode cX4_renew 61 = .ok (.goto (-25), 3) := by decide +kernel
theorem dX4_renew_64 : decode cX4_renew 64 = .ok (.return_, 1) := by decide +kernel
theorem dX4_note_0 : decode cX4_note 0 = .ok (.iconst 0, 1) := by decide +kernel
theorem dX4_note_1 : decode cX4_note 1 = .ok (.istore_n 2, 1) := by decide +kernel
theorem dX4_note_2 : decode cX4_note 2 = .ok (.iload_n 2, 1) := by decide +kernel
theorem dX4_note_3 : decode cX4_note 3 = .ok (.bipush 64, 2) := by decide +kernel
theorem dX4_note_5 : decode cX4_note 5 = .ok (.if_icmp .ge 47, 3) := by decide +kernel
theorem dX4_note_8 : decode cX4_note 8 = .ok (.aload_n 0, 1) := by decide +kernel
theorem dX4_note_9 : decode cX4_note 9 = .ok (.getfield 19, 3) := by decide +kernel
theorem dX4_note_12 : decode cX4_note 12 = .ok (.iconst (-1), 1) := by decide +kernel
theorem dX4_note_13 : decode cX4_note 13 = .ok (.iload_n 2, 1) := by decide +kernel
theorem dX4_note_14 : decode cX4_note 14 = .ok (.iload_n 1, 1) := by decide +kernel
theorem dX4_note_15 : decode cX4_note 15 = .ok (.invokevirtual 48, 3) := by decide +kernel
theorem dX4_note_18 : decode cX4_note 18 = .ok (.istore_n 3, 1) := by decide +kernel
theorem dX4_note_19 : decode cX4_note 19 = .ok (.iload_n 3, 1) := by decide +kernel
theorem dX4_note_20 : decode cX4_note 20 = .ok (.ifCond .lt 26, 3) := by decide +kernel
theorem dX4_note_23 : decode cX4_note 23 = .ok (.iload_n 3, 1) := by decide +kernel
theorem dX4_note_24 : decode cX4_note 24 = .ok (.bipush 20, 2) := by decide +kernel
theorem dX4_note_26 : decode cX4_note 26 = .ok (.if_icmp .ge 20, 3) := by decide +kernel
theorem dX4_note_29 : decode cX4_note 29 = .ok (.aload_n 0, 1) := by decide +kernel
theorem dX4_note_30 : decode cX4_note 30 = .ok (.getfield 9, 3) := by decide +kernel
theorem dX4_note_33 : decode cX4_note 33 = .ok (.iload_n 3, 1) := by decide +kernel
theorem dX4_note_34 : decode cX4_note 34 = .ok (.iaload, 1) := by decide +kernel
theorem dX4_note_35 : decode cX4_note 35 = .ok (.iconst (-1), 1) := by decide +kernel
theorem dX4_note_36 : decode cX4_note 36 = .ok (.if_icmp .ne 10, 3) := by decide +kernel
theorem dX4_note_39 : decode cX4_note 39 = .ok (.aload_n 0, 1) := by decide +kernel
theorem dX4_note_40 : decode cX4_note 40 = .ok (.getfield 9, 3) := by decide +kernel
theorem dX4_note_43 : decode cX4_note 43 = .ok (.iload_n 3, 1) := by decide +kernel
theorem dX4_note_44 : decode cX4_note 44 = .ok (.iload_n 1, 1) := by decide +kernel
theorem dX4_note_45 : decode cX4_note 45 = .ok (.iastore, 1) := by decide +kernel
theorem dX4_note_46 : decode cX4_note 46 = .ok (.iinc 2 1, 3) := by decide +kernel
theorem dX4_note_49 : decode cX4_note 49 = .ok (.goto (-47), 3) := by decide +kernel
theorem dX4_note_52 : decode cX4_note 52 = .ok (.return_, 1) := by decide +kernel
theorem dX5_init_0 : decode cX5_init 0 = .ok (.aload_n 0, 1) := by decide +kernel
theorem dX5_init_1 : decode cX5_init 1 = .ok (.invokespecial 3, 3) := by decide +kernel
theorem dX5_init_4 : decode cX5_init 4 = .ok (.aload_n 0, 1) := by decide +kernel
theorem dX5_init_5 : decode cX5_init 5 = .ok (.bipush 60, 2) := by decide +kernel
theorem dX5_init_7 : decode cX5_init 7 = .ok (.newarray .int, 2) := by decide +kernel
theorem dX5_init_9 : decode cX5_init 9 = .ok (.putfield 9, 3) := by decide +kernel
theorem dX5_init_12 : decode cX5_init 12 = .ok (.aload_n 0, 1) := by decide +kernel
theorem dX5_init_13 : decode cX5_init 13 = .ok (.new 15, 3) := by decide +kernel
theorem dX5_init_16 : decode cX5_init 16 = .ok (.dup, 1) := by decide +kernel
theorem dX5_init_17 : decode cX5_init 17 = .ok (.invokespecial 17, 3) := by decide +kernel
theorem dX5_init_20 : decode cX5_init 20 = .ok (.putfield 18, 3) := by decide +kernel
theorem dX5_init_23 : decode cX5_init 23 = .ok (.aload_n 0, 1) := by decide +kernel
theorem dX5_init_24 : decode cX5_init 24 = .ok (.iconst 0, 1) := by decide +kernel
theorem dX5_init_25 : decode cX5_init 25 = .ok (.putfield 22, 3) := by decide +kernel
theorem dX5_init_28 : decode cX5_init 28 = .ok (.return_, 1) := by decide +kernel
theorem dX5_length_0 : decode cX5_length 0 = .ok (.aload_n 0, 1) := by decide +kernel
theorem dX5_length_1 : decode cX5_length 1 = .ok (.getfield 22, 3) := by decide +kernel
theorem dX5_length_4 : decode cX5_length 4 = .ok (.ireturn, 1) := by decide +kernel
theorem dX5_codeAt_0 : decode cX5_codeAt 0 = .ok (.iload_n 1, 1) := by decide +kernel
theorem dX5_codeAt_1 : decode cX5_codeAt 1 = .ok (.ifCond .lt 11, 3) := by decide +kernel
theorem dX5_codeAt_4 : decode cX5_codeAt 4 = .ok (.iload_n 1, 1) := by decide +kernel
theorem dX5_codeAt_5 : decode cX5_codeAt 5 = .ok (.aload_n 0, 1) := by decide +kernel
theorem dX5_codeAt_6 : decode cX5_codeAt 6 = .ok (.getfield 22, 3) := by decide +kernel
theorem dX5_codeAt_9 : decode cX5_codeAt 9 = .ok (.if_icmp .lt 7, 3) := by decide +kernel
theorem dX5_codeAt_12 : decode cX5_codeAt 12 = .ok (.iconst (-1), 1) := by decide +kernel
theorem dX5_codeAt_13 : decode cX5_codeAt 13 = .ok (.goto 9, 3) := by decide +kernel
theorem dX5_codeAt_16 : decode cX5_codeAt 16 = .ok (.aload_n 0, 1) := by decide +kernel
theorem dX5_codeAt_17 : decode cX5_codeAt 17 = .ok (.getfield 9, 3) := by decide +kernel
theorem dX5_codeAt_20 : decode cX5_codeAt 20 = .ok (.iload_n 1, 1) := by decide +kernel
theorem dX5_codeAt_21 : decode cX5_codeAt 21 = .ok (.iaload, 1) := by decide +kernel
theorem dX5_codeAt_22 : decode cX5_codeAt 22 = .ok (.ireturn, 1) := by decide +kernel
theorem dX5_push_0 : decode cX5_push 0 = .ok (.aload_n 0, 1) := by decide +kernel
theorem dX5_push_1 : decode cX5_push 1 = .ok (.getfield 22, 3) := by decide +kernel
theorem dX5_push_4 : decode cX5_push 4 = .ok (.bipush 60, 2) := by decide +kernel
theorem dX5_push_6 : decode cX5_push 6 = .ok (.if_icmp .ge 23, 3) := by decide +kernel
theorem dX5_push_9 : decode cX5_push 9 = .ok (.aload_n 0, 1) := by decide +kernel
theorem dX5_push_10 : decode cX5_push 10 = .ok (.getfield 9, 3) := by decide +kernel
theorem dX5_push_13 : decode cX5_push 13 = .ok (.aload_n 0, 1) := by decide +kernel
theorem dX5_push_14 : decode cX5_push 14 = .ok (.getfield 22, 3) := by decide +kernel
theorem dX5_push_17 : decode cX5_push 17 = .ok (.iload_n 1, 1) := by decide +kernel
theorem dX5_push_18 : decode cX5_push 18 = .ok (.iastore, 1) := by decide +kernel
theorem dX5_push_19 : decode cX5_push 19 = .ok (.aload_n 0, 1) := by decide +kernel
theorem dX5_push_20 : decode cX5_push 20 = .ok (.dup, 1) := by decide +kernel
theorem dX5_push_21 : decode cX5_push 21 = .ok (.getfield 22, 3) := by decide +kernel
theorem dX5_push_24 : decode cX5_push 24 = .ok (.iconst 1, 1) := by decide +kernel
theorem dX5_push_25 : decode cX5_push 25 = .ok (.iadd, 1) := by decide +kernel
theorem dX5_push_26 : decode cX5_push 26 = .ok (.putfield 22, 3) := by decide +kernel
theorem dX5_push_29 : decode cX5_push 29 = .ok (.return_, 1) := by decide +kernel
theorem dX5_empty_0 : decode cX5_empty 0 = .ok (.aload_n 0, 1) := by decide +kernel
theorem dX5_empty_1 : decode cX5_empty 1 = .ok (.iconst 0, 1) := by decide +kernel
theorem dX5_empty_2 : decode cX5_empty 2 = .ok (.putfield 22, 3) := by decide +kernel
theorem dX5_empty_5 : decode cX5_empty 5 = .ok (.return_, 1) := by decide +kernel
theorem dX5_errorIndex_0 : decode cX5_errorIndex 0 = .ok (.aload_n 0, 1) := by decide +kernel
theorem dX5_errorIndex_1 : decode cX5_errorIndex 1 = .ok (.getfield 18, 3) := by decide +kernel
theorem dX5_errorIndex_4 : decode cX5_errorIndex 4 = .ok (.invokevirtual 26, 3) := by decide +kernel
theorem dX5_errorIndex_7 : decode cX5_errorIndex 7 = .ok (.iconst 0, 1) := by decide +kernel
theorem dX5_errorIndex_8 : decode cX5_errorIndex 8 = .ok (.istore_n 1, 1) := by decide +kernel
theorem dX5_errorIndex_9 : decode cX5_errorIndex 9 = .ok (.iload_n 1, 1) := by decide +kernel
theorem dX5_errorIndex_10 : decode cX5_errorIndex 10 = .ok (.aload_n 0, 1) := by decide +kernel
theorem dX5_errorIndex_11 : decode cX5_errorIndex 11 = .ok (.getfield 22, 3) := by decide +kernel
theorem dX5_errorIndex_14 : decode cX5_errorIndex 14 = .ok (.if_icmp .ge 27, 3) := by decide +kernel
theorem dX5_errorIndex_17 : decode cX5_errorIndex 17 = .ok (.aload_n 0, 1) := by decide +kernel
theorem dX5_errorIndex_18 : decode cX5_errorIndex 18 = .ok (.getfield 18, 3) := by decide +kernel
theorem dX5_errorIndex_21 : decode cX5_errorIndex 21 = .ok (.aload_n 0, 1) := by decide +kernel
theorem dX5_errorIndex_22 : decode cX5_errorIndex 22 = .ok (.getfield 9, 3) := by decide +kernel
theorem dX5_errorIndex_25 : decode cX5_errorIndex 25 = .ok (.iload_n 1, 1) := by decide +kernel
theorem dX5_errorIndex_26 : decode cX5_errorIndex 26 = .ok (.iaload, 1) := by decide +kernel
theorem dX5_errorIndex_27 : decode cX5_errorIndex 27 = .ok (.invokevirtual 29, 3) := by decide +kernel
theorem dX5_errorIndex_30 : decode cX5_errorIndex 30 = .ok (.ifCond .ne 5, 3) := by decide +kernel
theorem dX5_errorIndex_33 : decode cX5_errorIndex 33 = .ok (.iload_n 1, 1) := by decide +kernel
theorem dX5_errorIndex_34 : decode cX5_errorIndex 34 = .ok (.ireturn, 1) := by decide +kernel
theorem dX5_errorIndex_35 : decode cX5_errorIndex 35 = .ok (.iinc 1 1, 3) := by decide +kernel
theorem dX5_errorIndex_38 : decode cX5_errorIndex 38 = .ok (.goto (-29), 3) := by decide +kernel
theorem dX5_errorIndex_41 : decode cX5_errorIndex 41 = .ok (.aload_n 0, 1) := by decide +kernel
theorem dX5_errorIndex_42 : decode cX5_errorIndex 42 = .ok (.getfield 22, 3) := by decide +kernel
theorem dX5_errorIndex_45 : decode cX5_errorIndex 45 = .ok (.ireturn, 1) := by decide +kernel
theorem dX5_isWhole_0 : decode cX5_isWhole 0 = .ok (.aload_n 0, 1) := by decide +kernel
theorem dX5_isWhole_1 : decode cX5_isWhole 1 = .ok (.invokevirtual 33, 3) := by decide +kernel
theorem dX5_isWhole_4 : decode cX5_isWhole 4 = .ok (.aload_n 0, 1) := by decide +kernel
theorem dX5_isWhole_5 : decode cX5_isWhole 5 = .ok (.getfield 22, 3) := by decide +kernel
theorem dX5_isWhole_8 : decode cX5_isWhole 8 = .ok (.if_icmp .ne 17, 3) := by decide +kernel
theorem dX5_isWhole_11 : decode cX5_isWhole 11 = .ok (.aload_n 0, 1) := by decide +kernel
theorem dX5_isWhole_12 : decode cX5_isWhole 12 = .ok (.getfield 18, 3) := by decide +kernel
theorem dX5_isWhole_15 : decode cX5_isWhole 15 = .ok (.invokevirtual 37, 3) := by decide +kernel
theorem dX5_isWhole_18 : decode cX5_isWhole 18 = .ok (.ifCond .eq 7, 3) := by decide +kernel
theorem dX5_isWhole_21 : decode cX5_isWhole 21 = .ok (.iconst 1, 1) := by decide +kernel
theorem dX5_isWhole_22 : decode cX5_isWhole 22 = .ok (.goto 4, 3) := by decide +kernel
theorem dX5_isWhole_25 : decode cX5_isWhole 25 = .ok (.iconst 0, 1) := by decide +kernel
theorem dX5_isWhole_26 : decode cX5_isWhole 26 = .ok (.ireturn, 1) := by decide +kernel
theorem dX5_lineCount_0 : decode cX5_lineCount 0 = .ok (.iconst 1, 1) := by decide +kernel
theorem dX5_lineCount_1 : decode cX5_lineCount 1 = .ok (.istore_n 1, 1) := by decide +kernel
theorem dX5_lineCount_2 : decode cX5_lineCount 2 = .ok (.iconst 0, 1) := by decide +kernel
theorem dX5_lineCount_3 : decode cX5_lineCount 3 = .ok (.istore_n 2, 1) := by decide +kernel
theorem dX5_lineCount_4 : decode cX5_lineCount 4 = .ok (.iload_n 2, 1) := by decide +kernel
theorem dX5_lineCount_5 : decode cX5_lineCount 5 = .ok (.aload_n 0, 1) := by decide +kernel
theorem dX5_lineCount_6 : decode cX5_lineCount 6 = .ok (.getfield 22, 3) := by decide +kernel
theorem dX5_lineCount_9 : decode cX5_lineCount 9 = .ok (.if_icmp .ge 23, 3) := by decide +kernel
theorem dX5_lineCount_12 : decode cX5_lineCount 12 = .ok (.aload_n 0, 1) := by decide +kernel
theorem dX5_lineCount_13 : decode cX5_lineCount 13 = .ok (.getfield 9, 3) := by decide +kernel
theorem dX5_lineCount_16 : decode cX5_lineCount 16 = .ok (.iload_n 2, 1) := by decide +kernel
theorem dX5_lineCount_17 : decode cX5_lineCount 17 = .ok (.iaload, 1) := by decide +kernel
theorem dX5_lineCount_18 : decode cX5_lineCount 18 = .ok (.bipush 59, 2) := by decide +kernel
theorem dX5_lineCount_20 : decode cX5_lineCount 20 = .ok (.if_icmp .ne 6, 3) := by decide +kernel
theorem dX5_lineCount_23 : decode cX5_lineCount 23 = .ok (.iinc 1 1, 3) := by decide +kernel
theorem dX5_lineCount_26 : decode cX5_lineCount 26 = .ok (.iinc 2 1, 3) := by decide +kernel
theorem dX5_lineCount_29 : decode cX5_lineCount 29 = .ok (.goto (-25), 3) := by decide +kernel
theorem dX5_lineCount_32 : decode cX5_lineCount 32 = .ok (.iload_n 1, 1) := by decide +kernel
theorem dX5_lineCount_33 : decode cX5_lineCount 33 = .ok (.ireturn, 1) := by decide +kernel
theorem dX5_writeTo_0 : decode cX5_writeTo 0 = .ok (.aload_n 0, 1) := by decide +kernel
theorem dX5_writeTo_1 : decode cX5_writeTo 1 = .ok (.getfield 18, 3) := by decide +kernel
theorem dX5_writeTo_4 : decode cX5_writeTo 4 = .ok (.invokevirtual 26, 3) := by decide +kernel
theorem dX5_writeTo_7 : decode cX5_writeTo 7 = .ok (.iconst 0, 1) := by decide +kernel
theorem dX5_writeTo_8 : decode cX5_writeTo 8 = .ok (.istore_n 2, 1) := by decide +kernel
theorem dX5_writeTo_9 : decode cX5_writeTo 9 = .ok (.iload_n 2, 1) := by decide +kernel
theorem dX5_writeTo_10 : decode cX5_writeTo 10 = .ok (.aload_n 0, 1) := by decide +kernel
theorem dX5_writeTo_11 : decode cX5_writeTo 11 = .ok (.getfield 22, 3) := by decide +kernel
theorem dX5_writeTo_14 : decode cX5_writeTo 14 = .ok (.if_icmp .ge 42, 3) := by decide +kernel
theorem dX5_writeTo_17 : decode cX5_writeTo 17 = .ok (.aload_n 0, 1) := by decide +kernel
theorem dX5_writeTo_18 : decode cX5_writeTo 18 = .ok (.getfield 9, 3) := by decide +kernel
theorem dX5_writeTo_21 : decode cX5_writeTo 21 = .ok (.iload_n 2, 1) := by decide +kernel
theorem dX5_writeTo_22 : decode cX5_writeTo 22 = .ok (.iaload, 1) := by decide +kernel
theorem dX5_writeTo_23 : decode cX5_writeTo 23 = .ok (.bipush 59, 2) := by decide +kernel
theorem dX5_writeTo_25 : decode cX5_writeTo 25 = .ok (.if_icmp .ne 11, 3) := by decide +kernel
theorem dX5_writeTo_28 : decode cX5_writeTo 28 = .ok (.aload_n 0, 1) := by decide +kernel
theorem dX5_writeTo_29 : decode cX5_writeTo 29 = .ok (.getfield 18, 3) := by decide +kernel
theorem dX5_writeTo_32 : decode cX5_writeTo 32 = .ok (.aload_n 1, 1) := by decide +kernel
theorem dX5_writeTo_33 : decode cX5_writeTo 33 = .ok (.invokevirtual 41, 3) := by decide +kernel
theorem dX5_writeTo_36 : decode cX5_writeTo 36 = .ok (.aload_n 0, 1) := by decide +kernel
theorem dX5_writeTo_37 : decode cX5_writeTo 37 = .ok (.getfield 18, 3) := by decide +kernel
theorem dX5_writeTo_40 : decode cX5_writeTo 40 = .ok (.aload_n 0, 1) := by decide +kernel
theorem dX5_writeTo_41 : decode cX5_writeTo 41 = .ok (.getfield 9, 3) := by decide +kernel
theorem dX5_writeTo_44 : decode cX5_writeTo 44 = .ok (.iload_n 2, 1) := by decide +kernel
theorem dX5_writeTo_45 : decode cX5_writeTo 45 = .ok (.iaload, 1) := by decide +kernel
theorem dX5_writeTo_46 : decode cX5_writeTo 46 = .ok (.invokevirtual 29, 3) := by decide +kernel
theorem dX5_writeTo_49 : decode cX5_writeTo 49 = .ok (.pop, 1) := by decide +kernel
theorem dX5_writeTo_50 : decode cX5_writeTo 50 = .ok (.iinc 2 1, 3) := by decide +kernel
theorem dX5_writeTo_53 : decode cX5_writeTo 53 = .ok (.goto (-44), 3) := by decide +kernel
theorem dX5_writeTo_56 : decode cX5_writeTo 56 = .ok (.aload_n 0, 1) := by decide +kernel
theorem dX5_writeTo_57 : decode cX5_writeTo 57 = .ok (.getfield 18, 3) := by decide +kernel
theorem dX5_writeTo_60 : decode cX5_writeTo 60 = .ok (.aload_n 1, 1) := by decide +kernel
theorem dX5_writeTo_61 : decode cX5_writeTo 61 = .ok (.invokevirtual 41, 3) := by decide +kernel
theorem dX5_writeTo_64 : decode cX5_writeTo 64 = .ok (.return_, 1) := by decide +kernel
theorem dX6_init_0 : decode cX6_init 0 = .ok (.aload_n 0, 1) := by decide +kernel
theorem dX6_init_1 : decode cX6_init 1 = .ok (.invokespecial 3, 3) := by decide +kernel
theorem dX6_init_4 : decode cX6_init 4 = .ok (.aload_n 0, 1) := by decide +kernel
theorem dX6_init_5 : decode cX6_init 5 = .ok (.sipush 128, 3) := by decide +kernel
theorem dX6_init_8 : decode cX6_init 8 = .ok (.newarray .int, 2) := by decide +kernel
theorem dX6_init_10 : decode cX6_init 10 = .ok (.putfield 9, 3) := by decide +kernel
theorem dX6_init_13 : decode cX6_init 13 = .ok (.aload_n 0, 1) := by decide +kernel
theorem dX6_init_14 : decode cX6_init 14 = .ok (.sipush 128, 3) := by decide +kernel
theorem dX6_init_17 : decode cX6_init 17 = .ok (.newarray .int, 2) := by decide +kernel
theorem dX6_init_19 : decode cX6_init 19 = .ok (.putfield 15, 3) := by decide +kernel
theorem dX6_init_22 : decode cX6_init 22 = .ok (.aload_n 0, 1) := by decide +kernel
theorem dX6_init_23 : decode cX6_init 23 = .ok (.sipush 128, 3) := by decide +kernel
theorem dX6_init_26 : decode cX6_init 26 = .ok (.newarray .int, 2) := by decide +kernel
theorem dX6_init_28 : decode cX6_init 28 = .ok (.putfield 18, 3) := by decide +kernel
theorem dX6_init_31 : decode cX6_init 31 = .ok (.aload_n 0, 1) := by decide +kernel
theorem dX6_init_32 : decode cX6_init 32 = .ok (.sipush 128, 3) := by decide +kernel
theorem dX6_init_35 : decode cX6_init 35 = .ok (.newarray .int, 2) := by decide +kernel
theorem dX6_init_37 : decode cX6_init 37 = .ok (.putfield 21, 3) := by decide +kernel
theorem dX6_init_40 : decode cX6_init 40 = .ok (.aload_n 0, 1) := by decide +kernel
theorem dX6_init_41 : decode cX6_init 41 = .ok (.iconst (-1), 1) := by decide +kernel
theorem dX6_init_42 : decode cX6_init 42 = .ok (.putfield 24, 3) := by decide +kernel
theorem dX6_init_45 : decode cX6_init 45 = .ok (.aload_n 0, 1) := by decide +kernel
theorem dX6_init_46 : decode cX6_init 46 = .ok (.aload_n 1, 1) := by decide +kernel
theorem dX6_init_47 : decode cX6_init 47 = .ok (.putfield 28, 3) := by decide +kernel
theorem dX6_init_50 : decode cX6_init 50 = .ok (.aload_n 0, 1) := by decide +kernel
theorem dX6_init_51 : decode cX6_init 51 = .ok (.getfield 15, 3) := by decide +kernel
theorem dX6_init_54 : decode cX6_init 54 = .ok (.iconst 1, 1) := by decide +kernel
theorem dX6_init_55 : decode cX6_init 55 = .ok (.bipush 63, 2) := by decide +kernel
theorem dX6_init_57 : decode cX6_init 57 = .ok (.iastore, 1) := by decide +kernel
theorem dX6_init_58 : decode cX6_init 58 = .ok (.iconst 1, 1) := by decide +kernel
theorem dX6_init_59 : decode cX6_init 59 = .ok (.istore_n 2, 1) := by decide +kernel
theorem dX6_init_60 : decode cX6_init 60 = .ok (.iconst 2, 1) := by decide +kernel
theorem dX6_init_61 : decode cX6_init 61 = .ok (.iload_n 2, 1) := by decide +kernel
theorem dX6_init_62 : decode cX6_init 62 = .ok (.imul, 1) := by decide +kernel
theorem dX6_init_63 : decode cX6_init 63 = .ok (.bipush 127, 2) := by decide +kernel
theorem dX6_init_65 : decode cX6_init 65 = .ok (.if_icmp .ge 77, 3) := by decide +kernel
theorem dX6_init_68 : decode cX6_init 68 = .ok (.aload_n 0, 1) := by decide +kernel
theorem dX6_init_69 : decode cX6_init 69 = .ok (.getfield 9, 3) := by decide +kernel
theorem dX6_init_72 : decode cX6_init 72 = .ok (.iload_n 2, 1) := by decide +kernel
theorem dX6_init_73 : decode cX6_init 73 = .ok (.iaload, 1) := by decide +kernel
theorem dX6_init_74 : decode cX6_init 74 = .ok (.aload_n 0, 1) := by decide +kernel
theorem dX6_init_75 : decode cX6_init 75 = .ok (.getfield 15, 3) := by decide +kernel
theorem dX6_init_78 : decode cX6_init 78 = .ok (.iload_n 2, 1) := by decide +kernel
theorem dX6_init_79 : decode cX6_init 79 = .ok (.iaload, 1) := by decide +kernel
theorem dX6_init_80 : decode cX6_init 80 = .ok (.iadd, 1) := by decide +kernel
theorem dX6_init_81 : decode cX6_init 81 = .ok (.iconst 2, 1) := by decide +kernel
theorem dX6_init_82 : decode cX6_init 82 = .ok (.idiv, 1) := by decide +kernel
theorem dX6_init_83 : decode cX6_init 83 = .ok (.istore_n 3, 1) := by decide +kernel
theorem dX6_init_84 : decode cX6_init 84 = .ok (.aload_n 0, 1) := by decide +kernel
theorem dX6_init_85 : decode cX6_init 85 = .ok (.getfield 9, 3) := by decide +kernel
theorem dX6_init_88 : decode cX6_init 88 = .ok (.iconst 2, 1) := by decide +kernel
theorem dX6_init_89 : decode cX6_init 89 = .ok (.iload_n 2, 1) := by decide +kernel
theorem dX6_init_90 : decode cX6_init 90 = .ok (.imul, 1) := by decide +kernel
theorem dX6_init_91 : decode cX6_init 91 = .ok (.aload_n 0, 1) := by decide +kernel
theorem dX6_init_92 : decode cX6_init 92 = .ok (.getfield 9, 3) := by decide +kernel
theorem dX6_init_95 : decode cX6_init 95 = .ok (.iload_n 2, 1) := by decide +kernel
theorem dX6_init_96 : decode cX6_init 96 = .ok (.iaload, 1) := by decide +kernel
theorem dX6_init_97 : decode cX6_init 97 = .ok (.iastore, 1) := by decide +kernel
theorem dX6_init_98 : decode cX6_init 98 = .ok (.aload_n 0, 1) := by decide +kernel
theorem dX6_init_99 : decode cX6_init 99 = .ok (.getfield 15, 3) := by decide +kernel
theorem dX6_init_102 : decode cX6_init 102 = .ok (.iconst 2, 1) := by decide +kernel
theorem dX6_init_103 : decode cX6_init 103 = .ok (.iload_n 2, 1) := by decide +kernel
theorem dX6_init_104 : decode cX6_init 104 = .ok (.imul, 1) := by decide +kernel
theorem dX6_init_105 : decode cX6_init 105 = .ok (.iload_n 3, 1) := by decide +kernel
theorem dX6_init_106 : decode cX6_init 106 = .ok (.iastore, 1) := by decide +kernel
theorem dX6_init_107 : decode cX6_init 107 = .ok (.aload_n 0, 1) := by decide +kernel
theorem dX6_init_108 : decode cX6_init 108 = .ok (.getfield 9, 3) := by decide +kernel
theorem dX6_init_111 : decode cX6_init 111 = .ok (.iconst 2, 1) := by decide +kernel
theorem dX6_init_112 : decode cX6_init 112 = .ok (.iload_n 2, 1) := by decide +kernel
theorem dX6_init_113 : decode cX6_init 113 = .ok (.imul, 1) := by decide +kernel
theorem dX6_init_114 : decode cX6_init 114 = .ok (.iconst 1, 1) := by decide +kernel
theorem dX6_init_115 : decode cX6_init 115 = .ok (.iadd, 1) := by decide +kernel
theorem dX6_init_116 : decode cX6_init 116 = .ok (.iload_n 3, 1) := by decide +kernel
theorem dX6_init_117 : decode cX6_init 117 = .ok (.iconst 1, 1) := by decide +kernel
theorem dX6_init_118 : decode cX6_init 118 = .ok (.iadd, 1) := by decide +kernel
theorem dX6_init_119 : decode cX6_init 119 = .ok (.iastore, 1) := by decide +kernel
theorem dX6_init_120 : decode cX6_init 120 = .ok (.aload_n 0, 1) := by decide +kernel
theorem dX6_init_121 : decode cX6_init 121 = .ok (.getfield 15, 3) := by decide +kernel
theorem dX6_init_124 : decode cX6_init 124 = .ok (.iconst 2, 1) := by decide +kernel
theorem dX6_init_125 : decode cX6_init 125 = .ok (.iload_n 2, 1) := by decide +kernel
theorem dX6_init_126 : decode cX6_init 126 = .ok (.imul, 1) := by decide +kernel
theorem dX6_init_127 : decode cX6_init 127 = .ok (.iconst 1, 1) := by decide +kernel
theorem dX6_init_128 : decode cX6_init 128 = .ok (.iadd, 1) := by decide +kernel
theorem dX6_init_129 : decode cX6_init 129 = .ok (.aload_n 0, 1) := by decide +kernel
theorem dX6_init_130 : decode cX6_init 130 = .ok (.getfield 15, 3) := by decide +kernel
theorem dX6_init_133 : decode cX6_init 133 = .ok (.iload_n 2, 1) := by decide +kernel
theorem dX6_init_134 : decode cX6_init 134 = .ok (.iaload, 1) := by decide +kernel
theorem dX6_init_135 : decode cX6_init 135 = .ok (.iastore, 1) := by decide +kernel
theorem dX6_init_136 : decode cX6_init 136 = .ok (.iinc 2 1, 3) := by decide +kernel
theorem dX6_init_139 : decode cX6_init 139 = .ok (.goto (-79), 3) := by decide +kernel
theorem dX6_init_142 : decode cX6_init 142 = .ok (.return_, 1) := by decide +kernel
theorem dX6_firstPlace_0 : decode cX6_firstPlace 0 = .ok (.iload_n 1, 1) := by decide +kernel
theorem dX6_firstPlace_1 : decode cX6_firstPlace 1 = .ok (.invokestatic 32, 3) := by decide +kernel
theorem dX6_firstPlace_4 : decode cX6_firstPlace 4 = .ok (.ifCond .eq 12, 3) := by decide +kernel
theorem dX6_firstPlace_7 : decode cX6_firstPlace 7 = .ok (.aload_n 0, 1) := by decide +kernel
theorem dX6_firstPlace_8 : decode cX6_firstPlace 8 = .ok (.getfield 9, 3) := by decide +kernel
theorem dX6_firstPlace_11 : decode cX6_firstPlace 11 = .ok (.iload_n 1, 1) := by decide +kernel
theorem dX6_firstPlace_12 : decode cX6_firstPlace 12 = .ok (.iaload, 1) := by decide +kernel
theorem dX6_firstPlace_13 : decode cX6_firstPlace 13 = .ok (.goto 4, 3) := by decide +kernel
theorem dX6_firstPlace_16 : decode cX6_firstPlace 16 = .ok (.iconst (-1), 1) := by decide +kernel
theorem dX6_firstPlace_17 : decode cX6_firstPlace 17 = .ok (.ireturn, 1) := by decide +kernel
theorem dX6_lastPlace_0 : decode cX6_lastPlace 0 = .ok (.iload_n 1, 1) := by decide +kernel
theorem dX6_lastPlace_1 : decode cX6_lastPlace 1 = .ok (.invokestatic 32, 3) := by decide +kernel
theorem dX6_lastPlace_4 : decode cX6_lastPlace 4 = .ok (.ifCond .eq 12, 3) := by decide +kernel
theorem dX6_lastPlace_7 : decode cX6_lastPlace 7 = .ok (.aload_n 0, 1) := by decide +kernel
theorem dX6_lastPlace_8 : decode cX6_lastPlace 8 = .ok (.getfield 15, 3) := by decide +kernel
theorem dX6_lastPlace_11 : decode cX6_lastPlace 11 = .ok (.iload_n 1, 1) := by decide +kernel
theorem dX6_lastPlace_12 : decode cX6_lastPlace 12 = .ok (.iaload, 1) := by decide +kernel
theorem dX6_lastPlace_13 : decode cX6_lastPlace 13 = .ok (.goto 4, 3) := by decide +kernel
theorem dX6_lastPlace_16 : decode cX6_lastPlace 16 = .ok (.iconst (-1), 1) := by decide +kernel
theorem dX6_lastPlace_17 : decode cX6_lastPlace 17 = .ok (.ireturn, 1) := by decide +kernel
theorem dX6_middle_0 : decode cX6_middle 0 = .ok (.iload_n 1, 1) := by decide +kernel
theorem dX6_middle_1 : decode cX6_middle 1 = .ok (.invokestatic 32, 3) := by decide +kernel
theorem dX6_middle_4 : decode cX6_middle 4 = .ok (.ifCond .eq 21, 3) := by decide +kernel
theorem dX6_middle_7 : decode cX6_middle 7 = .ok (.aload_n 0, 1) := by decide +kernel
theorem dX6_middle_8 : decode cX6_middle 8 = .ok (.getfield 9, 3) := by decide +kernel
theorem dX6_middle_11 : decode cX6_middle 11 = .ok (.iload_n 1, 1) := by decide +kernel
theorem dX6_middle_12 : decode cX6_middle 12 = .ok (.iaload, 1) := by decide +kernel
theorem dX6_middle_13 : decode cX6_middle 13 = .ok (.aload_n 0, 1) := by decide +kernel
theorem dX6_middle_14 : decode cX6_middle 14 = .ok (.getfield 15, 3) := by decide +kernel
theorem dX6_middle_17 : decode cX6_middle 17 = .ok (.iload_n 1, 1) := by decide +kernel
theorem dX6_middle_18 : decode cX6_middle 18 = .ok (.iaload, 1) := by decide +kernel
theorem dX6_middle_19 : decode cX6_middle 19 = .ok (.iadd, 1) := by decide +kernel
theorem dX6_middle_20 : decode cX6_middle 20 = .ok (.iconst 2, 1) := by decide +kernel
theorem dX6_middle_21 : decode cX6_middle 21 = .ok (.idiv, 1) := by decide +kernel
theorem dX6_middle_22 : decode cX6_middle 22 = .ok (.goto 4, 3) := by decide +kernel
theorem dX6_middle_25 : decode cX6_middle 25 = .ok (.iconst (-1), 1) := by decide +kernel
theorem dX6_middle_26 : decode cX6_middle 26 = .ok (.ireturn, 1) := by decide +kernel
theorem dX6_lineOf_0 : decode cX6_lineOf 0 = .ok (.aload_n 0, 1) := by decide +kernel
theorem dX6_lineOf_1 : decode cX6_lineOf 1 = .ok (.invokevirtual 36, 3) := by decide +kernel
theorem dX6_lineOf_4 : decode cX6_lineOf 4 = .ok (.iload_n 1, 1) := by decide +kernel
theorem dX6_lineOf_5 : decode cX6_lineOf 5 = .ok (.invokestatic 32, 3) := by decide +kernel
theorem dX6_lineOf_8 : decode cX6_lineOf 8 = .ok (.ifCond .eq 12, 3) := by decide +kernel
theorem dX6_lineOf_11 : decode cX6_lineOf 11 = .ok (.aload_n 0, 1) := by decide +kernel
theorem dX6_lineOf_12 : decode cX6_lineOf 12 = .ok (.getfield 18, 3) := by decide +kernel
theorem dX6_lineOf_15 : decode cX6_lineOf 15 = .ok (.iload_n 1, 1) := by decide +kernel
theorem dX6_lineOf_16 : decode cX6_lineOf 16 = .ok (.iaload, 1) := by decide +kernel
theorem dX6_lineOf_17 : decode cX6_lineOf 17 = .ok (.goto 4, 3) := by decide +kernel
theorem dX6_lineOf_20 : decode cX6_lineOf 20 = .ok (.iconst (-1), 1) := by decide +kernel
theorem dX6_lineOf_21 : decode cX6_lineOf 21 = .ok (.ireturn, 1) := by decide +kernel
theorem dX6_stepsAt_0 : decode cX6_stepsAt 0 = .ok (.aload_n 0, 1) := by decide +kernel
theorem dX6_stepsAt_1 : decode cX6_stepsAt 1 = .ok (.invokevirtual 36, 3) := by decide +kernel
theorem dX6_stepsAt_4 : decode cX6_stepsAt 4 = .ok (.iload_n 1, 1) := by decide +kernel
theorem dX6_stepsAt_5 : decode cX6_stepsAt 5 = .ok (.invokestatic 32, 3) := by decide +kernel
theorem dX6_stepsAt_8 : decode cX6_stepsAt 8 = .ok (.ifCond .eq 12, 3) := by decide +kernel
theorem dX6_stepsAt_11 : decode cX6_stepsAt 11 = .ok (.aload_n 0, 1) := by decide +kernel
theorem dX6_stepsAt_12 : decode cX6_stepsAt 12 = .ok (.getfield 21, 3) := by decide +kernel
theorem dX6_stepsAt_15 : decode cX6_stepsAt 15 = .ok (.iload_n 1, 1) := by decide +kernel
theorem dX6_stepsAt_16 : decode cX6_stepsAt 16 = .ok (.iaload, 1) := by decide +kernel
theorem dX6_stepsAt_17 : decode cX6_stepsAt 17 = .ok (.goto 4, 3) := by decide +kernel
theorem dX6_stepsAt_20 : decode cX6_stepsAt 20 = .ok (.iconst (-1), 1) := by decide +kernel
theorem dX6_stepsAt_21 : decode cX6_stepsAt 21 = .ok (.ireturn, 1) := by decide +kernel
theorem dX6_nodesOf_0 : decode cX6_nodesOf 0 = .ok (.aload_n 0, 1) := by decide +kernel
theorem dX6_nodesOf_1 : decode cX6_nodesOf 1 = .ok (.invokevirtual 36, 3) := by decide +kernel
theorem dX6_nodesOf_4 : decode cX6_nodesOf 4 = .ok (.iconst 0, 1) := by decide +kernel
theorem dX6_nodesOf_5 : decode cX6_nodesOf 5 = .ok (.istore_n 2, 1) := by decide +kernel
theorem dX6_nodesOf_6 : decode cX6_nodesOf 6 = .ok (.iconst 1, 1) := by decide +kernel
theorem dX6_nodesOf_7 : decode cX6_nodesOf 7 = .ok (.istore_n 3, 1) := by decide +kernel
theorem dX6_nodesOf_8 : decode cX6_nodesOf 8 = .ok (.iload_n 3, 1) := by decide +kernel
theorem dX6_nodesOf_9 : decode cX6_nodesOf 9 = .ok (.bipush 127, 2) := by decide +kernel
theorem dX6_nodesOf_11 : decode cX6_nodesOf 11 = .ok (.if_icmp .gt 22, 3) := by decide +kernel
theorem dX6_nodesOf_14 : decode cX6_nodesOf 14 = .ok (.aload_n 0, 1) := by decide +kernel
theorem dX6_nodesOf_15 : decode cX6_nodesOf 15 = .ok (.getfield 18, 3) := by decide +kernel
theorem dX6_nodesOf_18 : decode cX6_nodesOf 18 = .ok (.iload_n 3, 1) := by decide +kernel
theorem dX6_nodesOf_19 : decode cX6_nodesOf 19 = .ok (.iaload, 1) := by decide +kernel
theorem dX6_nodesOf_20 : decode cX6_nodesOf 20 = .ok (.iload_n 1, 1) := by decide +kernel
theorem dX6_nodesOf_21 : decode cX6_nodesOf 21 = .ok (.if_icmp .ne 6, 3) := by decide +kernel
theorem dX6_nodesOf_24 : decode cX6_nodesOf 24 = .ok (.iinc 2 1, 3) := by decide +kernel
theorem dX6_nodesOf_27 : decode cX6_nodesOf 27 = .ok (.iinc 3 1, 3) := by decide +kernel
theorem dX6_nodesOf_30 : decode cX6_nodesOf 30 = .ok (.goto (-22), 3) := by decide +kernel
theorem dX6_nodesOf_33 : decode cX6_nodesOf 33 = .ok (.iload_n 2, 1) := by decide +kernel
theorem dX6_nodesOf_34 : decode cX6_nodesOf 34 = .ok (.ireturn, 1) := by decide +kernel
theorem dX6_allSteps_0 : decode cX6_allSteps 0 = .ok (.aload_n 0, 1) := by decide +kernel
theorem dX6_allSteps_1 : decode cX6_allSteps 1 = .ok (.invokevirtual 36, 3) := by decide +kernel
theorem dX6_allSteps_4 : decode cX6_allSteps 4 = .ok (.iconst 0, 1) := by decide +kernel
theorem dX6_allSteps_5 : decode cX6_allSteps 5 = .ok (.istore_n 1, 1) := by decide +kernel
theorem dX6_allSteps_6 : decode cX6_allSteps 6 = .ok (.iconst 1, 1) := by decide +kernel
theorem dX6_allSteps_7 : decode cX6_allSteps 7 = .ok (.istore_n 2, 1) := by decide +kernel
theorem dX6_allSteps_8 : decode cX6_allSteps 8 = .ok (.iload_n 2, 1) := by decide +kernel
theorem dX6_allSteps_9 : decode cX6_allSteps 9 = .ok (.bipush 127, 2) := by decide +kernel
theorem dX6_allSteps_11 : decode cX6_allSteps 11 = .ok (.if_icmp .gt 18, 3) := by decide +kernel
theorem dX6_allSteps_14 : decode cX6_allSteps 14 = .ok (.iload_n 1, 1) := by decide +kernel
theorem dX6_allSteps_15 : decode cX6_allSteps 15 = .ok (.aload_n 0, 1) := by decide +kernel
theorem dX6_allSteps_16 : decode cX6_allSteps 16 = .ok (.getfield 21, 3) := by decide +kernel
theorem dX6_allSteps_19 : decode cX6_allSteps 19 = .ok (.iload_n 2, 1) := by decide +kernel
theorem dX6_allSteps_20 : decode cX6_allSteps 20 = .ok (.iaload, 1) := by decide +kernel
theorem dX6_allSteps_21 : decode cX6_allSteps 21 = .ok (.iadd, 1) := by decide +kernel
theorem dX6_allSteps_22 : decode cX6_allSteps 22 = .ok (.istore_n 1, 1) := by decide +kernel
theorem dX6_allSteps_23 : decode cX6_allSteps 23 = .ok (.iinc 2 1, 3) := by decide +kernel
theorem dX6_allSteps_26 : decode cX6_allSteps 26 = .ok (.goto (-18), 3) := by decide +kernel
theorem dX6_allSteps_29 : decode cX6_allSteps 29 = .ok (.iload_n 1, 1) := by decide +kernel
theorem dX6_allSteps_30 : decode cX6_allSteps 30 = .ok (.ireturn, 1) := by decide +kernel
theorem dX6_has_0 : decode cX6_has 0 = .ok (.iload_n 0, 1) := by decide +kernel
theorem dX6_has_1 : decode cX6_has 1 = .ok (.iconst 1, 1) := by decide +kernel
theorem dX6_has_2 : decode cX6_has 2 = .ok (.if_icmp .lt 13, 3) := by decide +kernel
theorem dX6_has_5 : decode cX6_has 5 = .ok (.iload_n 0, 1) := by decide +kernel
theorem dX6_has_6 : decode cX6_has 6 = .ok (.bipush 127, 2) := by decide +kernel
theorem dX6_has_8 : decode cX6_has 8 = .ok (.if_icmp .gt 7, 3) := by decide +kernel
theorem dX6_has_11 : decode cX6_has 11 = .ok (.iconst 1, 1) := by decide +kernel
theorem dX6_has_12 : decode cX6_has 12 = .ok (.goto 4, 3) := by decide +kernel
theorem dX6_has_15 : decode cX6_has 15 = .ok (.iconst 0, 1) := by decide +kernel
theorem dX6_has_16 : decode cX6_has 16 = .ok (.ireturn, 1) := by decide +kernel
theorem dX6_renew_0 : decode cX6_renew 0 = .ok (.aload_n 0, 1) := by decide +kernel
theorem dX6_renew_1 : decode cX6_renew 1 = .ok (.getfield 24, 3) := by decide +kernel
theorem dX6_renew_4 : decode cX6_renew 4 = .ok (.aload_n 0, 1) := by decide +kernel
theorem dX6_renew_5 : decode cX6_renew 5 = .ok (.getfield 28, 3) := by decide +kernel
theorem dX6_renew_8 : decode cX6_renew 8 = .ok (.invokevirtual 39, 3) := by decide +kernel
theorem dX6_renew_11 : decode cX6_renew 11 = .ok (.if_icmp .ne 4, 3) := by decide +kernel
theorem dX6_renew_14 : decode cX6_renew 14 = .ok (.return_, 1) := by decide +kernel
theorem dX6_renew_15 : decode cX6_renew 15 = .ok (.aload_n 0, 1) := by decide +kernel
theorem dX6_renew_16 : decode cX6_renew 16 = .ok (.aload_n 0, 1) := by decide +kernel
theorem dX6_renew_17 : decode cX6_renew 17 = .ok (.getfield 28, 3) := by decide +kernel
theorem dX6_renew_20 : decode cX6_renew 20 = .ok (.invokevirtual 39, 3) := by decide +kernel
theorem dX6_renew_23 : decode cX6_renew 23 = .ok (.putfield 24, 3) := by decide +kernel
theorem dX6_renew_26 : decode cX6_renew 26 = .ok (.aload_n 0, 1) := by decide +kernel
theorem dX6_renew_27 : decode cX6_renew 27 = .ok (.getfield 18, 3) := by decide +kernel
theorem dX6_renew_30 : decode cX6_renew 30 = .ok (.iconst (-1), 1) := by decide +kernel
theorem dX6_renew_31 : decode cX6_renew 31 = .ok (.invokestatic 44, 3) := by decide +kernel
theorem dX6_renew_34 : decode cX6_renew 34 = .ok (.aload_n 0, 1) := by decide +kernel
theorem dX6_renew_35 : decode cX6_renew 35 = .ok (.getfield 21, 3) := by decide +kernel
theorem dX6_renew_38 : decode cX6_renew 38 = .ok (.iconst 0, 1) := by decide +kernel
theorem dX6_renew_39 : decode cX6_renew 39 = .ok (.invokestatic 44, 3) := by decide +kernel
theorem dX6_renew_42 : decode cX6_renew 42 = .ok (.iconst 0, 1) := by decide +kernel
theorem dX6_renew_43 : decode cX6_renew 43 = .ok (.istore_n 1, 1) := by decide +kernel
theorem dX6_renew_44 : decode cX6_renew 44 = .ok (.iload_n 1, 1) := by decide +kernel
theorem dX6_renew_45 : decode cX6_renew 45 = .ok (.aload_n 0, 1) := by decide +kernel
theorem dX6_renew_46 : decode cX6_renew 46 = .ok (.getfield 28, 3) := by decide +kernel
theorem dX6_renew_49 : decode cX6_renew 49 = .ok (.invokevirtual 50, 3) := by decide +kernel
theorem dX6_renew_52 : decode cX6_renew 52 = .ok (.if_icmp .ge 33, 3) := by decide +kernel
theorem dX6_renew_55 : decode cX6_renew 55 = .ok (.aload_n 0, 1) := by decide +kernel
theorem dX6_renew_56 : decode cX6_renew 56 = .ok (.getfield 28, 3) := by decide +kernel
theorem dX6_renew_59 : decode cX6_renew 59 = .ok (.iload_n 1, 1) := by decide +kernel
theorem dX6_renew_60 : decode cX6_renew 60 = .ok (.aload_n 0, 1) := by decide +kernel
theorem dX6_renew_61 : decode cX6_renew 61 = .ok (.getfield 28, 3) := by decide +kernel
theorem dX6_renew_64 : decode cX6_renew 64 = .ok (.invokevirtual 53, 3) := by decide +kernel
theorem dX6_renew_67 : decode cX6_renew 67 = .ok (.invokevirtual 56, 3) := by decide +kernel
theorem dX6_renew_70 : decode cX6_renew 70 = .ok (.ifCond .eq 9, 3) := by decide +kernel
theorem dX6_renew_73 : decode cX6_renew 73 = .ok (.aload_n 0, 1) := by decide +kernel
theorem dX6_renew_74 : decode cX6_renew 74 = .ok (.iload_n 1, 1) := by decide +kernel
theorem dX6_renew_75 : decode cX6_renew 75 = .ok (.iconst 1, 1) := by decide +kernel
theorem dX6_renew_76 : decode cX6_renew 76 = .ok (.invokevirtual 60, 3) := by decide +kernel
theorem dX6_renew_79 : decode cX6_renew 79 = .ok (.iinc 1 1, 3) := by decide +kernel
theorem dX6_renew_82 : decode cX6_renew 82 = .ok (.goto (-38), 3) := by decide +kernel
theorem dX6_renew_85 : decode cX6_renew 85 = .ok (.return_, 1) := by decide +kernel
theorem dX6_put_0 : decode cX6_put 0 = .ok (.iload_n 2, 1) := by decide +kernel
theorem dX6_put_1 : decode cX6_put 1 = .ok (.iconst 1, 1) := by decide +kernel
theorem dX6_put_2 : decode cX6_put 2 = .ok (.if_icmp .lt 9, 3) := by decide +kernel
theorem dX6_put_5 : decode cX6_put 5 = .ok (.iload_n 2, 1) := by decide +kernel
theorem dX6_put_6 : decode cX6_put 6 = .ok (.bipush 127, 2) := by decide +kernel
theorem dX6_put_8 : decode cX6_put 8 = .ok (.if_icmp .le 4, 3) := by decide +kernel
theorem dX6_put_11 : decode cX6_put 11 = .ok (.return_, 1) := by decide +kernel
theorem dX6_put_12 : decode cX6_put 12 = .ok (.aload_n 0, 1) := by decide +kernel
theorem dX6_put_13 : decode cX6_put 13 = .ok (.getfield 9, 3) := by decide +kernel
theorem dX6_put_16 : decode cX6_put 16 = .ok (.iload_n 2, 1) := by decide +kernel
theorem dX6_put_17 : decode cX6_put 17 = .ok (.iaload, 1) := by decide +kernel
theorem dX6_put_18 : decode cX6_put 18 = .ok (.istore_n 3, 1) := by decide +kernel
theorem dX6_put_19 : decode cX6_put 19 = .ok (.aload_n 0, 1) := by decide +kernel
theorem dX6_put_20 : decode cX6_put 20 = .ok (.getfield 15, 3) := by decide +kernel
theorem dX6_put_23 : decode cX6_put 23 = .ok (.iload_n 2, 1) := by decide +kernel
theorem dX6_put_24 : decode cX6_put 24 = .ok (.iaload, 1) := by decide +kernel
theorem dX6_put_25 : decode cX6_put 25 = .ok (.istore 4, 2) := by decide +kernel
theorem dX6_put_27 : decode cX6_put 27 = .ok (.aload_n 0, 1) := by decide +kernel
theorem dX6_put_28 : decode cX6_put 28 = .ok (.getfield 28, 3) := by decide +kernel
theorem dX6_put_31 : decode cX6_put 31 = .ok (.iload_n 1, 1) := by decide +kernel
theorem dX6_put_32 : decode cX6_put 32 = .ok (.iconst 2, 1) := by decide +kernel
theorem dX6_put_33 : decode cX6_put 33 = .ok (.invokevirtual 64, 3) := by decide +kernel
theorem dX6_put_36 : decode cX6_put 36 = .ok (.istore 5, 2) := by decide +kernel
theorem dX6_put_38 : decode cX6_put 38 = .ok (.aload_n 0, 1) := by decide +kernel
theorem dX6_put_39 : decode cX6_put 39 = .ok (.getfield 28, 3) := by decide +kernel
theorem dX6_put_42 : decode cX6_put 42 = .ok (.iload_n 1, 1) := by decide +kernel
theorem dX6_put_43 : decode cX6_put 43 = .ok (.iconst 3, 1) := by decide +kernel
theorem dX6_put_44 : decode cX6_put 44 = .ok (.invokevirtual 64, 3) := by decide +kernel
theorem dX6_put_47 : decode cX6_put 47 = .ok (.istore 6, 2) := by decide +kernel
theorem dX6_put_49 : decode cX6_put 49 = .ok (.iload 6, 2) := by decide +kernel
theorem dX6_put_51 : decode cX6_put 51 = .ok (.iload_n 3, 1) := by decide +kernel
theorem dX6_put_52 : decode cX6_put 52 = .ok (.if_icmp .lt 10, 3) := by decide +kernel
theorem dX6_put_55 : decode cX6_put 55 = .ok (.iload 5, 2) := by decide +kernel
theorem dX6_put_57 : decode cX6_put 57 = .ok (.iload 4, 2) := by decide +kernel
theorem dX6_put_59 : decode cX6_put 59 = .ok (.if_icmp .le 4, 3) := by decide +kernel
theorem dX6_put_62 : decode cX6_put 62 = .ok (.return_, 1) := by decide +kernel
theorem dX6_put_63 : decode cX6_put 63 = .ok (.iload 5, 2) := by decide +kernel
theorem dX6_put_65 : decode cX6_put 65 = .ok (.iload_n 3, 1) := by decide +kernel
theorem dX6_put_66 : decode cX6_put 66 = .ok (.if_icmp .gt 10, 3) := by decide +kernel
theorem dX6_put_69 : decode cX6_put 69 = .ok (.iload 6, 2) := by decide +kernel
theorem dX6_put_71 : decode cX6_put 71 = .ok (.iload 4, 2) := by decide +kernel
theorem dX6_put_73 : decode cX6_put 73 = .ok (.if_icmp .ge 22, 3) := by decide +kernel
theorem dX6_put_76 : decode cX6_put 76 = .ok (.aload_n 0, 1) := by decide +kernel
theorem dX6_put_77 : decode cX6_put 77 = .ok (.iload_n 1, 1) := by decide +kernel
theorem dX6_put_78 : decode cX6_put 78 = .ok (.iconst 2, 1) := by decide +kernel
theorem dX6_put_79 : decode cX6_put 79 = .ok (.iload_n 2, 1) := by decide +kernel
theorem dX6_put_80 : decode cX6_put 80 = .ok (.imul, 1) := by decide +kernel
theorem dX6_put_81 : decode cX6_put 81 = .ok (.invokevirtual 60, 3) := by decide +kernel
theorem dX6_put_84 : decode cX6_put 84 = .ok (.aload_n 0, 1) := by decide +kernel
theorem dX6_put_85 : decode cX6_put 85 = .ok (.iload_n 1, 1) := by decide +kernel
theorem dX6_put_86 : decode cX6_put 86 = .ok (.iconst 2, 1) := by decide +kernel
theorem dX6_put_87 : decode cX6_put 87 = .ok (.iload_n 2, 1) := by decide +kernel
theorem dX6_put_88 : decode cX6_put 88 = .ok (.imul, 1) := by decide +kernel
theorem dX6_put_89 : decode cX6_put 89 = .ok (.iconst 1, 1) := by decide +kernel
theorem dX6_put_90 : decode cX6_put 90 = .ok (.iadd, 1) := by decide +kernel
theorem dX6_put_91 : decode cX6_put 91 = .ok (.invokevirtual 60, 3) := by decide +kernel
theorem dX6_put_94 : decode cX6_put 94 = .ok (.return_, 1) := by decide +kernel
theorem dX6_put_95 : decode cX6_put 95 = .ok (.aload_n 0, 1) := by decide +kernel
theorem dX6_put_96 : decode cX6_put 96 = .ok (.getfield 21, 3) := by decide +kernel
theorem dX6_put_99 : decode cX6_put 99 = .ok (.iload_n 2, 1) := by decide +kernel
theorem dX6_put_100 : decode cX6_put 100 = .ok (.dup2, 1) := by decide +kernel
theorem dX6_put_101 : decode cX6_put 101 = .ok (.iaload, 1) := by decide +kernel
theorem dX6_put_102 : decode cX6_put 102 = .ok (.iconst 1, 1) := by decide +kernel
theorem dX6_put_103 : decode cX6_put 103 = .ok (.iadd, 1) := by decide +kernel
theorem dX6_put_104 : decode cX6_put 104 = .ok (.iastore, 1) := by decide +kernel
theorem dX6_put_105 : decode cX6_put 105 = .ok (.aload_n 0, 1) := by decide +kernel
theorem dX6_put_106 : decode cX6_put 106 = .ok (.getfield 18, 3) := by decide +kernel
theorem dX6_put_109 : decode cX6_put 109 = .ok (.iload_n 2, 1) := by decide +kernel
theorem dX6_put_110 : decode cX6_put 110 = .ok (.iaload, 1) := by decide +kernel
theorem dX6_put_111 : decode cX6_put 111 = .ok (.iconst (-1), 1) := by decide +kernel
theorem dX6_put_112 : decode cX6_put 112 = .ok (.if_icmp .ne 11, 3) := by decide +kernel
theorem dX6_put_115 : decode cX6_put 115 = .ok (.aload_n 0, 1) := by decide +kernel
theorem dX6_put_116 : decode cX6_put 116 = .ok (.getfield 18, 3) := by decide +kernel
theorem dX6_put_119 : decode cX6_put 119 = .ok (.iload_n 2, 1) := by decide +kernel
theorem dX6_put_120 : decode cX6_put 120 = .ok (.iload_n 1, 1) := by decide +kernel
theorem dX6_put_121 : decode cX6_put 121 = .ok (.iastore, 1) := by decide +kernel
theorem dX6_put_122 : decode cX6_put 122 = .ok (.return_, 1) := by decide +kernel
theorem dX6_put_123 : decode cX6_put 123 = .ok (.iload_n 1, 1) := by decide +kernel
theorem dX6_put_124 : decode cX6_put 124 = .ok (.istore 7, 2) := by decide +kernel
theorem dX6_put_126 : decode cX6_put 126 = .ok (.aload_n 0, 1) := by decide +kernel
theorem dX6_put_127 : decode cX6_put 127 = .ok (.getfield 28, 3) := by decide +kernel
theorem dX6_put_130 : decode cX6_put 130 = .ok (.iload_n 1, 1) := by decide +kernel
theorem dX6_put_131 : decode cX6_put 131 = .ok (.aload_n 0, 1) := by decide +kernel
theorem dX6_put_132 : decode cX6_put 132 = .ok (.getfield 18, 3) := by decide +kernel
theorem dX6_put_135 : decode cX6_put 135 = .ok (.iload_n 2, 1) := by decide +kernel
theorem dX6_put_136 : decode cX6_put 136 = .ok (.iaload, 1) := by decide +kernel
theorem dX6_put_137 : decode cX6_put 137 = .ok (.iload_n 3, 1) := by decide +kernel
theorem dX6_put_138 : decode cX6_put 138 = .ok (.iload 4, 2) := by decide +kernel
theorem dX6_put_140 : decode cX6_put 140 = .ok (.iadd, 1) := by decide +kernel
theorem dX6_put_141 : decode cX6_put 141 = .ok (.iconst 2, 1) := by decide +kernel
theorem dX6_put_142 : decode cX6_put 142 = .ok (.idiv, 1) := by decide +kernel
theorem dX6_put_143 : decode cX6_put 143 = .ok (.invokevirtual 68, 3) := by decide +kernel
theorem dX6_put_146 : decode cX6_put 146 = .ok (.ifCond .eq 18, 3) := by decide +kernel
theorem dX6_put_149 : decode cX6_put 149 = .ok (.aload_n 0, 1) := by decide +kernel
theorem dX6_put_150 : decode cX6_put 150 = .ok (.getfield 18, 3) := by decide +kernel
theorem dX6_put_153 : decode cX6_put 153 = .ok (.iload_n 2, 1) := by decide +kernel
theorem dX6_put_154 : decode cX6_put 154 = .ok (.iaload, 1) := by decide +kernel
theorem dX6_put_155 : decode cX6_put 155 = .ok (.istore 7, 2) := by decide +kernel
theorem dX6_put_157 : decode cX6_put 157 = .ok (.aload_n 0, 1) := by decide +kernel
theorem dX6_put_158 : decode cX6_put 158 = .ok (.getfield 18, 3) := by decide +kernel
theorem dX6_put_161 : decode cX6_put 161 = .ok (.iload_n 2, 1) := by decide +kernel
theorem dX6_put_162 : decode cX6_put 162 = .ok (.iload_n 1, 1) := by decide +kernel
theorem dX6_put_163 : decode cX6_put 163 = .ok (.iastore, 1) := by decide +kernel
theorem dX6_put_164 : decode cX6_put 164 = .ok (.iload_n 3, 1) := by decide +kernel
theorem dX6_put_165 : decode cX6_put 165 = .ok (.iload 4, 2) := by decide +kernel
theorem dX6_put_167 : decode cX6_put 167 = .ok (.if_icmp .ne 4, 3) := by decide +kernel
theorem dX6_put_170 : decode cX6_put 170 = .ok (.return_, 1) := by decide +kernel
theorem dX6_put_171 : decode cX6_put 171 = .ok (.aload_n 0, 1) := by decide +kernel
theorem dX6_put_172 : decode cX6_put 172 = .ok (.getfield 28, 3) := by decide +kernel
theorem dX6_put_175 : decode cX6_put 175 = .ok (.iload 7, 2) := by decide +kernel
theorem dX6_put_177 : decode cX6_put 177 = .ok (.aload_n 0, 1) := by decide +kernel
theorem dX6_put_178 : decode cX6_put 178 = .ok (.getfield 18, 3) := by decide +kernel
theorem dX6_put_181 : decode cX6_put 181 = .ok (.iload_n 2, 1) := by decide +kernel
theorem dX6_put_182 : decode cX6_put 182 = .ok (.iaload, 1) := by decide +kernel
theorem dX6_put_183 : decode cX6_put 183 = .ok (.iload_n 3, 1) := by decide +kernel
theorem dX6_put_184 : decode cX6_put 184 = .ok (.invokevirtual 68, 3) := by decide +kernel
theorem dX6_put_187 : decode cX6_put 187 = .ok (.ifCond .eq 15, 3) := by decide +kernel
theorem dX6_put_190 : decode cX6_put 190 = .ok (.aload_n 0, 1) := by decide +kernel
theorem dX6_put_191 : decode cX6_put 191 = .ok (.iload 7, 2) := by decide +kernel
theorem dX6_put_193 : decode cX6_put 193 = .ok (.iconst 2, 1) := by decide +kernel
theorem dX6_put_194 : decode cX6_put 194 = .ok (.iload_n 2, 1) := by decide +kernel
theorem dX6_put_195 : decode cX6_put 195 = .ok (.imul, 1) := by decide +kernel
theorem dX6_put_196 : decode cX6_put 196 = .ok (.invokevirtual 60, 3) := by decide +kernel
theorem dX6_put_199 : decode cX6_put 199 = .ok (.goto 34, 3) := by decide +kernel
theorem dX6_put_202 : decode cX6_put 202 = .ok (.aload_n 0, 1) := by decide +kernel
theorem dX6_put_203 : decode cX6_put 203 = .ok (.getfield 28, 3) := by decide +kernel
theorem dX6_put_206 : decode cX6_put 206 = .ok (.iload 7, 2) := by decide +kernel
theorem dX6_put_208 : decode cX6_put 208 = .ok (.aload_n 0, 1) := by decide +kernel
theorem dX6_put_209 : decode cX6_put 209 = .ok (.getfield 18, 3) := by decide +kernel
theorem dX6_put_212 : decode cX6_put 212 = .ok (.iload_n 2, 1) := by decide +kernel
theorem dX6_put_213 : decode cX6_put 213 = .ok (.iaload, 1) := by decide +kernel
theorem dX6_put_214 : decode cX6_put 214 = .ok (.iload 4, 2) := by decide +kernel
theorem dX6_put_216 : decode cX6_put 216 = .ok (.invokevirtual 68, 3) := by decide +kernel
theorem dX6_put_219 : decode cX6_put 219 = .ok (.ifCond .eq 14, 3) := by decide +kernel
theorem dX6_put_222 : decode cX6_put 222 = .ok (.aload_n 0, 1) := by decide +kernel
theorem dX6_put_223 : decode cX6_put 223 = .ok (.iload 7, 2) := by decide +kernel
theorem dX6_put_225 : decode cX6_put 225 = .ok (.iconst 2, 1) := by decide +kernel
theorem dX6_put_226 : decode cX6_put 226 = .ok (.iload_n 2, 1) := by decide +kernel
theorem dX6_put_227 : decode cX6_put 227 = .ok (.imul, 1) := by decide +kernel
theorem dX6_put_228 : decode cX6_put 228 = .ok (.iconst 1, 1) := by decide +kernel
theorem dX6_put_229 : decode cX6_put 229 = .ok (.iadd, 1) := by decide +kernel
theorem dX6_put_230 : decode cX6_put 230 = .ok (.invokevirtual 60, 3) := by decide +kernel
theorem dX6_put_233 : decode cX6_put 233 = .ok (.return_, 1) := by decide +kernel
theorem dX7_init_0 : decode cX7_init 0 = .ok (.aload_n 0, 1) := by decide +kernel
theorem dX7_init_1 : decode cX7_init 1 = .ok (.invokespecial 1, 3) := by decide +kernel
theorem dX7_init_4 : decode cX7_init 4 = .ok (.aload_n 0, 1) := by decide +kernel
theorem dX7_init_5 : decode cX7_init 5 = .ok (.new 7, 3) := by decide +kernel
theorem dX7_init_8 : decode cX7_init 8 = .ok (.dup, 1) := by decide +kernel
theorem dX7_init_9 : decode cX7_init 9 = .ok (.invokespecial 9, 3) := by decide +kernel
theorem dX7_init_12 : decode cX7_init 12 = .ok (.putfield 10, 3) := by decide +kernel
theorem dX7_init_15 : decode cX7_init 15 = .ok (.aload_n 0, 1) := by decide +kernel
theorem dX7_init_16 : decode cX7_init 16 = .ok (.new 16, 3) := by decide +kernel
theorem dX7_init_19 : decode cX7_init 19 = .ok (.dup, 1) := by decide +kernel
theorem dX7_init_20 : decode cX7_init 20 = .ok (.invokespecial 18, 3) := by decide +kernel
theorem dX7_init_23 : decode cX7_init 23 = .ok (.putfield 19, 3) := by decide +kernel
theorem dX7_init_26 : decode cX7_init 26 = .ok (.aload_n 0, 1) := by decide +kernel
theorem dX7_init_27 : decode cX7_init 27 = .ok (.new 23, 3) := by decide +kernel
theorem dX7_init_30 : decode cX7_init 30 = .ok (.dup, 1) := by decide +kernel
theorem dX7_init_31 : decode cX7_init 31 = .ok (.invokespecial 25, 3) := by decide +kernel
theorem dX7_init_34 : decode cX7_init 34 = .ok (.putfield 26, 3) := by decide +kernel
theorem dX7_init_37 : decode cX7_init 37 = .ok (.aload_n 0, 1) := by decide +kernel
theorem dX7_init_38 : decode cX7_init 38 = .ok (.new 30, 3) := by decide +kernel
theorem dX7_init_41 : decode cX7_init 41 = .ok (.dup, 1) := by decide +kernel
theorem dX7_init_42 : decode cX7_init 42 = .ok (.aload_n 0, 1) := by decide +kernel
theorem dX7_init_43 : decode cX7_init 43 = .ok (.getfield 10, 3) := by decide +kernel
theorem dX7_init_46 : decode cX7_init 46 = .ok (.invokespecial 32, 3) := by decide +kernel
theorem dX7_init_49 : decode cX7_init 49 = .ok (.putfield 35, 3) := by decide +kernel
theorem dX7_init_52 : decode cX7_init 52 = .ok (.aload_n 0, 1) := by decide +kernel
theorem dX7_init_53 : decode cX7_init 53 = .ok (.new 39, 3) := by decide +kernel
theorem dX7_init_56 : decode cX7_init 56 = .ok (.dup, 1) := by decide +kernel
theorem dX7_init_57 : decode cX7_init 57 = .ok (.aload_n 0, 1) := by decide +kernel
theorem dX7_init_58 : decode cX7_init 58 = .ok (.getfield 10, 3) := by decide +kernel
theorem dX7_init_61 : decode cX7_init 61 = .ok (.invokespecial 41, 3) := by decide +kernel
theorem dX7_init_64 : decode cX7_init 64 = .ok (.putfield 42, 3) := by decide +kernel
theorem dX7_init_67 : decode cX7_init 67 = .ok (.aload_n 0, 1) := by decide +kernel
theorem dX7_init_68 : decode cX7_init 68 = .ok (.new 46, 3) := by decide +kernel
theorem dX7_init_71 : decode cX7_init 71 = .ok (.dup, 1) := by decide +kernel
theorem dX7_init_72 : decode cX7_init 72 = .ok (.aload_n 0, 1) := by decide +kernel
theorem dX7_init_73 : decode cX7_init 73 = .ok (.getfield 10, 3) := by decide +kernel
theorem dX7_init_76 : decode cX7_init 76 = .ok (.invokespecial 48, 3) := by decide +kernel
theorem dX7_init_79 : decode cX7_init 79 = .ok (.putfield 49, 3) := by decide +kernel
theorem dX7_init_82 : decode cX7_init 82 = .ok (.return_, 1) := by decide +kernel
theorem dX7_add_0 : decode cX7_add 0 = .ok (.iload_n 1, 1) := by decide +kernel
theorem dX7_add_1 : decode cX7_add 1 = .ok (.invokestatic 53, 3) := by decide +kernel
theorem dX7_add_4 : decode cX7_add 4 = .ok (.ifCond .eq 10, 3) := by decide +kernel
theorem dX7_add_7 : decode cX7_add 7 = .ok (.iload_n 2, 1) := by decide +kernel
theorem dX7_add_8 : decode cX7_add 8 = .ok (.invokestatic 57, 3) := by decide +kernel
theorem dX7_add_11 : decode cX7_add 11 = .ok (.ifCond .ne 13, 3) := by decide +kernel
theorem dX7_add_14 : decode cX7_add 14 = .ok (.new 60, 3) := by decide +kernel
theorem dX7_add_17 : decode cX7_add 17 = .ok (.dup, 1) := by decide +kernel
theorem dX7_add_18 : decode cX7_add 18 = .ok (.ldc 62, 2) := by decide +kernel
theorem dX7_add_20 : decode cX7_add 20 = .ok (.invokespecial 64, 3) := by decide +kernel
theorem dX7_add_23 : decode cX7_add 23 = .ok (.athrow, 1) := by decide +kernel
theorem dX7_add_24 : decode cX7_add 24 = .ok (.aload_n 0, 1) := by decide +kernel
theorem dX7_add_25 : decode cX7_add 25 = .ok (.getfield 10, 3) := by decide +kernel
theorem dX7_add_28 : decode cX7_add 28 = .ok (.invokevirtual 67, 3) := by decide +kernel
theorem dX7_add_31 : decode cX7_add 31 = .ok (.bipush 20, 2) := by decide +kernel
theorem dX7_add_33 : decode cX7_add 33 = .ok (.if_icmp .lt 13, 3) := by decide +kernel
theorem dX7_add_36 : decode cX7_add 36 = .ok (.new 71, 3) := by decide +kernel
theorem dX7_add_39 : decode cX7_add 39 = .ok (.dup, 1) := by decide +kernel
theorem dX7_add_40 : decode cX7_add 40 = .ok (.ldc 73, 2) := by decide +kernel
theorem dX7_add_42 : decode cX7_add 42 = .ok (.invokespecial 75, 3) := by decide +kernel
theorem dX7_add_45 : decode cX7_add 45 = .ok (.athrow, 1) := by decide +kernel
theorem dX7_add_46 : decode cX7_add 46 = .ok (.aload_n 0, 1) := by decide +kernel
theorem dX7_add_47 : decode cX7_add 47 = .ok (.getfield 19, 3) := by decide +kernel
theorem dX7_add_50 : decode cX7_add 50 = .ok (.aload_n 0, 1) := by decide +kernel
theorem dX7_add_51 : decode cX7_add 51 = .ok (.getfield 10, 3) := by decide +kernel
theorem dX7_add_54 : decode cX7_add 54 = .ok (.invokevirtual 76, 3) := by decide +kernel
theorem dX7_add_57 : decode cX7_add 57 = .ok (.aload_n 0, 1) := by decide +kernel
theorem dX7_add_58 : decode cX7_add 58 = .ok (.getfield 10, 3) := by decide +kernel
theorem dX7_add_61 : decode cX7_add 61 = .ok (.iload_n 1, 1) := by decide +kernel
theorem dX7_add_62 : decode cX7_add 62 = .ok (.iload_n 2, 1) := by decide +kernel
theorem dX7_add_63 : decode cX7_add 63 = .ok (.iconst 0, 1) := by decide +kernel
theorem dX7_add_64 : decode cX7_add 64 = .ok (.bipush 99, 2) := by decide +kernel
theorem dX7_add_66 : decode cX7_add 66 = .ok (.invokevirtual 79, 3) := by decide +kernel
theorem dX7_add_69 : decode cX7_add 69 = .ok (.aload_n 0, 1) := by decide +kernel
theorem dX7_add_70 : decode cX7_add 70 = .ok (.getfield 10, 3) := by decide +kernel
theorem dX7_add_73 : decode cX7_add 73 = .ok (.invokevirtual 67, 3) := by decide +kernel
theorem dX7_add_76 : decode cX7_add 76 = .ok (.iconst 1, 1) := by decide +kernel
theorem dX7_add_77 : decode cX7_add 77 = .ok (.isub, 1) := by decide +kernel
theorem dX7_add_78 : decode cX7_add 78 = .ok (.ireturn, 1) := by decide +kernel
theorem dX7_span_0 : decode cX7_span 0 = .ok (.aload_n 0, 1) := by decide +kernel
theorem dX7_span_1 : decode cX7_span 1 = .ok (.getfield 10, 3) := by decide +kernel
theorem dX7_span_4 : decode cX7_span 4 = .ok (.iload_n 1, 1) := by decide +kernel
theorem dX7_span_5 : decode cX7_span 5 = .ok (.invokevirtual 83, 3) := by decide +kernel
theorem dX7_span_8 : decode cX7_span 8 = .ok (.ifCond .ne 13, 3) := by decide +kernel
theorem dX7_span_11 : decode cX7_span 11 = .ok (.new 86, 3) := by decide +kernel
theorem dX7_span_14 : decode cX7_span 14 = .ok (.dup, 1) := by decide +kernel
theorem dX7_span_15 : decode cX7_span 15 = .ok (.ldc 88, 2) := by decide +kernel
theorem dX7_span_17 : decode cX7_span 17 = .ok (.invokespecial 90, 3) := by decide +kernel
theorem dX7_span_20 : decode cX7_span 20 = .ok (.athrow, 1) := by decide +kernel
theorem dX7_span_21 : decode cX7_span 21 = .ok (.iload_n 2, 1) := by decide +kernel
theorem dX7_span_22 : decode cX7_span 22 = .ok (.iload_n 3, 1) := by decide +kernel
theorem dX7_span_23 : decode cX7_span 23 = .ok (.bipush 64, 2) := by decide +kernel
theorem dX7_span_25 : decode cX7_span 25 = .ok (.invokestatic 91, 3) := by decide +kernel
theorem dX7_span_28 : decode cX7_span 28 = .ok (.ifCond .ne 13, 3) := by decide +kernel
theorem dX7_span_31 : decode cX7_span 31 = .ok (.new 60, 3) := by decide +kernel
theorem dX7_span_34 : decode cX7_span 34 = .ok (.dup, 1) := by decide +kernel
theorem dX7_span_35 : decode cX7_span 35 = .ok (.ldc 95, 2) := by decide +kernel
theorem dX7_span_37 : decode cX7_span 37 = .ok (.invokespecial 64, 3) := by decide +kernel
theorem dX7_span_40 : decode cX7_span 40 = .ok (.athrow, 1) := by decide +kernel
theorem dX7_span_41 : decode cX7_span 41 = .ok (.aload_n 0, 1) := by decide +kernel
theorem dX7_span_42 : decode cX7_span 42 = .ok (.iload_n 1, 1) := by decide +kernel
theorem dX7_span_43 : decode cX7_span 43 = .ok (.iconst 2, 1) := by decide +kernel
theorem dX7_span_44 : decode cX7_span 44 = .ok (.iload_n 2, 1) := by decide +kernel
theorem dX7_span_45 : decode cX7_span 45 = .ok (.iconst 3, 1) := by decide +kernel
theorem dX7_span_46 : decode cX7_span 46 = .ok (.iload_n 3, 1) := by decide +kernel
theorem dX7_span_47 : decode cX7_span 47 = .ok (.invokevirtual 97, 3) := by decide +kernel
theorem dX7_span_50 : decode cX7_span 50 = .ok (.ireturn, 1) := by decide +kernel
theorem dX7_live_0 : decode cX7_live 0 = .ok (.aload_n 0, 1) := by decide +kernel
theorem dX7_live_1 : decode cX7_live 1 = .ok (.getfield 10, 3) := by decide +kernel
theorem dX7_live_4 : decode cX7_live 4 = .ok (.iload_n 1, 1) := by decide +kernel
theorem dX7_live_5 : decode cX7_live 5 = .ok (.invokevirtual 83, 3) := by decide +kernel
theorem dX7_live_8 : decode cX7_live 8 = .ok (.ifCond .ne 13, 3) := by decide +kernel
theorem dX7_live_11 : decode cX7_live 11 = .ok (.new 86, 3) := by decide +kernel
theorem dX7_live_14 : decode cX7_live 14 = .ok (.dup, 1) := by decide +kernel
theorem dX7_live_15 : decode cX7_live 15 = .ok (.ldc 88, 2) := by decide +kernel
theorem dX7_live_17 : decode cX7_live 17 = .ok (.invokespecial 90, 3) := by decide +kernel
theorem dX7_live_20 : decode cX7_live 20 = .ok (.athrow, 1) := by decide +kernel
theorem dX7_live_21 : decode cX7_live 21 = .ok (.iload_n 2, 1) := by decide +kernel
theorem dX7_live_22 : decode cX7_live 22 = .ok (.iload_n 3, 1) := by decide +kernel
theorem dX7_live_23 : decode cX7_live 23 = .ok (.bipush 100, 2) := by decide +kernel
theorem dX7_live_25 : decode cX7_live 25 = .ok (.invokestatic 91, 3) := by decide +kernel
theorem dX7_live_28 : decode cX7_live 28 = .ok (.ifCond .ne 13, 3) := by decide +kernel
theorem dX7_live_31 : decode cX7_live 31 = .ok (.new 60, 3) := by decide +kernel
theorem dX7_live_34 : decode cX7_live 34 = .ok (.dup, 1) := by decide +kernel
theorem dX7_live_35 : decode cX7_live 35 = .ok (.ldc 101, 2) := by decide +kernel
theorem dX7_live_37 : decode cX7_live 37 = .ok (.invokespecial 64, 3) := by decide +kernel
theorem dX7_live_40 : decode cX7_live 40 = .ok (.athrow, 1) := by decide +kernel
theorem dX7_live_41 : decode cX7_live 41 = .ok (.aload_n 0, 1) := by decide +kernel
theorem dX7_live_42 : decode cX7_live 42 = .ok (.iload_n 1, 1) := by decide +kernel
theorem dX7_live_43 : decode cX7_live 43 = .ok (.iconst 4, 1) := by decide +kernel
theorem dX7_live_44 : decode cX7_live 44 = .ok (.iload_n 2, 1) := by decide +kernel
theorem dX7_live_45 : decode cX7_live 45 = .ok (.iconst 5, 1) := by decide +kernel
theorem dX7_live_46 : decode cX7_live 46 = .ok (.iload_n 3, 1) := by decide +kernel
theorem dX7_live_47 : decode cX7_live 47 = .ok (.invokevirtual 97, 3) := by decide +kernel
theorem dX7_live_50 : decode cX7_live 50 = .ok (.ireturn, 1) := by decide +kernel
theorem dX7_lift_0 : decode cX7_lift 0 = .ok (.aload_n 0, 1) := by decide +kernel
theorem dX7_lift_1 : decode cX7_lift 1 = .ok (.getfield 10, 3) := by decide +kernel
theorem dX7_lift_4 : decode cX7_lift 4 = .ok (.iload_n 1, 1) := by decide +kernel
theorem dX7_lift_5 : decode cX7_lift 5 = .ok (.invokevirtual 83, 3) := by decide +kernel
theorem dX7_lift_8 : decode cX7_lift 8 = .ok (.ifCond .ne 13, 3) := by decide +kernel
theorem dX7_lift_11 : decode cX7_lift 11 = .ok (.new 86, 3) := by decide +kernel
theorem dX7_lift_14 : decode cX7_lift 14 = .ok (.dup, 1) := by decide +kernel
theorem dX7_lift_15 : decode cX7_lift 15 = .ok (.ldc 88, 2) := by decide +kernel
theorem dX7_lift_17 : decode cX7_lift 17 = .ok (.invokespecial 90, 3) := by decide +kernel
theorem dX7_lift_20 : decode cX7_lift 20 = .ok (.athrow, 1) := by decide +kernel
theorem dX7_lift_21 : decode cX7_lift 21 = .ok (.iload_n 2, 1) := by decide +kernel
theorem dX7_lift_22 : decode cX7_lift 22 = .ok (.invokestatic 57, 3) := by decide +kernel
theorem dX7_lift_25 : decode cX7_lift 25 = .ok (.ifCond .ne 13, 3) := by decide +kernel
theorem dX7_lift_28 : decode cX7_lift 28 = .ok (.new 60, 3) := by decide +kernel
theorem dX7_lift_31 : decode cX7_lift 31 = .ok (.dup, 1) := by decide +kernel
theorem dX7_lift_32 : decode cX7_lift 32 = .ok (.ldc 103, 2) := by decide +kernel
theorem dX7_lift_34 : decode cX7_lift 34 = .ok (.invokespecial 64, 3) := by decide +kernel
theorem dX7_lift_37 : decode cX7_lift 37 = .ok (.athrow, 1) := by decide +kernel
theorem dX7_lift_38 : decode cX7_lift 38 = .ok (.aload_n 0, 1) := by decide +kernel
theorem dX7_lift_39 : decode cX7_lift 39 = .ok (.getfield 10, 3) := by decide +kernel
theorem dX7_lift_42 : decode cX7_lift 42 = .ok (.iload_n 1, 1) := by decide +kernel
theorem dX7_lift_43 : decode cX7_lift 43 = .ok (.iconst 1, 1) := by decide +kernel
theorem dX7_lift_44 : decode cX7_lift 44 = .ok (.invokevirtual 105, 3) := by decide +kernel
theorem dX7_lift_47 : decode cX7_lift 47 = .ok (.iload_n 2, 1) := by decide +kernel
theorem dX7_lift_48 : decode cX7_lift 48 = .ok (.iadd, 1) := by decide +kernel
theorem dX7_lift_49 : decode cX7_lift 49 = .ok (.istore_n 3, 1) := by decide +kernel
theorem dX7_lift_50 : decode cX7_lift 50 = .ok (.iload_n 3, 1) := by decide +kernel
theorem dX7_lift_51 : decode cX7_lift 51 = .ok (.invokestatic 57, 3) := by decide +kernel
theorem dX7_lift_54 : decode cX7_lift 54 = .ok (.ifCond .ne 13, 3) := by decide +kernel
theorem dX7_lift_57 : decode cX7_lift 57 = .ok (.new 71, 3) := by decide +kernel
theorem dX7_lift_60 : decode cX7_lift 60 = .ok (.dup, 1) := by decide +kernel
theorem dX7_lift_61 : decode cX7_lift 61 = .ok (.ldc 109, 2) := by decide +kernel
theorem dX7_lift_63 : decode cX7_lift 63 = .ok (.invokespecial 75, 3) := by decide +kernel
theorem dX7_lift_66 : decode cX7_lift 66 = .ok (.athrow, 1) := by decide +kernel
theorem dX7_lift_67 : decode cX7_lift 67 = .ok (.aload_n 0, 1) := by decide +kernel
theorem dX7_lift_68 : decode cX7_lift 68 = .ok (.getfield 19, 3) := by decide +kernel
theorem dX7_lift_71 : decode cX7_lift 71 = .ok (.aload_n 0, 1) := by decide +kernel
theorem dX7_lift_72 : decode cX7_lift 72 = .ok (.getfield 10, 3) := by decide +kernel
theorem dX7_lift_75 : decode cX7_lift 75 = .ok (.invokevirtual 76, 3) := by decide +kernel
theorem dX7_lift_78 : decode cX7_lift 78 = .ok (.aload_n 0, 1) := by decide +kernel
theorem dX7_lift_79 : decode cX7_lift 79 = .ok (.getfield 10, 3) := by decide +kernel
theorem dX7_lift_82 : decode cX7_lift 82 = .ok (.iload_n 1, 1) := by decide +kernel
theorem dX7_lift_83 : decode cX7_lift 83 = .ok (.iconst 1, 1) := by decide +kernel
theorem dX7_lift_84 : decode cX7_lift 84 = .ok (.iload_n 3, 1) := by decide +kernel
theorem dX7_lift_85 : decode cX7_lift 85 = .ok (.invokevirtual 111, 3) := by decide +kernel
theorem dX7_lift_88 : decode cX7_lift 88 = .ok (.iload_n 3, 1) := by decide +kernel
theorem dX7_lift_89 : decode cX7_lift 89 = .ok (.ireturn, 1) := by decide +kernel
theorem dX7_turn_0 : decode cX7_turn 0 = .ok (.aload_n 0, 1) := by decide +kernel
theorem dX7_turn_1 : decode cX7_turn 1 = .ok (.getfield 10, 3) := by decide +kernel
theorem dX7_turn_4 : decode cX7_turn 4 = .ok (.iload_n 1, 1) := by decide +kernel
theorem dX7_turn_5 : decode cX7_turn 5 = .ok (.invokevirtual 83, 3) := by decide +kernel
theorem dX7_turn_8 : decode cX7_turn 8 = .ok (.ifCond .ne 13, 3) := by decide +kernel
theorem dX7_turn_11 : decode cX7_turn 11 = .ok (.new 86, 3) := by decide +kernel
theorem dX7_turn_14 : decode cX7_turn 14 = .ok (.dup, 1) := by decide +kernel
theorem dX7_turn_15 : decode cX7_turn 15 = .ok (.ldc 88, 2) := by decide +kernel
theorem dX7_turn_17 : decode cX7_turn 17 = .ok (.invokespecial 90, 3) := by decide +kernel
theorem dX7_turn_20 : decode cX7_turn 20 = .ok (.athrow, 1) := by decide +kernel
theorem dX7_turn_21 : decode cX7_turn 21 = .ok (.iload_n 2, 1) := by decide +kernel
theorem dX7_turn_22 : decode cX7_turn 22 = .ok (.invokestatic 115, 3) := by decide +kernel
theorem dX7_turn_25 : decode cX7_turn 25 = .ok (.ifCond .eq 10, 3) := by decide +kernel
theorem dX7_turn_28 : decode cX7_turn 28 = .ok (.iload_n 3, 1) := by decide +kernel
theorem dX7_turn_29 : decode cX7_turn 29 = .ok (.invokestatic 53, 3) := by decide +kernel
theorem dX7_turn_32 : decode cX7_turn 32 = .ok (.ifCond .ne 13, 3) := by decide +kernel
theorem dX7_turn_35 : decode cX7_turn 35 = .ok (.new 60, 3) := by decide +kernel
theorem dX7_turn_38 : decode cX7_turn 38 = .ok (.dup, 1) := by decide +kernel
theorem dX7_turn_39 : decode cX7_turn 39 = .ok (.ldc 118, 2) := by decide +kernel
theorem dX7_turn_41 : decode cX7_turn 41 = .ok (.invokespecial 64, 3) := by decide +kernel
theorem dX7_turn_44 : decode cX7_turn 44 = .ok (.athrow, 1) := by decide +kernel
theorem dX7_turn_45 : decode cX7_turn 45 = .ok (.aload_n 0, 1) := by decide +kernel
theorem dX7_turn_46 : decode cX7_turn 46 = .ok (.getfield 10, 3) := by decide +kernel
theorem dX7_turn_49 : decode cX7_turn 49 = .ok (.iload_n 1, 1) := by decide +kernel
theorem dX7_turn_50 : decode cX7_turn 50 = .ok (.iload_n 2, 1) := by decide +kernel
theorem dX7_turn_51 : decode cX7_turn 51 = .ok (.invokevirtual 120, 3) := by decide +kernel
theorem dX7_turn_54 : decode cX7_turn 54 = .ok (.iload_n 3, 1) := by decide +kernel
theorem dX7_turn_55 : decode cX7_turn 55 = .ok (.iload_n 2, 1) := by decide +kernel
theorem dX7_turn_56 : decode cX7_turn 56 = .ok (.imul, 1) := by decide +kernel
theorem dX7_turn_57 : decode cX7_turn 57 = .ok (.isub, 1) := by decide +kernel
theorem dX7_turn_58 : decode cX7_turn 58 = .ok (.istore 4, 2) := by decide +kernel
theorem dX7_turn_60 : decode cX7_turn 60 = .ok (.iload 4, 2) := by decide +kernel
theorem dX7_turn_62 : decode cX7_turn 62 = .ok (.invokestatic 57, 3) := by decide +kernel
theorem dX7_turn_65 : decode cX7_turn 65 = .ok (.ifCond .ne 13, 3) := by decide +kernel
theorem dX7_turn_68 : decode cX7_turn 68 = .ok (.new 71, 3) := by decide +kernel
theorem dX7_turn_71 : decode cX7_turn 71 = .ok (.dup, 1) := by decide +kernel
theorem dX7_turn_72 : decode cX7_turn 72 = .ok (.ldc 109, 2) := by decide +kernel
theorem dX7_turn_74 : decode cX7_turn 74 = .ok (.invokespecial 75, 3) := by decide +kernel
theorem dX7_turn_77 : decode cX7_turn 77 = .ok (.athrow, 1) := by decide +kernel
theorem dX7_turn_78 : decode cX7_turn 78 = .ok (.aload_n 0, 1) := by decide +kernel
theorem dX7_turn_79 : decode cX7_turn 79 = .ok (.getfield 19, 3) := by decide +kernel
theorem dX7_turn_82 : decode cX7_turn 82 = .ok (.aload_n 0, 1) := by decide +kernel
theorem dX7_turn_83 : decode cX7_turn 83 = .ok (.getfield 10, 3) := by decide +kernel
theorem dX7_turn_86 : decode cX7_turn 86 = .ok (.invokevirtual 76, 3) := by decide +kernel
theorem dX7_turn_89 : decode cX7_turn 89 = .ok (.aload_n 0, 1) := by decide +kernel
theorem dX7_turn_90 : decode cX7_turn 90 = .ok (.getfield 10, 3) := by decide +kernel
theorem dX7_turn_93 : decode cX7_turn 93 = .ok (.iload_n 1, 1) := by decide +kernel
theorem dX7_turn_94 : decode cX7_turn 94 = .ok (.iconst 0, 1) := by decide +kernel
theorem dX7_turn_95 : decode cX7_turn 95 = .ok (.iload_n 3, 1) := by decide +kernel
theorem dX7_turn_96 : decode cX7_turn 96 = .ok (.invokevirtual 111, 3) := by decide +kernel
theorem dX7_turn_99 : decode cX7_turn 99 = .ok (.aload_n 0, 1) := by decide +kernel
theorem dX7_turn_100 : decode cX7_turn 100 = .ok (.getfield 10, 3) := by decide +kernel
theorem dX7_turn_103 : decode cX7_turn 103 = .ok (.iload_n 1, 1) := by decide +kernel
theorem dX7_turn_104 : decode cX7_turn 104 = .ok (.iconst 1, 1) := by decide +kernel
theorem dX7_turn_105 : decode cX7_turn 105 = .ok (.iload 4, 2) := by decide +kernel
theorem dX7_turn_107 : decode cX7_turn 107 = .ok (.invokevirtual 111, 3) := by decide +kernel
theorem dX7_turn_110 : decode cX7_turn 110 = .ok (.iload 4, 2) := by decide +kernel
theorem dX7_turn_112 : decode cX7_turn 112 = .ok (.ireturn, 1) := by decide +kernel
theorem dX7_remove_0 : decode cX7_remove 0 = .ok (.aload_n 0, 1) := by decide +kernel
theorem dX7_remove_1 : decode cX7_remove 1 = .ok (.getfield 10, 3) := by decide +kernel
theorem dX7_remove_4 : decode cX7_remove 4 = .ok (.iload_n 1, 1) := by decide +kernel
theorem dX7_remove_5 : decode cX7_remove 5 = .ok (.invokevirtual 83, 3) := by decide +kernel
theorem dX7_remove_8 : decode cX7_remove 8 = .ok (.ifCond .ne 13, 3) := by decide +kernel
theorem dX7_remove_11 : decode cX7_remove 11 = .ok (.new 86, 3) := by decide +kernel
theorem dX7_remove_14 : decode cX7_remove 14 = .ok (.dup, 1) := by decide +kernel
theorem dX7_remove_15 : decode cX7_remove 15 = .ok (.ldc 88, 2) := by decide +kernel
theorem dX7_remove_17 : decode cX7_remove 17 = .ok (.invokespecial 90, 3) := by decide +kernel
theorem dX7_remove_20 : decode cX7_remove 20 = .ok (.athrow, 1) := by decide +kernel
theorem dX7_remove_21 : decode cX7_remove 21 = .ok (.aload_n 0, 1) := by decide +kernel
theorem dX7_remove_22 : decode cX7_remove 22 = .ok (.getfield 19, 3) := by decide +kernel
theorem dX7_remove_25 : decode cX7_remove 25 = .ok (.aload_n 0, 1) := by decide +kernel
theorem dX7_remove_26 : decode cX7_remove 26 = .ok (.getfield 10, 3) := by decide +kernel
theorem dX7_remove_29 : decode cX7_remove 29 = .ok (.invokevirtual 76, 3) := by decide +kernel
theorem dX7_remove_32 : decode cX7_remove 32 = .ok (.aload_n 0, 1) := by decide +kernel
theorem dX7_remove_33 : decode cX7_remove 33 = .ok (.getfield 10, 3) := by decide +kernel
theorem dX7_remove_36 : decode cX7_remove 36 = .ok (.iload_n 1, 1) := by decide +kernel
theorem dX7_remove_37 : decode cX7_remove 37 = .ok (.invokevirtual 123, 3) := by decide +kernel
theorem dX7_remove_40 : decode cX7_remove 40 = .ok (.aload_n 0, 1) := by decide +kernel
theorem dX7_remove_41 : decode cX7_remove 41 = .ok (.getfield 10, 3) := by decide +kernel
theorem dX7_remove_44 : decode cX7_remove 44 = .ok (.invokevirtual 67, 3) := by decide +kernel
theorem dX7_remove_47 : decode cX7_remove 47 = .ok (.ireturn, 1) := by decide +kernel
theorem dX7_prune_0 : decode cX7_prune 0 = .ok (.aload_n 0, 1) := by decide +kernel
theorem dX7_prune_1 : decode cX7_prune 1 = .ok (.getfield 49, 3) := by decide +kernel
theorem dX7_prune_4 : decode cX7_prune 4 = .ok (.invokevirtual 127, 3) := by decide +kernel
theorem dX7_prune_7 : decode cX7_prune 7 = .ok (.istore_n 1, 1) := by decide +kernel
theorem dX7_prune_8 : decode cX7_prune 8 = .ok (.aload_n 0, 1) := by decide +kernel
theorem dX7_prune_9 : decode cX7_prune 9 = .ok (.getfield 19, 3) := by decide +kernel
theorem dX7_prune_12 : decode cX7_prune 12 = .ok (.aload_n 0, 1) := by decide +kernel
theorem dX7_prune_13 : decode cX7_prune 13 = .ok (.getfield 10, 3) := by decide +kernel
theorem dX7_prune_16 : decode cX7_prune 16 = .ok (.invokevirtual 76, 3) := by decide +kernel
theorem dX7_prune_19 : decode cX7_prune 19 = .ok (.aload_n 0, 1) := by decide +kernel
theorem dX7_prune_20 : decode cX7_prune 20 = .ok (.getfield 10, 3) := by decide +kernel
theorem dX7_prune_23 : decode cX7_prune 23 = .ok (.invokevirtual 67, 3) := by decide +kernel
theorem dX7_prune_26 : decode cX7_prune 26 = .ok (.iconst 1, 1) := by decide +kernel
theorem dX7_prune_27 : decode cX7_prune 27 = .ok (.isub, 1) := by decide +kernel
theorem dX7_prune_28 : decode cX7_prune 28 = .ok (.istore_n 2, 1) := by decide +kernel
theorem dX7_prune_29 : decode cX7_prune 29 = .ok (.iload_n 2, 1) := by decide +kernel
theorem dX7_prune_30 : decode cX7_prune 30 = .ok (.ifCond .lt 25, 3) := by decide +kernel
theorem dX7_prune_33 : decode cX7_prune 33 = .ok (.iload_n 1, 1) := by decide +kernel
theorem dX7_prune_34 : decode cX7_prune 34 = .ok (.iload_n 2, 1) := by decide +kernel
theorem dX7_prune_35 : decode cX7_prune 35 = .ok (.ishr, 1) := by decide +kernel
theorem dX7_prune_36 : decode cX7_prune 36 = .ok (.iconst 1, 1) := by decide +kernel
theorem dX7_prune_37 : decode cX7_prune 37 = .ok (.iand, 1) := by decide +kernel
theorem dX7_prune_38 : decode cX7_prune 38 = .ok (.ifCond .eq 11, 3) := by decide +kernel
theorem dX7_prune_41 : decode cX7_prune 41 = .ok (.aload_n 0, 1) := by decide +kernel
theorem dX7_prune_42 : decode cX7_prune 42 = .ok (.getfield 10, 3) := by decide +kernel
theorem dX7_prune_45 : decode cX7_prune 45 = .ok (.iload_n 2, 1) := by decide +kernel
theorem dX7_prune_46 : decode cX7_prune 46 = .ok (.invokevirtual 123, 3) := by decide +kernel
theorem dX7_prune_49 : decode cX7_prune 49 = .ok (.iinc 2 (-1), 3) := by decide +kernel
theorem dX7_prune_52 : decode cX7_prune 52 = .ok (.goto (-23), 3) := by decide +kernel
theorem dX7_prune_55 : decode cX7_prune 55 = .ok (.iload_n 1, 1) := by decide +kernel
theorem dX7_prune_56 : decode cX7_prune 56 = .ok (.invokestatic 130, 3) := by decide +kernel
theorem dX7_prune_59 : decode cX7_prune 59 = .ok (.ireturn, 1) := by decide +kernel
theorem dX7_go_0 : decode cX7_go 0 = .ok (.iload_n 1, 1) := by decide +kernel
theorem dX7_go_1 : decode cX7_go 1 = .ok (.invokestatic 136, 3) := by decide +kernel
theorem dX7_go_4 : decode cX7_go 4 = .ok (.ifCond .ne 13, 3) := by decide +kernel
theorem dX7_go_7 : decode cX7_go 7 = .ok (.new 60, 3) := by decide +kernel
theorem dX7_go_10 : decode cX7_go 10 = .ok (.dup, 1) := by decide +kernel
theorem dX7_go_11 : decode cX7_go 11 = .ok (.ldc 139, 2) := by decide +kernel
theorem dX7_go_13 : decode cX7_go 13 = .ok (.invokespecial 64, 3) := by decide +kernel
theorem dX7_go_16 : decode cX7_go 16 = .ok (.athrow, 1) := by decide +kernel
theorem dX7_go_17 : decode cX7_go 17 = .ok (.aload_n 0, 1) := by decide +kernel
theorem dX7_go_18 : decode cX7_go 18 = .ok (.getfield 10, 3) := by decide +kernel
theorem dX7_go_21 : decode cX7_go 21 = .ok (.invokevirtual 141, 3) := by decide +kernel
theorem dX7_go_24 : decode cX7_go 24 = .ok (.istore_n 2, 1) := by decide +kernel
theorem dX7_go_25 : decode cX7_go 25 = .ok (.aload_n 0, 1) := by decide +kernel
theorem dX7_go_26 : decode cX7_go 26 = .ok (.getfield 19, 3) := by decide +kernel
theorem dX7_go_29 : decode cX7_go 29 = .ok (.aload_n 0, 1) := by decide +kernel
theorem dX7_go_30 : decode cX7_go 30 = .ok (.getfield 10, 3) := by decide +kernel
theorem dX7_go_33 : decode cX7_go 33 = .ok (.invokevirtual 76, 3) := by decide +kernel
theorem dX7_go_36 : decode cX7_go 36 = .ok (.aload_n 0, 1) := by decide +kernel
theorem dX7_go_37 : decode cX7_go 37 = .ok (.getfield 10, 3) := by decide +kernel
theorem dX7_go_40 : decode cX7_go 40 = .ok (.iload_n 1, 1) := by decide +kernel
theorem dX7_go_41 : decode cX7_go 41 = .ok (.invokevirtual 144, 3) := by decide +kernel
theorem dX7_go_44 : decode cX7_go 44 = .ok (.iload_n 2, 1) := by decide +kernel
theorem dX7_go_45 : decode cX7_go 45 = .ok (.ireturn, 1) := by decide +kernel
theorem dX7_append_0 : decode cX7_append 0 = .ok (.iload_n 1, 1) := by decide +kernel
theorem dX7_append_1 : decode cX7_append 1 = .ok (.bipush 33, 2) := by decide +kernel
theorem dX7_append_3 : decode cX7_append 3 = .ok (.if_icmp .lt 9, 3) := by decide +kernel
theorem dX7_append_6 : decode cX7_append 6 = .ok (.iload_n 1, 1) := by decide +kernel
theorem dX7_append_7 : decode cX7_append 7 = .ok (.bipush 126, 2) := by decide +kernel
theorem dX7_append_9 : decode cX7_append 9 = .ok (.if_icmp .le 13, 3) := by decide +kernel
theorem dX7_append_12 : decode cX7_append 12 = .ok (.new 60, 3) := by decide +kernel
theorem dX7_append_15 : decode cX7_append 15 = .ok (.dup, 1) := by decide +kernel
theorem dX7_append_16 : decode cX7_append 16 = .ok (.ldc 147, 2) := by decide +kernel
theorem dX7_append_18 : decode cX7_append 18 = .ok (.invokespecial 64, 3) := by decide +kernel
theorem dX7_append_21 : decode cX7_append 21 = .ok (.athrow, 1) := by decide +kernel
theorem dX7_append_22 : decode cX7_append 22 = .ok (.aload_n 0, 1) := by decide +kernel
theorem dX7_append_23 : decode cX7_append 23 = .ok (.getfield 26, 3) := by decide +kernel
theorem dX7_append_26 : decode cX7_append 26 = .ok (.invokevirtual 149, 3) := by decide +kernel
theorem dX7_append_29 : decode cX7_append 29 = .ok (.bipush 60, 2) := by decide +kernel
theorem dX7_append_31 : decode cX7_append 31 = .ok (.if_icmp .lt 13, 3) := by decide +kernel
theorem dX7_append_34 : decode cX7_append 34 = .ok (.new 71, 3) := by decide +kernel
theorem dX7_append_37 : decode cX7_append 37 = .ok (.dup, 1) := by decide +kernel
theorem dX7_append_38 : decode cX7_append 38 = .ok (.ldc 152, 2) := by decide +kernel
theorem dX7_append_40 : decode cX7_append 40 = .ok (.invokespecial 75, 3) := by decide +kernel
theorem dX7_append_43 : decode cX7_append 43 = .ok (.athrow, 1) := by decide +kernel
theorem dX7_append_44 : decode cX7_append 44 = .ok (.aload_n 0, 1) := by decide +kernel
theorem dX7_append_45 : decode cX7_append 45 = .ok (.getfield 26, 3) := by decide +kernel
theorem dX7_append_48 : decode cX7_append 48 = .ok (.iload_n 1, 1) := by decide +kernel
theorem dX7_append_49 : decode cX7_append 49 = .ok (.invokevirtual 154, 3) := by decide +kernel
theorem dX7_append_52 : decode cX7_append 52 = .ok (.aload_n 0, 1) := by decide +kernel
theorem dX7_append_53 : decode cX7_append 53 = .ok (.getfield 26, 3) := by decide +kernel
theorem dX7_append_56 : decode cX7_append 56 = .ok (.invokevirtual 149, 3) := by decide +kernel
theorem dX7_append_59 : decode cX7_append 59 = .ok (.ireturn, 1) := by decide +kernel
theorem dX7_clearBuffer_0 : decode cX7_clearBuffer 0 = .ok (.aload_n 0, 1) := by decide +kernel
theorem dX7_clearBuffer_1 : decode cX7_clearBuffer 1 = .ok (.getfield 26, 3) := by decide +kernel
theorem dX7_clearBuffer_4 : decode cX7_clearBuffer 4 = .ok (.invokevirtual 149, 3) := by decide +kernel
theorem dX7_clearBuffer_7 : decode cX7_clearBuffer 7 = .ok (.istore_n 1, 1) := by decide +kernel
theorem dX7_clearBuffer_8 : decode cX7_clearBuffer 8 = .ok (.aload_n 0, 1) := by decide +kernel
theorem dX7_clearBuffer_9 : decode cX7_clearBuffer 9 = .ok (.getfield 26, 3) := by decide +kernel
theorem dX7_clearBuffer_12 : decode cX7_clearBuffer 12 = .ok (.invokevirtual 157, 3) := by decide +kernel
theorem dX7_clearBuffer_15 : decode cX7_clearBuffer 15 = .ok (.iload_n 1, 1) := by decide +kernel
theorem dX7_clearBuffer_16 : decode cX7_clearBuffer 16 = .ok (.ireturn, 1) := by decide +kernel
theorem dX7_firstError_0 : decode cX7_firstError 0 = .ok (.aload_n 0, 1) := by decide +kernel
theorem dX7_firstError_1 : decode cX7_firstError 1 = .ok (.getfield 26, 3) := by decide +kernel
theorem dX7_firstError_4 : decode cX7_firstError 4 = .ok (.invokevirtual 160, 3) := by decide +kernel
theorem dX7_firstError_7 : decode cX7_firstError 7 = .ok (.ireturn, 1) := by decide +kernel
theorem dX7_addAll_0 : decode cX7_addAll 0 = .ok (.aload_n 0, 1) := by decide +kernel
theorem dX7_addAll_1 : decode cX7_addAll 1 = .ok (.getfield 26, 3) := by decide +kernel
theorem dX7_addAll_4 : decode cX7_addAll 4 = .ok (.invokevirtual 163, 3) := by decide +kernel
theorem dX7_addAll_7 : decode cX7_addAll 7 = .ok (.ifCond .ne 13, 3) := by decide +kernel
theorem dX7_addAll_10 : decode cX7_addAll 10 = .ok (.new 60, 3) := by decide +kernel
theorem dX7_addAll_13 : decode cX7_addAll 13 = .ok (.dup, 1) := by decide +kernel
theorem dX7_addAll_14 : decode cX7_addAll 14 = .ok (.ldc 167, 2) := by decide +kernel
theorem dX7_addAll_16 : decode cX7_addAll 16 = .ok (.invokespecial 64, 3) := by decide +kernel
theorem dX7_addAll_19 : decode cX7_addAll 19 = .ok (.athrow, 1) := by decide +kernel
theorem dX7_addAll_20 : decode cX7_addAll 20 = .ok (.aload_n 0, 1) := by decide +kernel
theorem dX7_addAll_21 : decode cX7_addAll 21 = .ok (.getfield 10, 3) := by decide +kernel
theorem dX7_addAll_24 : decode cX7_addAll 24 = .ok (.invokevirtual 67, 3) := by decide +kernel
theorem dX7_addAll_27 : decode cX7_addAll 27 = .ok (.aload_n 0, 1) := by decide +kernel
theorem dX7_addAll_28 : decode cX7_addAll 28 = .ok (.getfield 26, 3) := by decide +kernel
theorem dX7_addAll_31 : decode cX7_addAll 31 = .ok (.invokevirtual 169, 3) := by decide +kernel
theorem dX7_addAll_34 : decode cX7_addAll 34 = .ok (.iadd, 1) := by decide +kernel
theorem dX7_addAll_35 : decode cX7_addAll 35 = .ok (.bipush 20, 2) := by decide +kernel
theorem dX7_addAll_37 : decode cX7_addAll 37 = .ok (.if_icmp .le 13, 3) := by decide +kernel
theorem dX7_addAll_40 : decode cX7_addAll 40 = .ok (.new 71, 3) := by decide +kernel
theorem dX7_addAll_43 : decode cX7_addAll 43 = .ok (.dup, 1) := by decide +kernel
theorem dX7_addAll_44 : decode cX7_addAll 44 = .ok (.ldc 172, 2) := by decide +kernel
theorem dX7_addAll_46 : decode cX7_addAll 46 = .ok (.invokespecial 75, 3) := by decide +kernel
theorem dX7_addAll_49 : decode cX7_addAll 49 = .ok (.athrow, 1) := by decide +kernel
theorem dX7_addAll_50 : decode cX7_addAll 50 = .ok (.aload_n 0, 1) := by decide +kernel
theorem dX7_addAll_51 : decode cX7_addAll 51 = .ok (.getfield 19, 3) := by decide +kernel
theorem dX7_addAll_54 : decode cX7_addAll 54 = .ok (.aload_n 0, 1) := by decide +kernel
theorem dX7_addAll_55 : decode cX7_addAll 55 = .ok (.getfield 10, 3) := by decide +kernel
theorem dX7_addAll_58 : decode cX7_addAll 58 = .ok (.invokevirtual 76, 3) := by decide +kernel
theorem dX7_addAll_61 : decode cX7_addAll 61 = .ok (.aload_n 0, 1) := by decide +kernel
theorem dX7_addAll_62 : decode cX7_addAll 62 = .ok (.getfield 26, 3) := by decide +kernel
theorem dX7_addAll_65 : decode cX7_addAll 65 = .ok (.aload_n 0, 1) := by decide +kernel
theorem dX7_addAll_66 : decode cX7_addAll 66 = .ok (.getfield 10, 3) := by decide +kernel
theorem dX7_addAll_69 : decode cX7_addAll 69 = .ok (.invokevirtual 174, 3) := by decide +kernel
theorem dX7_addAll_72 : decode cX7_addAll 72 = .ok (.aload_n 0, 1) := by decide +kernel
theorem dX7_addAll_73 : decode cX7_addAll 73 = .ok (.getfield 26, 3) := by decide +kernel
theorem dX7_addAll_76 : decode cX7_addAll 76 = .ok (.invokevirtual 157, 3) := by decide +kernel
theorem dX7_addAll_79 : decode cX7_addAll 79 = .ok (.aload_n 0, 1) := by decide +kernel
theorem dX7_addAll_80 : decode cX7_addAll 80 = .ok (.getfield 10, 3) := by decide +kernel
theorem dX7_addAll_83 : decode cX7_addAll 83 = .ok (.invokevirtual 67, 3) := by decide +kernel
theorem dX7_addAll_86 : decode cX7_addAll 86 = .ok (.ireturn, 1) := by decide +kernel
theorem dX7_undo_0 : decode cX7_undo 0 = .ok (.aload_n 0, 1) := by decide +kernel
theorem dX7_undo_1 : decode cX7_undo 1 = .ok (.getfield 19, 3) := by decide +kernel
theorem dX7_undo_4 : decode cX7_undo 4 = .ok (.invokevirtual 177, 3) := by decide +kernel
theorem dX7_undo_7 : decode cX7_undo 7 = .ok (.ifCond .ne 13, 3) := by decide +kernel
theorem dX7_undo_10 : decode cX7_undo 10 = .ok (.new 71, 3) := by decide +kernel
theorem dX7_undo_13 : decode cX7_undo 13 = .ok (.dup, 1) := by decide +kernel
theorem dX7_undo_14 : decode cX7_undo 14 = .ok (.ldc 178, 2) := by decide +kernel
theorem dX7_undo_16 : decode cX7_undo 16 = .ok (.invokespecial 75, 3) := by decide +kernel
theorem dX7_undo_19 : decode cX7_undo 19 = .ok (.athrow, 1) := by decide +kernel
theorem dX7_undo_20 : decode cX7_undo 20 = .ok (.aload_n 0, 1) := by decide +kernel
theorem dX7_undo_21 : decode cX7_undo 21 = .ok (.getfield 19, 3) := by decide +kernel
theorem dX7_undo_24 : decode cX7_undo 24 = .ok (.aload_n 0, 1) := by decide +kernel
theorem dX7_undo_25 : decode cX7_undo 25 = .ok (.getfield 10, 3) := by decide +kernel
theorem dX7_undo_28 : decode cX7_undo 28 = .ok (.invokevirtual 180, 3) := by decide +kernel
theorem dX7_undo_31 : decode cX7_undo 31 = .ok (.aload_n 0, 1) := by decide +kernel
theorem dX7_undo_32 : decode cX7_undo 32 = .ok (.getfield 19, 3) := by decide +kernel
theorem dX7_undo_35 : decode cX7_undo 35 = .ok (.invokevirtual 177, 3) := by decide +kernel
theorem dX7_undo_38 : decode cX7_undo 38 = .ok (.ireturn, 1) := by decide +kernel
theorem dX7_line_0 : decode cX7_line 0 = .ok (.aload_n 0, 1) := by decide +kernel
theorem dX7_line_1 : decode cX7_line 1 = .ok (.getfield 10, 3) := by decide +kernel
theorem dX7_line_4 : decode cX7_line 4 = .ok (.iload_n 1, 1) := by decide +kernel
theorem dX7_line_5 : decode cX7_line 5 = .ok (.invokevirtual 83, 3) := by decide +kernel
theorem dX7_line_8 : decode cX7_line 8 = .ok (.ifCond .ne 13, 3) := by decide +kernel
theorem dX7_line_11 : decode cX7_line 11 = .ok (.new 86, 3) := by decide +kernel
theorem dX7_line_14 : decode cX7_line 14 = .ok (.dup, 1) := by decide +kernel
theorem dX7_line_15 : decode cX7_line 15 = .ok (.ldc 88, 2) := by decide +kernel
theorem dX7_line_17 : decode cX7_line 17 = .ok (.invokespecial 90, 3) := by decide +kernel
theorem dX7_line_20 : decode cX7_line 20 = .ok (.athrow, 1) := by decide +kernel
theorem dX7_line_21 : decode cX7_line 21 = .ok (.iload_n 2, 1) := by decide +kernel
theorem dX7_line_22 : decode cX7_line 22 = .ok (.ifCond .lt 9, 3) := by decide +kernel
theorem dX7_line_25 : decode cX7_line 25 = .ok (.iload_n 2, 1) := by decide +kernel
theorem dX7_line_26 : decode cX7_line 26 = .ok (.bipush 8, 2) := by decide +kernel
theorem dX7_line_28 : decode cX7_line 28 = .ok (.if_icmp .le 13, 3) := by decide +kernel
theorem dX7_line_31 : decode cX7_line 31 = .ok (.new 60, 3) := by decide +kernel
theorem dX7_line_34 : decode cX7_line 34 = .ok (.dup, 1) := by decide +kernel
theorem dX7_line_35 : decode cX7_line 35 = .ok (.ldc 183, 2) := by decide +kernel
theorem dX7_line_37 : decode cX7_line 37 = .ok (.invokespecial 64, 3) := by decide +kernel
theorem dX7_line_40 : decode cX7_line 40 = .ok (.athrow, 1) := by decide +kernel
theorem dX7_line_41 : decode cX7_line 41 = .ok (.iload_n 2, 1) := by decide +kernel
theorem dX7_line_42 : decode cX7_line 42 = .ok (.tableswitch 53 6 8 #[26, 35, 44], 26) := by decide +kernel
theorem dX7_line_68 : decode cX7_line 68 = .ok (.aload_n 0, 1) := by decide +kernel
theorem dX7_line_69 : decode cX7_line 69 = .ok (.getfield 35, 3) := by decide +kernel
theorem dX7_line_72 : decode cX7_line 72 = .ok (.iload_n 1, 1) := by decide +kernel
theorem dX7_line_73 : decode cX7_line 73 = .ok (.invokevirtual 185, 3) := by decide +kernel
theorem dX7_line_76 : decode cX7_line 76 = .ok (.ireturn, 1) := by decide +kernel
theorem dX7_line_77 : decode cX7_line 77 = .ok (.aload_n 0, 1) := by decide +kernel
theorem dX7_line_78 : decode cX7_line 78 = .ok (.getfield 42, 3) := by decide +kernel
theorem dX7_line_81 : decode cX7_line 81 = .ok (.iload_n 1, 1) := by decide +kernel
theorem dX7_line_82 : decode cX7_line 82 = .ok (.invokevirtual 188, 3) := by decide +kernel
theorem dX7_line_85 : decode cX7_line 85 = .ok (.ireturn, 1) := by decide +kernel
theorem dX7_line_86 : decode cX7_line 86 = .ok (.aload_n 0, 1) := by decide +kernel
theorem dX7_line_87 : decode cX7_line 87 = .ok (.getfield 49, 3) := by decide +kernel
theorem dX7_line_90 : decode cX7_line 90 = .ok (.iload_n 1, 1) := by decide +kernel
theorem dX7_line_91 : decode cX7_line 91 = .ok (.invokevirtual 191, 3) := by decide +kernel
theorem dX7_line_94 : decode cX7_line 94 = .ok (.ireturn, 1) := by decide +kernel
theorem dX7_line_95 : decode cX7_line 95 = .ok (.aload_n 0, 1) := by decide +kernel
theorem dX7_line_96 : decode cX7_line 96 = .ok (.getfield 10, 3) := by decide +kernel
theorem dX7_line_99 : decode cX7_line 99 = .ok (.iload_n 1, 1) := by decide +kernel
theorem dX7_line_100 : decode cX7_line 100 = .ok (.iload_n 2, 1) := by decide +kernel
theorem dX7_line_101 : decode cX7_line 101 = .ok (.invokevirtual 105, 3) := by decide +kernel
theorem dX7_line_104 : decode cX7_line 104 = .ok (.ireturn, 1) := by decide +kernel
theorem dX7_lowest_0 : decode cX7_lowest 0 = .ok (.iload_n 1, 1) := by decide +kernel
theorem dX7_lowest_1 : decode cX7_lowest 1 = .ok (.invokestatic 115, 3) := by decide +kernel
theorem dX7_lowest_4 : decode cX7_lowest 4 = .ok (.ifCond .eq 10, 3) := by decide +kernel
theorem dX7_lowest_7 : decode cX7_lowest 7 = .ok (.iload_n 2, 1) := by decide +kernel
theorem dX7_lowest_8 : decode cX7_lowest 8 = .ok (.invokestatic 136, 3) := by decide +kernel
theorem dX7_lowest_11 : decode cX7_lowest 11 = .ok (.ifCond .ne 13, 3) := by decide +kernel
theorem dX7_lowest_14 : decode cX7_lowest 14 = .ok (.new 60, 3) := by decide +kernel
theorem dX7_lowest_17 : decode cX7_lowest 17 = .ok (.dup, 1) := by decide +kernel
theorem dX7_lowest_18 : decode cX7_lowest 18 = .ok (.ldc 194, 2) := by decide +kernel
theorem dX7_lowest_20 : decode cX7_lowest 20 = .ok (.invokespecial 64, 3) := by decide +kernel
theorem dX7_lowest_23 : decode cX7_lowest 23 = .ok (.athrow, 1) := by decide +kernel
theorem dX7_lowest_24 : decode cX7_lowest 24 = .ok (.aload_n 0, 1) := by decide +kernel
theorem dX7_lowest_25 : decode cX7_lowest 25 = .ok (.getfield 10, 3) := by decide +kernel
theorem dX7_lowest_28 : decode cX7_lowest 28 = .ok (.iconst (-1), 1) := by decide +kernel
theorem dX7_lowest_29 : decode cX7_lowest 29 = .ok (.iload_n 1, 1) := by decide +kernel
theorem dX7_lowest_30 : decode cX7_lowest 30 = .ok (.iload_n 2, 1) := by decide +kernel
theorem dX7_lowest_31 : decode cX7_lowest 31 = .ok (.invokevirtual 196, 3) := by decide +kernel
theorem dX7_lowest_34 : decode cX7_lowest 34 = .ok (.ireturn, 1) := by decide +kernel
theorem dX7_value_0 : decode cX7_value 0 = .ok (.iload_n 1, 1) := by decide +kernel
theorem dX7_value_1 : decode cX7_value 1 = .ok (.invokestatic 115, 3) := by decide +kernel
theorem dX7_value_4 : decode cX7_value 4 = .ok (.ifCond .ne 13, 3) := by decide +kernel
theorem dX7_value_7 : decode cX7_value 7 = .ok (.new 60, 3) := by decide +kernel
theorem dX7_value_10 : decode cX7_value 10 = .ok (.dup, 1) := by decide +kernel
theorem dX7_value_11 : decode cX7_value 11 = .ok (.ldc 200, 2) := by decide +kernel
theorem dX7_value_13 : decode cX7_value 13 = .ok (.invokespecial 64, 3) := by decide +kernel
theorem dX7_value_16 : decode cX7_value 16 = .ok (.athrow, 1) := by decide +kernel
theorem dX7_value_17 : decode cX7_value 17 = .ok (.aload_n 0, 1) := by decide +kernel
theorem dX7_value_18 : decode cX7_value 18 = .ok (.getfield 35, 3) := by decide +kernel
theorem dX7_value_21 : decode cX7_value 21 = .ok (.iload_n 1, 1) := by decide +kernel
theorem dX7_value_22 : decode cX7_value 22 = .ok (.invokevirtual 202, 3) := by decide +kernel
theorem dX7_value_25 : decode cX7_value 25 = .ok (.istore_n 2, 1) := by decide +kernel
theorem dX7_value_26 : decode cX7_value 26 = .ok (.iload_n 2, 1) := by decide +kernel
theorem dX7_value_27 : decode cX7_value 27 = .ok (.iconst (-1), 1) := by decide +kernel
theorem dX7_value_28 : decode cX7_value 28 = .ok (.if_icmp .ne 13, 3) := by decide +kernel
theorem dX7_value_31 : decode cX7_value 31 = .ok (.new 71, 3) := by decide +kernel
theorem dX7_value_34 : decode cX7_value 34 = .ok (.dup, 1) := by decide +kernel
theorem dX7_value_35 : decode cX7_value 35 = .ok (.ldc 205, 2) := by decide +kernel
theorem dX7_value_37 : decode cX7_value 37 = .ok (.invokespecial 75, 3) := by decide +kernel
theorem dX7_value_40 : decode cX7_value 40 = .ok (.athrow, 1) := by decide +kernel
theorem dX7_value_41 : decode cX7_value 41 = .ok (.aload_n 0, 1) := by decide +kernel
theorem dX7_value_42 : decode cX7_value 42 = .ok (.getfield 10, 3) := by decide +kernel
theorem dX7_value_45 : decode cX7_value 45 = .ok (.iload_n 2, 1) := by decide +kernel
theorem dX7_value_46 : decode cX7_value 46 = .ok (.iload_n 1, 1) := by decide +kernel
theorem dX7_value_47 : decode cX7_value 47 = .ok (.invokevirtual 120, 3) := by decide +kernel
theorem dX7_value_50 : decode cX7_value 50 = .ok (.ireturn, 1) := by decide +kernel
theorem dX7_ranked_0 : decode cX7_ranked 0 = .ok (.iload_n 1, 1) := by decide +kernel
theorem dX7_ranked_1 : decode cX7_ranked 1 = .ok (.invokestatic 115, 3) := by decide +kernel
theorem dX7_ranked_4 : decode cX7_ranked 4 = .ok (.ifCond .eq 7, 3) := by decide +kernel
theorem dX7_ranked_7 : decode cX7_ranked 7 = .ok (.iload_n 2, 1) := by decide +kernel
theorem dX7_ranked_8 : decode cX7_ranked 8 = .ok (.ifCond .ge 13, 3) := by decide +kernel
theorem dX7_ranked_11 : decode cX7_ranked 11 = .ok (.new 60, 3) := by decide +kernel
theorem dX7_ranked_14 : decode cX7_ranked 14 = .ok (.dup, 1) := by decide +kernel
theorem dX7_ranked_15 : decode cX7_ranked 15 = .ok (.ldc 207, 2) := by decide +kernel
theorem dX7_ranked_17 : decode cX7_ranked 17 = .ok (.invokespecial 64, 3) := by decide +kernel
theorem dX7_ranked_20 : decode cX7_ranked 20 = .ok (.athrow, 1) := by decide +kernel
theorem dX7_ranked_21 : decode cX7_ranked 21 = .ok (.iconst 0, 1) := by decide +kernel
theorem dX7_ranked_22 : decode cX7_ranked 22 = .ok (.istore_n 3, 1) := by decide +kernel
theorem dX7_ranked_23 : decode cX7_ranked 23 = .ok (.iload_n 3, 1) := by decide +kernel
theorem dX7_ranked_24 : decode cX7_ranked 24 = .ok (.aload_n 0, 1) := by decide +kernel
theorem dX7_ranked_25 : decode cX7_ranked 25 = .ok (.getfield 10, 3) := by decide +kernel
theorem dX7_ranked_28 : decode cX7_ranked 28 = .ok (.invokevirtual 67, 3) := by decide +kernel
theorem dX7_ranked_31 : decode cX7_ranked 31 = .ok (.if_icmp .ge 43, 3) := by decide +kernel
theorem dX7_ranked_34 : decode cX7_ranked 34 = .ok (.aload_n 0, 1) := by decide +kernel
theorem dX7_ranked_35 : decode cX7_ranked 35 = .ok (.getfield 10, 3) := by decide +kernel
theorem dX7_ranked_38 : decode cX7_ranked 38 = .ok (.iload_n 3, 1) := by decide +kernel
theorem dX7_ranked_39 : decode cX7_ranked 39 = .ok (.iload_n 1, 1) := by decide +kernel
theorem dX7_ranked_40 : decode cX7_ranked 40 = .ok (.aload_n 0, 1) := by decide +kernel
theorem dX7_ranked_41 : decode cX7_ranked 41 = .ok (.getfield 10, 3) := by decide +kernel
theorem dX7_ranked_44 : decode cX7_ranked 44 = .ok (.invokevirtual 141, 3) := by decide +kernel
theorem dX7_ranked_47 : decode cX7_ranked 47 = .ok (.invokevirtual 209, 3) := by decide +kernel
theorem dX7_ranked_50 : decode cX7_ranked 50 = .ok (.ifCond .eq 18, 3) := by decide +kernel
theorem dX7_ranked_53 : decode cX7_ranked 53 = .ok (.aload_n 0, 1) := by decide +kernel
theorem dX7_ranked_54 : decode cX7_ranked 54 = .ok (.getfield 10, 3) := by decide +kernel
theorem dX7_ranked_57 : decode cX7_ranked 57 = .ok (.iload_n 3, 1) := by decide +kernel
theorem dX7_ranked_58 : decode cX7_ranked 58 = .ok (.iload_n 1, 1) := by decide +kernel
theorem dX7_ranked_59 : decode cX7_ranked 59 = .ok (.invokevirtual 212, 3) := by decide +kernel
theorem dX7_ranked_62 : decode cX7_ranked 62 = .ok (.iload_n 2, 1) := by decide +kernel
theorem dX7_ranked_63 : decode cX7_ranked 63 = .ok (.if_icmp .ne 5, 3) := by decide +kernel
theorem dX7_ranked_66 : decode cX7_ranked 66 = .ok (.iload_n 3, 1) := by decide +kernel
theorem dX7_ranked_67 : decode cX7_ranked 67 = .ok (.ireturn, 1) := by decide +kernel
theorem dX7_ranked_68 : decode cX7_ranked 68 = .ok (.iinc 3 1, 3) := by decide +kernel
theorem dX7_ranked_71 : decode cX7_ranked 71 = .ok (.goto (-48), 3) := by decide +kernel
theorem dX7_ranked_74 : decode cX7_ranked 74 = .ok (.iconst (-1), 1) := by decide +kernel
theorem dX7_ranked_75 : decode cX7_ranked 75 = .ok (.ireturn, 1) := by decide +kernel
theorem dX7_node_0 : decode cX7_node 0 = .ok (.iload_n 1, 1) := by decide +kernel
theorem dX7_node_1 : decode cX7_node 1 = .ok (.iconst 1, 1) := by decide +kernel
theorem dX7_node_2 : decode cX7_node 2 = .ok (.if_icmp .lt 9, 3) := by decide +kernel
theorem dX7_node_5 : decode cX7_node 5 = .ok (.iload_n 1, 1) := by decide +kernel
theorem dX7_node_6 : decode cX7_node 6 = .ok (.bipush 127, 2) := by decide +kernel
theorem dX7_node_8 : decode cX7_node 8 = .ok (.if_icmp .le 13, 3) := by decide +kernel
theorem dX7_node_11 : decode cX7_node 11 = .ok (.new 86, 3) := by decide +kernel
theorem dX7_node_14 : decode cX7_node 14 = .ok (.dup, 1) := by decide +kernel
theorem dX7_node_15 : decode cX7_node 15 = .ok (.ldc 215, 2) := by decide +kernel
theorem dX7_node_17 : decode cX7_node 17 = .ok (.invokespecial 90, 3) := by decide +kernel
theorem dX7_node_20 : decode cX7_node 20 = .ok (.athrow, 1) := by decide +kernel
theorem dX7_node_21 : decode cX7_node 21 = .ok (.iload_n 2, 1) := by decide +kernel
theorem dX7_node_22 : decode cX7_node 22 = .ok (.ifCond .lt 8, 3) := by decide +kernel
theorem dX7_node_25 : decode cX7_node 25 = .ok (.iload_n 2, 1) := by decide +kernel
theorem dX7_node_26 : decode cX7_node 26 = .ok (.iconst 4, 1) := by decide +kernel
theorem dX7_node_27 : decode cX7_node 27 = .ok (.if_icmp .le 13, 3) := by decide +kernel
theorem dX7_node_30 : decode cX7_node 30 = .ok (.new 60, 3) := by decide +kernel
theorem dX7_node_33 : decode cX7_node 33 = .ok (.dup, 1) := by decide +kernel
theorem dX7_node_34 : decode cX7_node 34 = .ok (.ldc 183, 2) := by decide +kernel
theorem dX7_node_36 : decode cX7_node 36 = .ok (.invokespecial 64, 3) := by decide +kernel
theorem dX7_node_39 : decode cX7_node 39 = .ok (.athrow, 1) := by decide +kernel
theorem dX7_node_40 : decode cX7_node 40 = .ok (.iload_n 2, 1) := by decide +kernel
theorem dX7_node_41 : decode cX7_node 41 = .ok (.tableswitch 67 0 3 #[31, 40, 49, 58], 31) := by decide +kernel
theorem dX7_node_72 : decode cX7_node 72 = .ok (.aload_n 0, 1) := by decide +kernel
theorem dX7_node_73 : decode cX7_node 73 = .ok (.getfield 42, 3) := by decide +kernel
theorem dX7_node_76 : decode cX7_node 76 = .ok (.iload_n 1, 1) := by decide +kernel
theorem dX7_node_77 : decode cX7_node 77 = .ok (.invokevirtual 217, 3) := by decide +kernel
theorem dX7_node_80 : decode cX7_node 80 = .ok (.ireturn, 1) := by decide +kernel
theorem dX7_node_81 : decode cX7_node 81 = .ok (.aload_n 0, 1) := by decide +kernel
theorem dX7_node_82 : decode cX7_node 82 = .ok (.getfield 42, 3) := by decide +kernel
theorem dX7_node_85 : decode cX7_node 85 = .ok (.iload_n 1, 1) := by decide +kernel
theorem dX7_node_86 : decode cX7_node 86 = .ok (.invokevirtual 220, 3) := by decide +kernel
theorem dX7_node_89 : decode cX7_node 89 = .ok (.ireturn, 1) := by decide +kernel
theorem dX7_node_90 : decode cX7_node 90 = .ok (.aload_n 0, 1) := by decide +kernel
theorem dX7_node_91 : decode cX7_node 91 = .ok (.getfield 42, 3) := by decide +kernel
theorem dX7_node_94 : decode cX7_node 94 = .ok (.iload_n 1, 1) := by decide +kernel
theorem dX7_node_95 : decode cX7_node 95 = .ok (.invokevirtual 223, 3) := by decide +kernel
theorem dX7_node_98 : decode cX7_node 98 = .ok (.ireturn, 1) := by decide +kernel
theorem dX7_node_99 : decode cX7_node 99 = .ok (.aload_n 0, 1) := by decide +kernel
theorem dX7_node_100 : decode cX7_node 100 = .ok (.getfield 42, 3) := by decide +kernel
theorem dX7_node_103 : decode cX7_node 103 = .ok (.iload_n 1, 1) := by decide +kernel
theorem dX7_node_104 : decode cX7_node 104 = .ok (.invokevirtual 226, 3) := by decide +kernel
theorem dX7_node_107 : decode cX7_node 107 = .ok (.ireturn, 1) := by decide +kernel
theorem dX7_node_108 : decode cX7_node 108 = .ok (.aload_n 0, 1) := by decide +kernel
theorem dX7_node_109 : decode cX7_node 109 = .ok (.getfield 42, 3) := by decide +kernel
theorem dX7_node_112 : decode cX7_node 112 = .ok (.iload_n 1, 1) := by decide +kernel
theorem dX7_node_113 : decode cX7_node 113 = .ok (.invokevirtual 229, 3) := by decide +kernel
theorem dX7_node_116 : decode cX7_node 116 = .ok (.ireturn, 1) := by decide +kernel
theorem dX7_row_0 : decode cX7_row 0 = .ok (.iload_n 1, 1) := by decide +kernel
theorem dX7_row_1 : decode cX7_row 1 = .ok (.ifCond .lt 12, 3) := by decide +kernel
theorem dX7_row_4 : decode cX7_row 4 = .ok (.iload_n 2, 1) := by decide +kernel
theorem dX7_row_5 : decode cX7_row 5 = .ok (.ifCond .lt 8, 3) := by decide +kernel
theorem dX7_row_8 : decode cX7_row 8 = .ok (.iload_n 2, 1) := by decide +kernel
theorem dX7_row_9 : decode cX7_row 9 = .ok (.iconst 2, 1) := by decide +kernel
theorem dX7_row_10 : decode cX7_row 10 = .ok (.if_icmp .le 13, 3) := by decide +kernel
theorem dX7_row_13 : decode cX7_row 13 = .ok (.new 60, 3) := by decide +kernel
theorem dX7_row_16 : decode cX7_row 16 = .ok (.dup, 1) := by decide +kernel
theorem dX7_row_17 : decode cX7_row 17 = .ok (.ldc 232, 2) := by decide +kernel
theorem dX7_row_19 : decode cX7_row 19 = .ok (.invokespecial 64, 3) := by decide +kernel
theorem dX7_row_22 : decode cX7_row 22 = .ok (.athrow, 1) := by decide +kernel
theorem dX7_row_23 : decode cX7_row 23 = .ok (.iload_n 1, 1) := by decide +kernel
theorem dX7_row_24 : decode cX7_row 24 = .ok (.aload_n 0, 1) := by decide +kernel
theorem dX7_row_25 : decode cX7_row 25 = .ok (.getfield 35, 3) := by decide +kernel
theorem dX7_row_28 : decode cX7_row 28 = .ok (.invokevirtual 234, 3) := by decide +kernel
theorem dX7_row_31 : decode cX7_row 31 = .ok (.if_icmp .lt 5, 3) := by decide +kernel
theorem dX7_row_34 : decode cX7_row 34 = .ok (.iconst (-1), 1) := by decide +kernel
theorem dX7_row_35 : decode cX7_row 35 = .ok (.ireturn, 1) := by decide +kernel
theorem dX7_row_36 : decode cX7_row 36 = .ok (.aload_n 0, 1) := by decide +kernel
theorem dX7_row_37 : decode cX7_row 37 = .ok (.getfield 35, 3) := by decide +kernel
theorem dX7_row_40 : decode cX7_row 40 = .ok (.iload_n 1, 1) := by decide +kernel
theorem dX7_row_41 : decode cX7_row 41 = .ok (.invokevirtual 237, 3) := by decide +kernel
theorem dX7_row_44 : decode cX7_row 44 = .ok (.istore_n 3, 1) := by decide +kernel
theorem dX7_row_45 : decode cX7_row 45 = .ok (.iload_n 2, 1) := by decide +kernel
theorem dX7_row_46 : decode cX7_row 46 = .ok (.lookupswitch 41 #[(0, 26), (1, 28)], 26) := by decide +kernel
theorem dX7_row_72 : decode cX7_row 72 = .ok (.iload_n 3, 1) := by decide +kernel
theorem dX7_row_73 : decode cX7_row 73 = .ok (.ireturn, 1) := by decide +kernel
theorem dX7_row_74 : decode cX7_row 74 = .ok (.aload_n 0, 1) := by decide +kernel
theorem dX7_row_75 : decode cX7_row 75 = .ok (.getfield 35, 3) := by decide +kernel
theorem dX7_row_78 : decode cX7_row 78 = .ok (.iload_n 1, 1) := by decide +kernel
theorem dX7_row_79 : decode cX7_row 79 = .ok (.iconst 1, 1) := by decide +kernel
theorem dX7_row_80 : decode cX7_row 80 = .ok (.iadd, 1) := by decide +kernel
theorem dX7_row_81 : decode cX7_row 81 = .ok (.invokevirtual 237, 3) := by decide +kernel
theorem dX7_row_84 : decode cX7_row 84 = .ok (.iload_n 3, 1) := by decide +kernel
theorem dX7_row_85 : decode cX7_row 85 = .ok (.isub, 1) := by decide +kernel
theorem dX7_row_86 : decode cX7_row 86 = .ok (.ireturn, 1) := by decide +kernel
theorem dX7_row_87 : decode cX7_row 87 = .ok (.aload_n 0, 1) := by decide +kernel
theorem dX7_row_88 : decode cX7_row 88 = .ok (.getfield 35, 3) := by decide +kernel
theorem dX7_row_91 : decode cX7_row 91 = .ok (.iload_n 3, 1) := by decide +kernel
theorem dX7_row_92 : decode cX7_row 92 = .ok (.invokevirtual 202, 3) := by decide +kernel
theorem dX7_row_95 : decode cX7_row 95 = .ok (.ireturn, 1) := by decide +kernel
theorem dX7_sum_0 : decode cX7_sum 0 = .ok (.iload_n 1, 1) := by decide +kernel
theorem dX7_sum_1 : decode cX7_sum 1 = .ok (.iload_n 2, 1) := by decide +kernel
theorem dX7_sum_2 : decode cX7_sum 2 = .ok (.bipush 64, 2) := by decide +kernel
theorem dX7_sum_4 : decode cX7_sum 4 = .ok (.invokestatic 91, 3) := by decide +kernel
theorem dX7_sum_7 : decode cX7_sum 7 = .ok (.ifCond .ne 13, 3) := by decide +kernel
theorem dX7_sum_10 : decode cX7_sum 10 = .ok (.new 60, 3) := by decide +kernel
theorem dX7_sum_13 : decode cX7_sum 13 = .ok (.dup, 1) := by decide +kernel
theorem dX7_sum_14 : decode cX7_sum 14 = .ok (.ldc 95, 2) := by decide +kernel
theorem dX7_sum_16 : decode cX7_sum 16 = .ok (.invokespecial 64, 3) := by decide +kernel
theorem dX7_sum_19 : decode cX7_sum 19 = .ok (.athrow, 1) := by decide +kernel
theorem dX7_sum_20 : decode cX7_sum 20 = .ok (.iconst 0, 1) := by decide +kernel
theorem dX7_sum_21 : decode cX7_sum 21 = .ok (.istore_n 3, 1) := by decide +kernel
theorem dX7_sum_22 : decode cX7_sum 22 = .ok (.iload_n 1, 1) := by decide +kernel
theorem dX7_sum_23 : decode cX7_sum 23 = .ok (.istore 4, 2) := by decide +kernel
theorem dX7_sum_25 : decode cX7_sum 25 = .ok (.iload 4, 2) := by decide +kernel
theorem dX7_sum_27 : decode cX7_sum 27 = .ok (.iload_n 2, 1) := by decide +kernel
theorem dX7_sum_28 : decode cX7_sum 28 = .ok (.if_icmp .gt 40, 3) := by decide +kernel
theorem dX7_sum_31 : decode cX7_sum 31 = .ok (.aload_n 0, 1) := by decide +kernel
theorem dX7_sum_32 : decode cX7_sum 32 = .ok (.getfield 35, 3) := by decide +kernel
theorem dX7_sum_35 : decode cX7_sum 35 = .ok (.iload 4, 2) := by decide +kernel
theorem dX7_sum_37 : decode cX7_sum 37 = .ok (.invokevirtual 202, 3) := by decide +kernel
theorem dX7_sum_40 : decode cX7_sum 40 = .ok (.istore 5, 2) := by decide +kernel
theorem dX7_sum_42 : decode cX7_sum 42 = .ok (.iload 5, 2) := by decide +kernel
theorem dX7_sum_44 : decode cX7_sum 44 = .ok (.iconst (-1), 1) := by decide +kernel
theorem dX7_sum_45 : decode cX7_sum 45 = .ok (.if_icmp .eq 17, 3) := by decide +kernel
theorem dX7_sum_48 : decode cX7_sum 48 = .ok (.iload_n 3, 1) := by decide +kernel
theorem dX7_sum_49 : decode cX7_sum 49 = .ok (.aload_n 0, 1) := by decide +kernel
theorem dX7_sum_50 : decode cX7_sum 50 = .ok (.getfield 10, 3) := by decide +kernel
theorem dX7_sum_53 : decode cX7_sum 53 = .ok (.iload 5, 2) := by decide +kernel
theorem dX7_sum_55 : decode cX7_sum 55 = .ok (.iload 4, 2) := by decide +kernel
theorem dX7_sum_57 : decode cX7_sum 57 = .ok (.invokevirtual 120, 3) := by decide +kernel
theorem dX7_sum_60 : decode cX7_sum 60 = .ok (.iadd, 1) := by decide +kernel
theorem dX7_sum_61 : decode cX7_sum 61 = .ok (.istore_n 3, 1) := by decide +kernel
theorem dX7_sum_62 : decode cX7_sum 62 = .ok (.iinc 4 1, 3) := by decide +kernel
theorem dX7_sum_65 : decode cX7_sum 65 = .ok (.goto (-40), 3) := by decide +kernel
theorem dX7_sum_68 : decode cX7_sum 68 = .ok (.iload_n 3, 1) := by decide +kernel
theorem dX7_sum_69 : decode cX7_sum 69 = .ok (.ireturn, 1) := by decide +kernel
theorem dX7_count_0 : decode cX7_count 0 = .ok (.iload_n 1, 1) := by decide +kernel
theorem dX7_count_1 : decode cX7_count 1 = .ok (.tableswitch 131 0 8 #[51, 59, 67, 75, 83, 92, 100, 112, 123], 51) := by decide +kernel
theorem dX7_count_52 : decode cX7_count 52 = .ok (.aload_n 0, 1) := by decide +kernel
theorem dX7_count_53 : decode cX7_count 53 = .ok (.getfield 10, 3) := by decide +kernel
theorem dX7_count_56 : decode cX7_count 56 = .ok (.invokevirtual 141, 3) := by decide +kernel
theorem dX7_count_59 : decode cX7_count 59 = .ok (.ireturn, 1) := by decide +kernel
theorem dX7_count_60 : decode cX7_count 60 = .ok (.aload_n 0, 1) := by decide +kernel
theorem dX7_count_61 : decode cX7_count 61 = .ok (.getfield 10, 3) := by decide +kernel
theorem dX7_count_64 : decode cX7_count 64 = .ok (.invokevirtual 67, 3) := by decide +kernel
theorem dX7_count_67 : decode cX7_count 67 = .ok (.ireturn, 1) := by decide +kernel
theorem dX7_count_68 : decode cX7_count 68 = .ok (.aload_n 0, 1) := by decide +kernel
theorem dX7_count_69 : decode cX7_count 69 = .ok (.getfield 10, 3) := by decide +kernel
theorem dX7_count_72 : decode cX7_count 72 = .ok (.invokevirtual 240, 3) := by decide +kernel
theorem dX7_count_75 : decode cX7_count 75 = .ok (.ireturn, 1) := by decide +kernel
theorem dX7_count_76 : decode cX7_count 76 = .ok (.aload_n 0, 1) := by decide +kernel
theorem dX7_count_77 : decode cX7_count 77 = .ok (.getfield 35, 3) := by decide +kernel
theorem dX7_count_80 : decode cX7_count 80 = .ok (.invokevirtual 234, 3) := by decide +kernel
theorem dX7_count_83 : decode cX7_count 83 = .ok (.ireturn, 1) := by decide +kernel
theorem dX7_count_84 : decode cX7_count 84 = .ok (.aload_n 0, 1) := by decide +kernel
theorem dX7_count_85 : decode cX7_count 85 = .ok (.getfield 35, 3) := by decide +kernel
theorem dX7_count_88 : decode cX7_count 88 = .ok (.iconst (-1), 1) := by decide +kernel
theorem dX7_count_89 : decode cX7_count 89 = .ok (.invokevirtual 185, 3) := by decide +kernel
theorem dX7_count_92 : decode cX7_count 92 = .ok (.ireturn, 1) := by decide +kernel
theorem dX7_count_93 : decode cX7_count 93 = .ok (.aload_n 0, 1) := by decide +kernel
theorem dX7_count_94 : decode cX7_count 94 = .ok (.getfield 42, 3) := by decide +kernel
theorem dX7_count_97 : decode cX7_count 97 = .ok (.invokevirtual 243, 3) := by decide +kernel
theorem dX7_count_100 : decode cX7_count 100 = .ok (.ireturn, 1) := by decide +kernel
theorem dX7_count_101 : decode cX7_count 101 = .ok (.bipush 127, 2) := by decide +kernel
theorem dX7_count_103 : decode cX7_count 103 = .ok (.aload_n 0, 1) := by decide +kernel
theorem dX7_count_104 : decode cX7_count 104 = .ok (.getfield 42, 3) := by decide +kernel
theorem dX7_count_107 : decode cX7_count 107 = .ok (.iconst (-1), 1) := by decide +kernel
theorem dX7_count_108 : decode cX7_count 108 = .ok (.invokevirtual 188, 3) := by decide +kernel
theorem dX7_count_111 : decode cX7_count 111 = .ok (.isub, 1) := by decide +kernel
theorem dX7_count_112 : decode cX7_count 112 = .ok (.ireturn, 1) := by decide +kernel
theorem dX7_count_113 : decode cX7_count 113 = .ok (.aload_n 0, 1) := by decide +kernel
theorem dX7_count_114 : decode cX7_count 114 = .ok (.getfield 49, 3) := by decide +kernel
theorem dX7_count_117 : decode cX7_count 117 = .ok (.invokevirtual 127, 3) := by decide +kernel
theorem dX7_count_120 : decode cX7_count 120 = .ok (.invokestatic 130, 3) := by decide +kernel
theorem dX7_count_123 : decode cX7_count 123 = .ok (.ireturn, 1) := by decide +kernel
theorem dX7_count_124 : decode cX7_count 124 = .ok (.aload_n 0, 1) := by decide +kernel
theorem dX7_count_125 : decode cX7_count 125 = .ok (.getfield 19, 3) := by decide +kernel
theorem dX7_count_128 : decode cX7_count 128 = .ok (.invokevirtual 177, 3) := by decide +kernel
theorem dX7_count_131 : decode cX7_count 131 = .ok (.ireturn, 1) := by decide +kernel
theorem dX7_count_132 : decode cX7_count 132 = .ok (.new 60, 3) := by decide +kernel
theorem dX7_count_135 : decode cX7_count 135 = .ok (.dup, 1) := by decide +kernel
theorem dX7_count_136 : decode cX7_count 136 = .ok (.ldc 246, 2) := by decide +kernel
theorem dX7_count_138 : decode cX7_count 138 = .ok (.invokespecial 64, 3) := by decide +kernel
theorem dX7_count_141 : decode cX7_count 141 = .ok (.athrow, 1) := by decide +kernel
theorem dX7_ifAdded_0 : decode cX7_ifAdded 0 = .ok (.iload_n 1, 1) := by decide +kernel
theorem dX7_ifAdded_1 : decode cX7_ifAdded 1 = .ok (.invokestatic 53, 3) := by decide +kernel
theorem dX7_ifAdded_4 : decode cX7_ifAdded 4 = .ok (.ifCond .eq 10, 3) := by decide +kernel
theorem dX7_ifAdded_7 : decode cX7_ifAdded 7 = .ok (.iload_n 2, 1) := by decide +kernel
theorem dX7_ifAdded_8 : decode cX7_ifAdded 8 = .ok (.invokestatic 57, 3) := by decide +kernel
theorem dX7_ifAdded_11 : decode cX7_ifAdded 11 = .ok (.ifCond .ne 13, 3) := by decide +kernel
theorem dX7_ifAdded_14 : decode cX7_ifAdded 14 = .ok (.new 60, 3) := by decide +kernel
theorem dX7_ifAdded_17 : decode cX7_ifAdded 17 = .ok (.dup, 1) := by decide +kernel
theorem dX7_ifAdded_18 : decode cX7_ifAdded 18 = .ok (.ldc 62, 2) := by decide +kernel
theorem dX7_ifAdded_20 : decode cX7_ifAdded 20 = .ok (.invokespecial 64, 3) := by decide +kernel
theorem dX7_ifAdded_23 : decode cX7_ifAdded 23 = .ok (.athrow, 1) := by decide +kernel
theorem dX7_ifAdded_24 : decode cX7_ifAdded 24 = .ok (.iconst 0, 1) := by decide +kernel
theorem dX7_ifAdded_25 : decode cX7_ifAdded 25 = .ok (.istore_n 3, 1) := by decide +kernel
theorem dX7_ifAdded_26 : decode cX7_ifAdded 26 = .ok (.iconst 0, 1) := by decide +kernel
theorem dX7_ifAdded_27 : decode cX7_ifAdded 27 = .ok (.istore 4, 2) := by decide +kernel
theorem dX7_ifAdded_29 : decode cX7_ifAdded 29 = .ok (.iload 4, 2) := by decide +kernel
theorem dX7_ifAdded_31 : decode cX7_ifAdded 31 = .ok (.bipush 64, 2) := by decide +kernel
theorem dX7_ifAdded_33 : decode cX7_ifAdded 33 = .ok (.if_icmp .ge 49, 3) := by decide +kernel
theorem dX7_ifAdded_36 : decode cX7_ifAdded 36 = .ok (.aload_n 0, 1) := by decide +kernel
theorem dX7_ifAdded_37 : decode cX7_ifAdded 37 = .ok (.getfield 35, 3) := by decide +kernel
theorem dX7_ifAdded_40 : decode cX7_ifAdded 40 = .ok (.iload 4, 2) := by decide +kernel
theorem dX7_ifAdded_42 : decode cX7_ifAdded 42 = .ok (.invokevirtual 202, 3) := by decide +kernel
theorem dX7_ifAdded_45 : decode cX7_ifAdded 45 = .ok (.istore 5, 2) := by decide +kernel
theorem dX7_ifAdded_47 : decode cX7_ifAdded 47 = .ok (.iload 5, 2) := by decide +kernel
theorem dX7_ifAdded_49 : decode cX7_ifAdded 49 = .ok (.iconst (-1), 1) := by decide +kernel
theorem dX7_ifAdded_50 : decode cX7_ifAdded 50 = .ok (.if_icmp .eq 23, 3) := by decide +kernel
theorem dX7_ifAdded_53 : decode cX7_ifAdded 53 = .ok (.iload_n 1, 1) := by decide +kernel
theorem dX7_ifAdded_54 : decode cX7_ifAdded 54 = .ok (.iload 4, 2) := by decide +kernel
theorem dX7_ifAdded_56 : decode cX7_ifAdded 56 = .ok (.imul, 1) := by decide +kernel
theorem dX7_ifAdded_57 : decode cX7_ifAdded 57 = .ok (.iload_n 2, 1) := by decide +kernel
theorem dX7_ifAdded_58 : decode cX7_ifAdded 58 = .ok (.iadd, 1) := by decide +kernel
theorem dX7_ifAdded_59 : decode cX7_ifAdded 59 = .ok (.aload_n 0, 1) := by decide +kernel
theorem dX7_ifAdded_60 : decode cX7_ifAdded 60 = .ok (.getfield 10, 3) := by decide +kernel
theorem dX7_ifAdded_63 : decode cX7_ifAdded 63 = .ok (.iload 5, 2) := by decide +kernel
theorem dX7_ifAdded_65 : decode cX7_ifAdded 65 = .ok (.iload 4, 2) := by decide +kernel
theorem dX7_ifAdded_67 : decode cX7_ifAdded 67 = .ok (.invokevirtual 120, 3) := by decide +kernel
theorem dX7_ifAdded_70 : decode cX7_ifAdded 70 = .ok (.if_icmp .ge 6, 3) := by decide +kernel
theorem dX7_ifAdded_73 : decode cX7_ifAdded 73 = .ok (.iinc 3 1, 3) := by decide +kernel
theorem dX7_ifAdded_76 : decode cX7_ifAdded 76 = .ok (.iinc 4 1, 3) := by decide +kernel
theorem dX7_ifAdded_79 : decode cX7_ifAdded 79 = .ok (.goto (-50), 3) := by decide +kernel
theorem dX7_ifAdded_82 : decode cX7_ifAdded 82 = .ok (.iload_n 3, 1) := by decide +kernel
theorem dX7_ifAdded_83 : decode cX7_ifAdded 83 = .ok (.ireturn, 1) := by decide +kernel
theorem dX7_highest_0 : decode cX7_highest 0 = .ok (.iload_n 1, 1) := by decide +kernel
theorem dX7_highest_1 : decode cX7_highest 1 = .ok (.invokestatic 53, 3) := by decide +kernel
theorem dX7_highest_4 : decode cX7_highest 4 = .ok (.ifCond .ne 13, 3) := by decide +kernel
theorem dX7_highest_7 : decode cX7_highest 7 = .ok (.new 60, 3) := by decide +kernel
theorem dX7_highest_10 : decode cX7_highest 10 = .ok (.dup, 1) := by decide +kernel
theorem dX7_highest_11 : decode cX7_highest 11 = .ok (.ldc 248, 2) := by decide +kernel
theorem dX7_highest_13 : decode cX7_highest 13 = .ok (.invokespecial 64, 3) := by decide +kernel
theorem dX7_highest_16 : decode cX7_highest 16 = .ok (.athrow, 1) := by decide +kernel
theorem dX7_highest_17 : decode cX7_highest 17 = .ok (.sipush (-10000), 3) := by decide +kernel
theorem dX7_highest_20 : decode cX7_highest 20 = .ok (.istore_n 2, 1) := by decide +kernel
theorem dX7_highest_21 : decode cX7_highest 21 = .ok (.iconst 0, 1) := by decide +kernel
theorem dX7_highest_22 : decode cX7_highest 22 = .ok (.istore_n 3, 1) := by decide +kernel
theorem dX7_highest_23 : decode cX7_highest 23 = .ok (.iload_n 3, 1) := by decide +kernel
theorem dX7_highest_24 : decode cX7_highest 24 = .ok (.bipush 64, 2) := by decide +kernel
theorem dX7_highest_26 : decode cX7_highest 26 = .ok (.if_icmp .ge 50, 3) := by decide +kernel
theorem dX7_highest_29 : decode cX7_highest 29 = .ok (.aload_n 0, 1) := by decide +kernel
theorem dX7_highest_30 : decode cX7_highest 30 = .ok (.getfield 35, 3) := by decide +kernel
theorem dX7_highest_33 : decode cX7_highest 33 = .ok (.iload_n 3, 1) := by decide +kernel
theorem dX7_highest_34 : decode cX7_highest 34 = .ok (.invokevirtual 202, 3) := by decide +kernel
theorem dX7_highest_37 : decode cX7_highest 37 = .ok (.istore 4, 2) := by decide +kernel
theorem dX7_highest_39 : decode cX7_highest 39 = .ok (.iload 4, 2) := by decide +kernel
theorem dX7_highest_41 : decode cX7_highest 41 = .ok (.iconst (-1), 1) := by decide +kernel
theorem dX7_highest_42 : decode cX7_highest 42 = .ok (.if_icmp .ne 7, 3) := by decide +kernel
theorem dX7_highest_45 : decode cX7_highest 45 = .ok (.sipush 9999, 3) := by decide +kernel
theorem dX7_highest_48 : decode cX7_highest 48 = .ok (.ireturn, 1) := by decide +kernel
theorem dX7_highest_49 : decode cX7_highest 49 = .ok (.iload_n 2, 1) := by decide +kernel
theorem dX7_highest_50 : decode cX7_highest 50 = .ok (.aload_n 0, 1) := by decide +kernel
theorem dX7_highest_51 : decode cX7_highest 51 = .ok (.getfield 10, 3) := by decide +kernel
theorem dX7_highest_54 : decode cX7_highest 54 = .ok (.iload 4, 2) := by decide +kernel
theorem dX7_highest_56 : decode cX7_highest 56 = .ok (.iload_n 3, 1) := by decide +kernel
theorem dX7_highest_57 : decode cX7_highest 57 = .ok (.invokevirtual 120, 3) := by decide +kernel
theorem dX7_highest_60 : decode cX7_highest 60 = .ok (.iconst 1, 1) := by decide +kernel
theorem dX7_highest_61 : decode cX7_highest 61 = .ok (.isub, 1) := by decide +kernel
theorem dX7_highest_62 : decode cX7_highest 62 = .ok (.iload_n 1, 1) := by decide +kernel
theorem dX7_highest_63 : decode cX7_highest 63 = .ok (.iload_n 3, 1) := by decide +kernel
theorem dX7_highest_64 : decode cX7_highest 64 = .ok (.imul, 1) := by decide +kernel
theorem dX7_highest_65 : decode cX7_highest 65 = .ok (.isub, 1) := by decide +kernel
theorem dX7_highest_66 : decode cX7_highest 66 = .ok (.invokestatic 250, 3) := by decide +kernel
theorem dX7_highest_69 : decode cX7_highest 69 = .ok (.istore_n 2, 1) := by decide +kernel
theorem dX7_highest_70 : decode cX7_highest 70 = .ok (.iinc 3 1, 3) := by decide +kernel
theorem dX7_highest_73 : decode cX7_highest 73 = .ok (.goto (-50), 3) := by decide +kernel
theorem dX7_highest_76 : decode cX7_highest 76 = .ok (.iload_n 2, 1) := by decide +kernel
theorem dX7_highest_77 : decode cX7_highest 77 = .ok (.sipush 9999, 3) := by decide +kernel
theorem dX7_highest_80 : decode cX7_highest 80 = .ok (.invokestatic 255, 3) := by decide +kernel
theorem dX7_highest_83 : decode cX7_highest 83 = .ok (.ireturn, 1) := by decide +kernel
theorem dX7_worth_0 : decode cX7_worth 0 = .ok (.aload_n 0, 1) := by decide +kernel
theorem dX7_worth_1 : decode cX7_worth 1 = .ok (.getfield 10, 3) := by decide +kernel
theorem dX7_worth_4 : decode cX7_worth 4 = .ok (.iload_n 1, 1) := by decide +kernel
theorem dX7_worth_5 : decode cX7_worth 5 = .ok (.invokevirtual 83, 3) := by decide +kernel
theorem dX7_worth_8 : decode cX7_worth 8 = .ok (.ifCond .ne 13, 3) := by decide +kernel
theorem dX7_worth_11 : decode cX7_worth 11 = .ok (.new 86, 3) := by decide +kernel
theorem dX7_worth_14 : decode cX7_worth 14 = .ok (.dup, 1) := by decide +kernel
theorem dX7_worth_15 : decode cX7_worth 15 = .ok (.ldc 88, 2) := by decide +kernel
theorem dX7_worth_17 : decode cX7_worth 17 = .ok (.invokespecial 90, 3) := by decide +kernel
theorem dX7_worth_20 : decode cX7_worth 20 = .ok (.athrow, 1) := by decide +kernel
theorem dX7_worth_21 : decode cX7_worth 21 = .ok (.iconst 0, 1) := by decide +kernel
theorem dX7_worth_22 : decode cX7_worth 22 = .ok (.istore_n 2, 1) := by decide +kernel
theorem dX7_worth_23 : decode cX7_worth 23 = .ok (.iconst 0, 1) := by decide +kernel
theorem dX7_worth_24 : decode cX7_worth 24 = .ok (.istore_n 3, 1) := by decide +kernel
theorem dX7_worth_25 : decode cX7_worth 25 = .ok (.iload_n 3, 1) := by decide +kernel
theorem dX7_worth_26 : decode cX7_worth 26 = .ok (.bipush 64, 2) := by decide +kernel
theorem dX7_worth_28 : decode cX7_worth 28 = .ok (.if_icmp .ge 70, 3) := by decide +kernel
theorem dX7_worth_31 : decode cX7_worth 31 = .ok (.aload_n 0, 1) := by decide +kernel
theorem dX7_worth_32 : decode cX7_worth 32 = .ok (.getfield 35, 3) := by decide +kernel
theorem dX7_worth_35 : decode cX7_worth 35 = .ok (.iload_n 3, 1) := by decide +kernel
theorem dX7_worth_36 : decode cX7_worth 36 = .ok (.invokevirtual 202, 3) := by decide +kernel
theorem dX7_worth_39 : decode cX7_worth 39 = .ok (.iload_n 1, 1) := by decide +kernel
theorem dX7_worth_40 : decode cX7_worth 40 = .ok (.if_icmp .ne 52, 3) := by decide +kernel
theorem dX7_worth_43 : decode cX7_worth 43 = .ok (.aload_n 0, 1) := by decide +kernel
theorem dX7_worth_44 : decode cX7_worth 44 = .ok (.getfield 10, 3) := by decide +kernel
theorem dX7_worth_47 : decode cX7_worth 47 = .ok (.iload_n 1, 1) := by decide +kernel
theorem dX7_worth_48 : decode cX7_worth 48 = .ok (.iload_n 3, 1) := by decide +kernel
theorem dX7_worth_49 : decode cX7_worth 49 = .ok (.aload_n 0, 1) := by decide +kernel
theorem dX7_worth_50 : decode cX7_worth 50 = .ok (.getfield 10, 3) := by decide +kernel
theorem dX7_worth_53 : decode cX7_worth 53 = .ok (.invokevirtual 141, 3) := by decide +kernel
theorem dX7_worth_56 : decode cX7_worth 56 = .ok (.invokevirtual 196, 3) := by decide +kernel
theorem dX7_worth_59 : decode cX7_worth 59 = .ok (.istore 4, 2) := by decide +kernel
theorem dX7_worth_61 : decode cX7_worth 61 = .ok (.iload 4, 2) := by decide +kernel
theorem dX7_worth_63 : decode cX7_worth 63 = .ok (.iconst (-1), 1) := by decide +kernel
theorem dX7_worth_64 : decode cX7_worth 64 = .ok (.if_icmp .ne 5, 3) := by decide +kernel
theorem dX7_worth_67 : decode cX7_worth 67 = .ok (.iconst (-1), 1) := by decide +kernel
theorem dX7_worth_68 : decode cX7_worth 68 = .ok (.ireturn, 1) := by decide +kernel
theorem dX7_worth_69 : decode cX7_worth 69 = .ok (.iload_n 2, 1) := by decide +kernel
theorem dX7_worth_70 : decode cX7_worth 70 = .ok (.aload_n 0, 1) := by decide +kernel
theorem dX7_worth_71 : decode cX7_worth 71 = .ok (.getfield 10, 3) := by decide +kernel
theorem dX7_worth_74 : decode cX7_worth 74 = .ok (.iload 4, 2) := by decide +kernel
theorem dX7_worth_76 : decode cX7_worth 76 = .ok (.iload_n 3, 1) := by decide +kernel
theorem dX7_worth_77 : decode cX7_worth 77 = .ok (.invokevirtual 120, 3) := by decide +kernel
theorem dX7_worth_80 : decode cX7_worth 80 = .ok (.aload_n 0, 1) := by decide +kernel
theorem dX7_worth_81 : decode cX7_worth 81 = .ok (.getfield 10, 3) := by decide +kernel
theorem dX7_worth_84 : decode cX7_worth 84 = .ok (.iload_n 1, 1) := by decide +kernel
theorem dX7_worth_85 : decode cX7_worth 85 = .ok (.iload_n 3, 1) := by decide +kernel
theorem dX7_worth_86 : decode cX7_worth 86 = .ok (.invokevirtual 120, 3) := by decide +kernel
theorem dX7_worth_89 : decode cX7_worth 89 = .ok (.isub, 1) := by decide +kernel
theorem dX7_worth_90 : decode cX7_worth 90 = .ok (.iadd, 1) := by decide +kernel
theorem dX7_worth_91 : decode cX7_worth 91 = .ok (.istore_n 2, 1) := by decide +kernel
theorem dX7_worth_92 : decode cX7_worth 92 = .ok (.iinc 3 1, 3) := by decide +kernel
theorem dX7_worth_95 : decode cX7_worth 95 = .ok (.goto (-70), 3) := by decide +kernel
theorem dX7_worth_98 : decode cX7_worth 98 = .ok (.iload_n 2, 1) := by decide +kernel
theorem dX7_worth_99 : decode cX7_worth 99 = .ok (.ireturn, 1) := by decide +kernel
theorem dX7_changesAt_0 : decode cX7_changesAt 0 = .ok (.iload_n 1, 1) := by decide +kernel
theorem dX7_changesAt_1 : decode cX7_changesAt 1 = .ok (.invokestatic 115, 3) := by decide +kernel
theorem dX7_changesAt_4 : decode cX7_changesAt 4 = .ok (.ifCond .ne 13, 3) := by decide +kernel
theorem dX7_changesAt_7 : decode cX7_changesAt 7 = .ok (.new 60, 3) := by decide +kernel
theorem dX7_changesAt_10 : decode cX7_changesAt 10 = .ok (.dup, 1) := by decide +kernel
theorem dX7_changesAt_11 : decode cX7_changesAt 11 = .ok (.ldc 200, 2) := by decide +kernel
theorem dX7_changesAt_13 : decode cX7_changesAt 13 = .ok (.invokespecial 64, 3) := by decide +kernel
theorem dX7_changesAt_16 : decode cX7_changesAt 16 = .ok (.athrow, 1) := by decide +kernel
theorem dX7_changesAt_17 : decode cX7_changesAt 17 = .ok (.aload_n 0, 1) := by decide +kernel
theorem dX7_changesAt_18 : decode cX7_changesAt 18 = .ok (.getfield 35, 3) := by decide +kernel
theorem dX7_changesAt_21 : decode cX7_changesAt 21 = .ok (.iload_n 1, 1) := by decide +kernel
theorem dX7_changesAt_22 : decode cX7_changesAt 22 = .ok (.invokevirtual 202, 3) := by decide +kernel
theorem dX7_changesAt_25 : decode cX7_changesAt 25 = .ok (.istore_n 2, 1) := by decide +kernel
theorem dX7_changesAt_26 : decode cX7_changesAt 26 = .ok (.aload_n 0, 1) := by decide +kernel
theorem dX7_changesAt_27 : decode cX7_changesAt 27 = .ok (.getfield 10, 3) := by decide +kernel
theorem dX7_changesAt_30 : decode cX7_changesAt 30 = .ok (.invokevirtual 141, 3) := by decide +kernel
theorem dX7_changesAt_33 : decode cX7_changesAt 33 = .ok (.iconst 1, 1) := by decide +kernel
theorem dX7_changesAt_34 : decode cX7_changesAt 34 = .ok (.iadd, 1) := by decide +kernel
theorem dX7_changesAt_35 : decode cX7_changesAt 35 = .ok (.istore_n 3, 1) := by decide +kernel
theorem dX7_changesAt_36 : decode cX7_changesAt 36 = .ok (.iload_n 3, 1) := by decide +kernel
theorem dX7_changesAt_37 : decode cX7_changesAt 37 = .ok (.bipush 100, 2) := by decide +kernel
theorem dX7_changesAt_39 : decode cX7_changesAt 39 = .ok (.if_icmp .ge 25, 3) := by decide +kernel
theorem dX7_changesAt_42 : decode cX7_changesAt 42 = .ok (.aload_n 0, 1) := by decide +kernel
theorem dX7_changesAt_43 : decode cX7_changesAt 43 = .ok (.getfield 10, 3) := by decide +kernel
theorem dX7_changesAt_46 : decode cX7_changesAt 46 = .ok (.iconst (-1), 1) := by decide +kernel
theorem dX7_changesAt_47 : decode cX7_changesAt 47 = .ok (.iload_n 1, 1) := by decide +kernel
theorem dX7_changesAt_48 : decode cX7_changesAt 48 = .ok (.iload_n 3, 1) := by decide +kernel
theorem dX7_changesAt_49 : decode cX7_changesAt 49 = .ok (.invokevirtual 196, 3) := by decide +kernel
theorem dX7_changesAt_52 : decode cX7_changesAt 52 = .ok (.iload_n 2, 1) := by decide +kernel
theorem dX7_changesAt_53 : decode cX7_changesAt 53 = .ok (.if_icmp .eq 5, 3) := by decide +kernel
theorem dX7_changesAt_56 : decode cX7_changesAt 56 = .ok (.iload_n 3, 1) := by decide +kernel
theorem dX7_changesAt_57 : decode cX7_changesAt 57 = .ok (.ireturn, 1) := by decide +kernel
theorem dX7_changesAt_58 : decode cX7_changesAt 58 = .ok (.iinc 3 1, 3) := by decide +kernel
theorem dX7_changesAt_61 : decode cX7_changesAt 61 = .ok (.goto (-25), 3) := by decide +kernel
theorem dX7_changesAt_64 : decode cX7_changesAt 64 = .ok (.iconst (-1), 1) := by decide +kernel
theorem dX7_changesAt_65 : decode cX7_changesAt 65 = .ok (.ireturn, 1) := by decide +kernel
theorem dX7_meet_0 : decode cX7_meet 0 = .ok (.aload_n 0, 1) := by decide +kernel
theorem dX7_meet_1 : decode cX7_meet 1 = .ok (.getfield 10, 3) := by decide +kernel
theorem dX7_meet_4 : decode cX7_meet 4 = .ok (.iload_n 1, 1) := by decide +kernel
theorem dX7_meet_5 : decode cX7_meet 5 = .ok (.invokevirtual 83, 3) := by decide +kernel
theorem dX7_meet_8 : decode cX7_meet 8 = .ok (.ifCond .eq 14, 3) := by decide +kernel
theorem dX7_meet_11 : decode cX7_meet 11 = .ok (.aload_n 0, 1) := by decide +kernel
theorem dX7_meet_12 : decode cX7_meet 12 = .ok (.getfield 10, 3) := by decide +kernel
theorem dX7_meet_15 : decode cX7_meet 15 = .ok (.iload_n 2, 1) := by decide +kernel
theorem dX7_meet_16 : decode cX7_meet 16 = .ok (.invokevirtual 83, 3) := by decide +kernel
theorem dX7_meet_19 : decode cX7_meet 19 = .ok (.ifCond .ne 13, 3) := by decide +kernel
theorem dX7_meet_22 : decode cX7_meet 22 = .ok (.new 86, 3) := by decide +kernel
theorem dX7_meet_25 : decode cX7_meet 25 = .ok (.dup, 1) := by decide +kernel
theorem dX7_meet_26 : decode cX7_meet 26 = .ok (.ldc 88, 2) := by decide +kernel
theorem dX7_meet_28 : decode cX7_meet 28 = .ok (.invokespecial 90, 3) := by decide +kernel
theorem dX7_meet_31 : decode cX7_meet 31 = .ok (.athrow, 1) := by decide +kernel
theorem dX7_meet_32 : decode cX7_meet 32 = .ok (.iload_n 1, 1) := by decide +kernel
theorem dX7_meet_33 : decode cX7_meet 33 = .ok (.iload_n 2, 1) := by decide +kernel
theorem dX7_meet_34 : decode cX7_meet 34 = .ok (.if_icmp .ne 14, 3) := by decide +kernel
theorem dX7_meet_37 : decode cX7_meet 37 = .ok (.new 60, 3) := by decide +kernel
theorem dX7_meet_40 : decode cX7_meet 40 = .ok (.dup, 1) := by decide +kernel
theorem dX7_meet_41 : decode cX7_meet 41 = .ok (.ldc_w 258, 3) := by decide +kernel
theorem dX7_meet_44 : decode cX7_meet 44 = .ok (.invokespecial 64, 3) := by decide +kernel
theorem dX7_meet_47 : decode cX7_meet 47 = .ok (.athrow, 1) := by decide +kernel
theorem dX7_meet_48 : decode cX7_meet 48 = .ok (.iconst 0, 1) := by decide +kernel
theorem dX7_meet_49 : decode cX7_meet 49 = .ok (.istore_n 3, 1) := by decide +kernel
theorem dX7_meet_50 : decode cX7_meet 50 = .ok (.iload_n 3, 1) := by decide +kernel
theorem dX7_meet_51 : decode cX7_meet 51 = .ok (.bipush 64, 2) := by decide +kernel
theorem dX7_meet_53 : decode cX7_meet 53 = .ok (.if_icmp .ge 48, 3) := by decide +kernel
theorem dX7_meet_56 : decode cX7_meet 56 = .ok (.aload_n 0, 1) := by decide +kernel
theorem dX7_meet_57 : decode cX7_meet 57 = .ok (.getfield 10, 3) := by decide +kernel
theorem dX7_meet_60 : decode cX7_meet 60 = .ok (.iload_n 1, 1) := by decide +kernel
theorem dX7_meet_61 : decode cX7_meet 61 = .ok (.iload_n 3, 1) := by decide +kernel
theorem dX7_meet_62 : decode cX7_meet 62 = .ok (.invokevirtual 260, 3) := by decide +kernel
theorem dX7_meet_65 : decode cX7_meet 65 = .ok (.ifCond .eq 30, 3) := by decide +kernel
theorem dX7_meet_68 : decode cX7_meet 68 = .ok (.aload_n 0, 1) := by decide +kernel
theorem dX7_meet_69 : decode cX7_meet 69 = .ok (.getfield 10, 3) := by decide +kernel
theorem dX7_meet_72 : decode cX7_meet 72 = .ok (.iload_n 2, 1) := by decide +kernel
theorem dX7_meet_73 : decode cX7_meet 73 = .ok (.iload_n 3, 1) := by decide +kernel
theorem dX7_meet_74 : decode cX7_meet 74 = .ok (.invokevirtual 260, 3) := by decide +kernel
theorem dX7_meet_77 : decode cX7_meet 77 = .ok (.ifCond .eq 18, 3) := by decide +kernel
theorem dX7_meet_80 : decode cX7_meet 80 = .ok (.aload_n 0, 1) := by decide +kernel
theorem dX7_meet_81 : decode cX7_meet 81 = .ok (.getfield 10, 3) := by decide +kernel
theorem dX7_meet_84 : decode cX7_meet 84 = .ok (.iload_n 2, 1) := by decide +kernel
theorem dX7_meet_85 : decode cX7_meet 85 = .ok (.iload_n 1, 1) := by decide +kernel
theorem dX7_meet_86 : decode cX7_meet 86 = .ok (.iload_n 3, 1) := by decide +kernel
theorem dX7_meet_87 : decode cX7_meet 87 = .ok (.invokevirtual 264, 3) := by decide +kernel
theorem dX7_meet_90 : decode cX7_meet 90 = .ok (.ifCond .eq 5, 3) := by decide +kernel
theorem dX7_meet_93 : decode cX7_meet 93 = .ok (.iload_n 3, 1) := by decide +kernel
theorem dX7_meet_94 : decode cX7_meet 94 = .ok (.ireturn, 1) := by decide +kernel
theorem dX7_meet_95 : decode cX7_meet 95 = .ok (.iinc 3 1, 3) := by decide +kernel
theorem dX7_meet_98 : decode cX7_meet 98 = .ok (.goto (-48), 3) := by decide +kernel
theorem dX7_meet_101 : decode cX7_meet 101 = .ok (.iconst (-1), 1) := by decide +kernel
theorem dX7_meet_102 : decode cX7_meet 102 = .ok (.ireturn, 1) := by decide +kernel
theorem dX7_mean_0 : decode cX7_mean 0 = .ok (.bipush 64, 2) := by decide +kernel
theorem dX7_mean_2 : decode cX7_mean 2 = .ok (.aload_n 0, 1) := by decide +kernel
theorem dX7_mean_3 : decode cX7_mean 3 = .ok (.getfield 35, 3) := by decide +kernel
theorem dX7_mean_6 : decode cX7_mean 6 = .ok (.iconst (-1), 1) := by decide +kernel
theorem dX7_mean_7 : decode cX7_mean 7 = .ok (.invokevirtual 185, 3) := by decide +kernel
theorem dX7_mean_10 : decode cX7_mean 10 = .ok (.isub, 1) := by decide +kernel
theorem dX7_mean_11 : decode cX7_mean 11 = .ok (.istore_n 1, 1) := by decide +kernel
theorem dX7_mean_12 : decode cX7_mean 12 = .ok (.iload_n 1, 1) := by decide +kernel
theorem dX7_mean_13 : decode cX7_mean 13 = .ok (.ifCond .ne 5, 3) := by decide +kernel
theorem dX7_mean_16 : decode cX7_mean 16 = .ok (.dconst 0, 1) := by decide +kernel
theorem dX7_mean_17 : decode cX7_mean 17 = .ok (.dreturn, 1) := by decide +kernel
theorem dX7_mean_18 : decode cX7_mean 18 = .ok (.aload_n 0, 1) := by decide +kernel
theorem dX7_mean_19 : decode cX7_mean 19 = .ok (.iconst 0, 1) := by decide +kernel
theorem dX7_mean_20 : decode cX7_mean 20 = .ok (.bipush 63, 2) := by decide +kernel
theorem dX7_mean_22 : decode cX7_mean 22 = .ok (.invokevirtual 267, 3) := by decide +kernel
theorem dX7_mean_25 : decode cX7_mean 25 = .ok (.i2d, 1) := by decide +kernel
theorem dX7_mean_26 : decode cX7_mean 26 = .ok (.iload_n 1, 1) := by decide +kernel
theorem dX7_mean_27 : decode cX7_mean 27 = .ok (.i2d, 1) := by decide +kernel
theorem dX7_mean_28 : decode cX7_mean 28 = .ok (.ddiv, 1) := by decide +kernel
theorem dX7_mean_29 : decode cX7_mean 29 = .ok (.dreturn, 1) := by decide +kernel
theorem dX7_digest_0 : decode cX7_digest 0 = .ok (.ldc2_w 270, 3) := by decide +kernel
theorem dX7_digest_3 : decode cX7_digest 3 = .ok (.lstore_n 1, 1) := by decide +kernel
theorem dX7_digest_4 : decode cX7_digest 4 = .ok (.iconst 0, 1) := by decide +kernel
theorem dX7_digest_5 : decode cX7_digest 5 = .ok (.istore_n 3, 1) := by decide +kernel
theorem dX7_digest_6 : decode cX7_digest 6 = .ok (.iload_n 3, 1) := by decide +kernel
theorem dX7_digest_7 : decode cX7_digest 7 = .ok (.bipush 8, 2) := by decide +kernel
theorem dX7_digest_9 : decode cX7_digest 9 = .ok (.if_icmp .gt 20, 3) := by decide +kernel
theorem dX7_digest_12 : decode cX7_digest 12 = .ok (.lload_n 1, 1) := by decide +kernel
theorem dX7_digest_13 : decode cX7_digest 13 = .ok (.aload_n 0, 1) := by decide +kernel
theorem dX7_digest_14 : decode cX7_digest 14 = .ok (.iload_n 3, 1) := by decide +kernel
theorem dX7_digest_15 : decode cX7_digest 15 = .ok (.invokevirtual 272, 3) := by decide +kernel
theorem dX7_digest_18 : decode cX7_digest 18 = .ok (.i2l, 1) := by decide +kernel
theorem dX7_digest_19 : decode cX7_digest 19 = .ok (.invokestatic 275, 3) := by decide +kernel
theorem dX7_digest_22 : decode cX7_digest 22 = .ok (.lstore_n 1, 1) := by decide +kernel
theorem dX7_digest_23 : decode cX7_digest 23 = .ok (.iinc 3 1, 3) := by decide +kernel
theorem dX7_digest_26 : decode cX7_digest 26 = .ok (.goto (-20), 3) := by decide +kernel
theorem dX7_digest_29 : decode cX7_digest 29 = .ok (.aload_n 0, 1) := by decide +kernel
theorem dX7_digest_30 : decode cX7_digest 30 = .ok (.lload_n 1, 1) := by decide +kernel
theorem dX7_digest_31 : decode cX7_digest 31 = .ok (.invokevirtual 279, 3) := by decide +kernel
theorem dX7_digest_34 : decode cX7_digest 34 = .ok (.lstore_n 1, 1) := by decide +kernel
theorem dX7_digest_35 : decode cX7_digest 35 = .ok (.aload_n 0, 1) := by decide +kernel
theorem dX7_digest_36 : decode cX7_digest 36 = .ok (.lload_n 1, 1) := by decide +kernel
theorem dX7_digest_37 : decode cX7_digest 37 = .ok (.invokevirtual 283, 3) := by decide +kernel
theorem dX7_digest_40 : decode cX7_digest 40 = .ok (.lstore_n 1, 1) := by decide +kernel
theorem dX7_digest_41 : decode cX7_digest 41 = .ok (.aload_n 0, 1) := by decide +kernel
theorem dX7_digest_42 : decode cX7_digest 42 = .ok (.lload_n 1, 1) := by decide +kernel
theorem dX7_digest_43 : decode cX7_digest 43 = .ok (.invokevirtual 286, 3) := by decide +kernel
theorem dX7_digest_46 : decode cX7_digest 46 = .ok (.lstore_n 1, 1) := by decide +kernel
theorem dX7_digest_47 : decode cX7_digest 47 = .ok (.lload_n 1, 1) := by decide +kernel
theorem dX7_digest_48 : decode cX7_digest 48 = .ok (.aload_n 0, 1) := by decide +kernel
theorem dX7_digest_49 : decode cX7_digest 49 = .ok (.iconst 0, 1) := by decide +kernel
theorem dX7_digest_50 : decode cX7_digest 50 = .ok (.iconst 0, 1) := by decide +kernel
theorem dX7_digest_51 : decode cX7_digest 51 = .ok (.invokevirtual 289, 3) := by decide +kernel
theorem dX7_digest_54 : decode cX7_digest 54 = .ok (.i2l, 1) := by decide +kernel
theorem dX7_digest_55 : decode cX7_digest 55 = .ok (.invokestatic 275, 3) := by decide +kernel
theorem dX7_digest_58 : decode cX7_digest 58 = .ok (.lstore_n 1, 1) := by decide +kernel
theorem dX7_digest_59 : decode cX7_digest 59 = .ok (.lload_n 1, 1) := by decide +kernel
theorem dX7_digest_60 : decode cX7_digest 60 = .ok (.aload_n 0, 1) := by decide +kernel
theorem dX7_digest_61 : decode cX7_digest 61 = .ok (.iconst 1, 1) := by decide +kernel
theorem dX7_digest_62 : decode cX7_digest 62 = .ok (.invokevirtual 292, 3) := by decide +kernel
theorem dX7_digest_65 : decode cX7_digest 65 = .ok (.i2l, 1) := by decide +kernel
theorem dX7_digest_66 : decode cX7_digest 66 = .ok (.invokestatic 275, 3) := by decide +kernel
theorem dX7_digest_69 : decode cX7_digest 69 = .ok (.lstore_n 1, 1) := by decide +kernel
theorem dX7_digest_70 : decode cX7_digest 70 = .ok (.lload_n 1, 1) := by decide +kernel
theorem dX7_digest_71 : decode cX7_digest 71 = .ok (.aload_n 0, 1) := by decide +kernel
theorem dX7_digest_72 : decode cX7_digest 72 = .ok (.invokevirtual 295, 3) := by decide +kernel
theorem dX7_digest_75 : decode cX7_digest 75 = .ok (.invokestatic 299, 3) := by decide +kernel
theorem dX7_digest_78 : decode cX7_digest 78 = .ok (.invokestatic 275, 3) := by decide +kernel
theorem dX7_digest_81 : decode cX7_digest 81 = .ok (.lstore_n 1, 1) := by decide +kernel
theorem dX7_digest_82 : decode cX7_digest 82 = .ok (.lload_n 1, 1) := by decide +kernel
theorem dX7_digest_83 : decode cX7_digest 83 = .ok (.aload_n 0, 1) := by decide +kernel
theorem dX7_digest_84 : decode cX7_digest 84 = .ok (.getfield 26, 3) := by decide +kernel
theorem dX7_digest_87 : decode cX7_digest 87 = .ok (.invokevirtual 149, 3) := by decide +kernel
theorem dX7_digest_90 : decode cX7_digest 90 = .ok (.i2l, 1) := by decide +kernel
theorem dX7_digest_91 : decode cX7_digest 91 = .ok (.invokestatic 275, 3) := by decide +kernel
theorem dX7_digest_94 : decode cX7_digest 94 = .ok (.lstore_n 1, 1) := by decide +kernel
theorem dX7_digest_95 : decode cX7_digest 95 = .ok (.iconst 0, 1) := by decide +kernel
theorem dX7_digest_96 : decode cX7_digest 96 = .ok (.istore_n 3, 1) := by decide +kernel
theorem dX7_digest_97 : decode cX7_digest 97 = .ok (.iload_n 3, 1) := by decide +kernel
theorem dX7_digest_98 : decode cX7_digest 98 = .ok (.aload_n 0, 1) := by decide +kernel
theorem dX7_digest_99 : decode cX7_digest 99 = .ok (.getfield 26, 3) := by decide +kernel
theorem dX7_digest_102 : decode cX7_digest 102 = .ok (.invokevirtual 149, 3) := by decide +kernel
theorem dX7_digest_105 : decode cX7_digest 105 = .ok (.if_icmp .ge 23, 3) := by decide +kernel
theorem dX7_digest_108 : decode cX7_digest 108 = .ok (.lload_n 1, 1) := by decide +kernel
theorem dX7_digest_109 : decode cX7_digest 109 = .ok (.aload_n 0, 1) := by decide +kernel
theorem dX7_digest_110 : decode cX7_digest 110 = .ok (.getfield 26, 3) := by decide +kernel
theorem dX7_digest_113 : decode cX7_digest 113 = .ok (.iload_n 3, 1) := by decide +kernel
theorem dX7_digest_114 : decode cX7_digest 114 = .ok (.invokevirtual 303, 3) := by decide +kernel
theorem dX7_digest_117 : decode cX7_digest 117 = .ok (.i2l, 1) := by decide +kernel
theorem dX7_digest_118 : decode cX7_digest 118 = .ok (.invokestatic 275, 3) := by decide +kernel
theorem dX7_digest_121 : decode cX7_digest 121 = .ok (.lstore_n 1, 1) := by decide +kernel
theorem dX7_digest_122 : decode cX7_digest 122 = .ok (.iinc 3 1, 3) := by decide +kernel
theorem dX7_digest_125 : decode cX7_digest 125 = .ok (.goto (-28), 3) := by decide +kernel
theorem dX7_digest_128 : decode cX7_digest 128 = .ok (.lload_n 1, 1) := by decide +kernel
theorem dX7_digest_129 : decode cX7_digest 129 = .ok (.lreturn, 1) := by decide +kernel
theorem dX7_mixedLines_0 : decode cX7_mixedLines 0 = .ok (.lload_n 1, 1) := by decide +kernel
theorem dX7_mixedLines_1 : decode cX7_mixedLines 1 = .ok (.lstore_n 3, 1) := by decide +kernel
theorem dX7_mixedLines_2 : decode cX7_mixedLines 2 = .ok (.iconst 0, 1) := by decide +kernel
theorem dX7_mixedLines_3 : decode cX7_mixedLines 3 = .ok (.istore 5, 2) := by decide +kernel
theorem dX7_mixedLines_5 : decode cX7_mixedLines 5 = .ok (.iload 5, 2) := by decide +kernel
theorem dX7_mixedLines_7 : decode cX7_mixedLines 7 = .ok (.aload_n 0, 1) := by decide +kernel
theorem dX7_mixedLines_8 : decode cX7_mixedLines 8 = .ok (.getfield 10, 3) := by decide +kernel
theorem dX7_mixedLines_11 : decode cX7_mixedLines 11 = .ok (.invokevirtual 67, 3) := by decide +kernel
theorem dX7_mixedLines_14 : decode cX7_mixedLines 14 = .ok (.if_icmp .ge 69, 3) := by decide +kernel
theorem dX7_mixedLines_17 : decode cX7_mixedLines 17 = .ok (.iconst 0, 1) := by decide +kernel
theorem dX7_mixedLines_18 : decode cX7_mixedLines 18 = .ok (.istore 6, 2) := by decide +kernel
theorem dX7_mixedLines_20 : decode cX7_mixedLines 20 = .ok (.iload 6, 2) := by decide +kernel
theorem dX7_mixedLines_22 : decode cX7_mixedLines 22 = .ok (.bipush 8, 2) := by decide +kernel
theorem dX7_mixedLines_24 : decode cX7_mixedLines 24 = .ok (.if_icmp .gt 23, 3) := by decide +kernel
theorem dX7_mixedLines_27 : decode cX7_mixedLines 27 = .ok (.lload_n 3, 1) := by decide +kernel
theorem dX7_mixedLines_28 : decode cX7_mixedLines 28 = .ok (.aload_n 0, 1) := by decide +kernel
theorem dX7_mixedLines_29 : decode cX7_mixedLines 29 = .ok (.iload 5, 2) := by decide +kernel
theorem dX7_mixedLines_31 : decode cX7_mixedLines 31 = .ok (.iload 6, 2) := by decide +kernel
theorem dX7_mixedLines_33 : decode cX7_mixedLines 33 = .ok (.invokevirtual 306, 3) := by decide +kernel
theorem dX7_mixedLines_36 : decode cX7_mixedLines 36 = .ok (.i2l, 1) := by decide +kernel
theorem dX7_mixedLines_37 : decode cX7_mixedLines 37 = .ok (.invokestatic 275, 3) := by decide +kernel
theorem dX7_mixedLines_40 : decode cX7_mixedLines 40 = .ok (.lstore_n 3, 1) := by decide +kernel
theorem dX7_mixedLines_41 : decode cX7_mixedLines 41 = .ok (.iinc 6 1, 3) := by decide +kernel
theorem dX7_mixedLines_44 : decode cX7_mixedLines 44 = .ok (.goto (-24), 3) := by decide +kernel
theorem dX7_mixedLines_47 : decode cX7_mixedLines 47 = .ok (.lload_n 3, 1) := by decide +kernel
theorem dX7_mixedLines_48 : decode cX7_mixedLines 48 = .ok (.aload_n 0, 1) := by decide +kernel
theorem dX7_mixedLines_49 : decode cX7_mixedLines 49 = .ok (.iload 5, 2) := by decide +kernel
theorem dX7_mixedLines_51 : decode cX7_mixedLines 51 = .ok (.invokevirtual 309, 3) := by decide +kernel
theorem dX7_mixedLines_54 : decode cX7_mixedLines 54 = .ok (.i2l, 1) := by decide +kernel
theorem dX7_mixedLines_55 : decode cX7_mixedLines 55 = .ok (.invokestatic 275, 3) := by decide +kernel
theorem dX7_mixedLines_58 : decode cX7_mixedLines 58 = .ok (.lstore_n 3, 1) := by decide +kernel
theorem dX7_mixedLines_59 : decode cX7_mixedLines 59 = .ok (.iload 5, 2) := by decide +kernel
theorem dX7_mixedLines_61 : decode cX7_mixedLines 61 = .ok (.ifCond .eq 16, 3) := by decide +kernel
theorem dX7_mixedLines_64 : decode cX7_mixedLines 64 = .ok (.lload_n 3, 1) := by decide +kernel
theorem dX7_mixedLines_65 : decode cX7_mixedLines 65 = .ok (.aload_n 0, 1) := by decide +kernel
theorem dX7_mixedLines_66 : decode cX7_mixedLines 66 = .ok (.iload 5, 2) := by decide +kernel
theorem dX7_mixedLines_68 : decode cX7_mixedLines 68 = .ok (.iconst 0, 1) := by decide +kernel
theorem dX7_mixedLines_69 : decode cX7_mixedLines 69 = .ok (.invokevirtual 312, 3) := by decide +kernel
theorem dX7_mixedLines_72 : decode cX7_mixedLines 72 = .ok (.i2l, 1) := by decide +kernel
theorem dX7_mixedLines_73 : decode cX7_mixedLines 73 = .ok (.invokestatic 275, 3) := by decide +kernel
theorem dX7_mixedLines_76 : decode cX7_mixedLines 76 = .ok (.lstore_n 3, 1) := by decide +kernel
theorem dX7_mixedLines_77 : decode cX7_mixedLines 77 = .ok (.iinc 5 1, 3) := by decide +kernel
theorem dX7_mixedLines_80 : decode cX7_mixedLines 80 = .ok (.goto (-75), 3) := by decide +kernel
theorem dX7_mixedLines_83 : decode cX7_mixedLines 83 = .ok (.lload_n 3, 1) := by decide +kernel
theorem dX7_mixedLines_84 : decode cX7_mixedLines 84 = .ok (.lreturn, 1) := by decide +kernel
theorem dX7_mixedTree_0 : decode cX7_mixedTree 0 = .ok (.lload_n 1, 1) := by decide +kernel
theorem dX7_mixedTree_1 : decode cX7_mixedTree 1 = .ok (.lstore_n 3, 1) := by decide +kernel
theorem dX7_mixedTree_2 : decode cX7_mixedTree 2 = .ok (.iconst 1, 1) := by decide +kernel
theorem dX7_mixedTree_3 : decode cX7_mixedTree 3 = .ok (.istore 5, 2) := by decide +kernel
theorem dX7_mixedTree_5 : decode cX7_mixedTree 5 = .ok (.iload 5, 2) := by decide +kernel
theorem dX7_mixedTree_7 : decode cX7_mixedTree 7 = .ok (.bipush 127, 2) := by decide +kernel
theorem dX7_mixedTree_9 : decode cX7_mixedTree 9 = .ok (.if_icmp .gt 59, 3) := by decide +kernel
theorem dX7_mixedTree_12 : decode cX7_mixedTree 12 = .ok (.aload_n 0, 1) := by decide +kernel
theorem dX7_mixedTree_13 : decode cX7_mixedTree 13 = .ok (.getfield 42, 3) := by decide +kernel
theorem dX7_mixedTree_16 : decode cX7_mixedTree 16 = .ok (.iload 5, 2) := by decide +kernel
theorem dX7_mixedTree_18 : decode cX7_mixedTree 18 = .ok (.invokevirtual 217, 3) := by decide +kernel
theorem dX7_mixedTree_21 : decode cX7_mixedTree 21 = .ok (.iconst (-1), 1) := by decide +kernel
theorem dX7_mixedTree_22 : decode cX7_mixedTree 22 = .ok (.if_icmp .eq 40, 3) := by decide +kernel
theorem dX7_mixedTree_25 : decode cX7_mixedTree 25 = .ok (.lload_n 3, 1) := by decide +kernel
theorem dX7_mixedTree_26 : decode cX7_mixedTree 26 = .ok (.iload 5, 2) := by decide +kernel
theorem dX7_mixedTree_28 : decode cX7_mixedTree 28 = .ok (.i2l, 1) := by decide +kernel
theorem dX7_mixedTree_29 : decode cX7_mixedTree 29 = .ok (.invokestatic 275, 3) := by decide +kernel
theorem dX7_mixedTree_32 : decode cX7_mixedTree 32 = .ok (.lstore_n 3, 1) := by decide +kernel
theorem dX7_mixedTree_33 : decode cX7_mixedTree 33 = .ok (.iconst 0, 1) := by decide +kernel
theorem dX7_mixedTree_34 : decode cX7_mixedTree 34 = .ok (.istore 6, 2) := by decide +kernel
theorem dX7_mixedTree_36 : decode cX7_mixedTree 36 = .ok (.iload 6, 2) := by decide +kernel
theorem dX7_mixedTree_38 : decode cX7_mixedTree 38 = .ok (.iconst 4, 1) := by decide +kernel
theorem dX7_mixedTree_39 : decode cX7_mixedTree 39 = .ok (.if_icmp .gt 23, 3) := by decide +kernel
theorem dX7_mixedTree_42 : decode cX7_mixedTree 42 = .ok (.lload_n 3, 1) := by decide +kernel
theorem dX7_mixedTree_43 : decode cX7_mixedTree 43 = .ok (.aload_n 0, 1) := by decide +kernel
theorem dX7_mixedTree_44 : decode cX7_mixedTree 44 = .ok (.iload 5, 2) := by decide +kernel
theorem dX7_mixedTree_46 : decode cX7_mixedTree 46 = .ok (.iload 6, 2) := by decide +kernel
theorem dX7_mixedTree_48 : decode cX7_mixedTree 48 = .ok (.invokevirtual 315, 3) := by decide +kernel
theorem dX7_mixedTree_51 : decode cX7_mixedTree 51 = .ok (.i2l, 1) := by decide +kernel
theorem dX7_mixedTree_52 : decode cX7_mixedTree 52 = .ok (.invokestatic 275, 3) := by decide +kernel
theorem dX7_mixedTree_55 : decode cX7_mixedTree 55 = .ok (.lstore_n 3, 1) := by decide +kernel
theorem dX7_mixedTree_56 : decode cX7_mixedTree 56 = .ok (.iinc 6 1, 3) := by decide +kernel
theorem dX7_mixedTree_59 : decode cX7_mixedTree 59 = .ok (.goto (-23), 3) := by decide +kernel
theorem dX7_mixedTree_62 : decode cX7_mixedTree 62 = .ok (.iinc 5 1, 3) := by decide +kernel
theorem dX7_mixedTree_65 : decode cX7_mixedTree 65 = .ok (.goto (-60), 3) := by decide +kernel
theorem dX7_mixedTree_68 : decode cX7_mixedTree 68 = .ok (.lload_n 3, 1) := by decide +kernel
theorem dX7_mixedTree_69 : decode cX7_mixedTree 69 = .ok (.lreturn, 1) := by decide +kernel
theorem dX7_mixedPlaces_0 : decode cX7_mixedPlaces 0 = .ok (.lload_n 1, 1) := by decide +kernel
theorem dX7_mixedPlaces_1 : decode cX7_mixedPlaces 1 = .ok (.lstore_n 3, 1) := by decide +kernel
theorem dX7_mixedPlaces_2 : decode cX7_mixedPlaces 2 = .ok (.iconst 0, 1) := by decide +kernel
theorem dX7_mixedPlaces_3 : decode cX7_mixedPlaces 3 = .ok (.istore 5, 2) := by decide +kernel
theorem dX7_mixedPlaces_5 : decode cX7_mixedPlaces 5 = .ok (.iload 5, 2) := by decide +kernel
theorem dX7_mixedPlaces_7 : decode cX7_mixedPlaces 7 = .ok (.aload_n 0, 1) := by decide +kernel
theorem dX7_mixedPlaces_8 : decode cX7_mixedPlaces 8 = .ok (.getfield 35, 3) := by decide +kernel
theorem dX7_mixedPlaces_11 : decode cX7_mixedPlaces 11 = .ok (.invokevirtual 234, 3) := by decide +kernel
theorem dX7_mixedPlaces_14 : decode cX7_mixedPlaces 14 = .ok (.if_icmp .ge 38, 3) := by decide +kernel
theorem dX7_mixedPlaces_17 : decode cX7_mixedPlaces 17 = .ok (.iconst 0, 1) := by decide +kernel
theorem dX7_mixedPlaces_18 : decode cX7_mixedPlaces 18 = .ok (.istore 6, 2) := by decide +kernel
theorem dX7_mixedPlaces_20 : decode cX7_mixedPlaces 20 = .ok (.iload 6, 2) := by decide +kernel
theorem dX7_mixedPlaces_22 : decode cX7_mixedPlaces 22 = .ok (.iconst 2, 1) := by decide +kernel
theorem dX7_mixedPlaces_23 : decode cX7_mixedPlaces 23 = .ok (.if_icmp .gt 23, 3) := by decide +kernel
theorem dX7_mixedPlaces_26 : decode cX7_mixedPlaces 26 = .ok (.lload_n 3, 1) := by decide +kernel
theorem dX7_mixedPlaces_27 : decode cX7_mixedPlaces 27 = .ok (.aload_n 0, 1) := by decide +kernel
theorem dX7_mixedPlaces_28 : decode cX7_mixedPlaces 28 = .ok (.iload 5, 2) := by decide +kernel
theorem dX7_mixedPlaces_30 : decode cX7_mixedPlaces 30 = .ok (.iload 6, 2) := by decide +kernel
theorem dX7_mixedPlaces_32 : decode cX7_mixedPlaces 32 = .ok (.invokevirtual 318, 3) := by decide +kernel
theorem dX7_mixedPlaces_35 : decode cX7_mixedPlaces 35 = .ok (.i2l, 1) := by decide +kernel
theorem dX7_mixedPlaces_36 : decode cX7_mixedPlaces 36 = .ok (.invokestatic 275, 3) := by decide +kernel
theorem dX7_mixedPlaces_39 : decode cX7_mixedPlaces 39 = .ok (.lstore_n 3, 1) := by decide +kernel
theorem dX7_mixedPlaces_40 : decode cX7_mixedPlaces 40 = .ok (.iinc 6 1, 3) := by decide +kernel
theorem dX7_mixedPlaces_43 : decode cX7_mixedPlaces 43 = .ok (.goto (-23), 3) := by decide +kernel
theorem dX7_mixedPlaces_46 : decode cX7_mixedPlaces 46 = .ok (.iinc 5 1, 3) := by decide +kernel
theorem dX7_mixedPlaces_49 : decode cX7_mixedPlaces 49 = .ok (.goto (-44), 3) := by decide +kernel
theorem dX7_mixedPlaces_52 : decode cX7_mixedPlaces 52 = .ok (.lload_n 3, 1) := by decide +kernel
theorem dX7_mixedPlaces_53 : decode cX7_mixedPlaces 53 = .ok (.aload_n 0, 1) := by decide +kernel
theorem dX7_mixedPlaces_54 : decode cX7_mixedPlaces 54 = .ok (.iconst 0, 1) := by decide +kernel
theorem dX7_mixedPlaces_55 : decode cX7_mixedPlaces 55 = .ok (.bipush 63, 2) := by decide +kernel
theorem dX7_mixedPlaces_57 : decode cX7_mixedPlaces 57 = .ok (.invokevirtual 267, 3) := by decide +kernel
theorem dX7_mixedPlaces_60 : decode cX7_mixedPlaces 60 = .ok (.i2l, 1) := by decide +kernel
theorem dX7_mixedPlaces_61 : decode cX7_mixedPlaces 61 = .ok (.invokestatic 275, 3) := by decide +kernel
theorem dX7_mixedPlaces_64 : decode cX7_mixedPlaces 64 = .ok (.lstore_n 3, 1) := by decide +kernel
theorem dX7_mixedPlaces_65 : decode cX7_mixedPlaces 65 = .ok (.iconst 0, 1) := by decide +kernel
theorem dX7_mixedPlaces_66 : decode cX7_mixedPlaces 66 = .ok (.istore 5, 2) := by decide +kernel
theorem dX7_mixedPlaces_68 : decode cX7_mixedPlaces 68 = .ok (.iload 5, 2) := by decide +kernel
theorem dX7_mixedPlaces_70 : decode cX7_mixedPlaces 70 = .ok (.bipush 64, 2) := by decide +kernel
theorem dX7_mixedPlaces_72 : decode cX7_mixedPlaces 72 = .ok (.if_icmp .ge 48, 3) := by decide +kernel
theorem dX7_mixedPlaces_75 : decode cX7_mixedPlaces 75 = .ok (.lload_n 3, 1) := by decide +kernel
theorem dX7_mixedPlaces_76 : decode cX7_mixedPlaces 76 = .ok (.aload_n 0, 1) := by decide +kernel
theorem dX7_mixedPlaces_77 : decode cX7_mixedPlaces 77 = .ok (.iload 5, 2) := by decide +kernel
theorem dX7_mixedPlaces_79 : decode cX7_mixedPlaces 79 = .ok (.bipush 50, 2) := by decide +kernel
theorem dX7_mixedPlaces_81 : decode cX7_mixedPlaces 81 = .ok (.invokevirtual 321, 3) := by decide +kernel
theorem dX7_mixedPlaces_84 : decode cX7_mixedPlaces 84 = .ok (.i2l, 1) := by decide +kernel
theorem dX7_mixedPlaces_85 : decode cX7_mixedPlaces 85 = .ok (.invokestatic 275, 3) := by decide +kernel
theorem dX7_mixedPlaces_88 : decode cX7_mixedPlaces 88 = .ok (.lstore_n 3, 1) := by decide +kernel
theorem dX7_mixedPlaces_89 : decode cX7_mixedPlaces 89 = .ok (.lload_n 3, 1) := by decide +kernel
theorem dX7_mixedPlaces_90 : decode cX7_mixedPlaces 90 = .ok (.aload_n 0, 1) := by decide +kernel
theorem dX7_mixedPlaces_91 : decode cX7_mixedPlaces 91 = .ok (.iload 5, 2) := by decide +kernel
theorem dX7_mixedPlaces_93 : decode cX7_mixedPlaces 93 = .ok (.iconst 1, 1) := by decide +kernel
theorem dX7_mixedPlaces_94 : decode cX7_mixedPlaces 94 = .ok (.invokevirtual 324, 3) := by decide +kernel
theorem dX7_mixedPlaces_97 : decode cX7_mixedPlaces 97 = .ok (.i2l, 1) := by decide +kernel
theorem dX7_mixedPlaces_98 : decode cX7_mixedPlaces 98 = .ok (.invokestatic 275, 3) := by decide +kernel
theorem dX7_mixedPlaces_101 : decode cX7_mixedPlaces 101 = .ok (.lstore_n 3, 1) := by decide +kernel
theorem dX7_mixedPlaces_102 : decode cX7_mixedPlaces 102 = .ok (.lload_n 3, 1) := by decide +kernel
theorem dX7_mixedPlaces_103 : decode cX7_mixedPlaces 103 = .ok (.aload_n 0, 1) := by decide +kernel
theorem dX7_mixedPlaces_104 : decode cX7_mixedPlaces 104 = .ok (.iload 5, 2) := by decide +kernel
theorem dX7_mixedPlaces_106 : decode cX7_mixedPlaces 106 = .ok (.invokevirtual 327, 3) := by decide +kernel
theorem dX7_mixedPlaces_109 : decode cX7_mixedPlaces 109 = .ok (.i2l, 1) := by decide +kernel
theorem dX7_mixedPlaces_110 : decode cX7_mixedPlaces 110 = .ok (.invokestatic 275, 3) := by decide +kernel
theorem dX7_mixedPlaces_113 : decode cX7_mixedPlaces 113 = .ok (.lstore_n 3, 1) := by decide +kernel
theorem dX7_mixedPlaces_114 : decode cX7_mixedPlaces 114 = .ok (.iinc 5 21, 3) := by decide +kernel
theorem dX7_mixedPlaces_117 : decode cX7_mixedPlaces 117 = .ok (.goto (-49), 3) := by decide +kernel
theorem dX7_mixedPlaces_120 : decode cX7_mixedPlaces 120 = .ok (.lload_n 3, 1) := by decide +kernel
theorem dX7_mixedPlaces_121 : decode cX7_mixedPlaces 121 = .ok (.lreturn, 1) := by decide +kernel
theorem dX7_mixed_0 : decode cX7_mixed 0 = .ok (.ldc2_w 330, 3) := by decide +kernel
theorem dX7_mixed_3 : decode cX7_mixed 3 = .ok (.lload_n 0, 1) := by decide +kernel
theorem dX7_mixed_4 : decode cX7_mixed 4 = .ok (.lmul, 1) := by decide +kernel
theorem dX7_mixed_5 : decode cX7_mixed 5 = .ok (.lload_n 2, 1) := by decide +kernel
theorem dX7_mixed_6 : decode cX7_mixed 6 = .ok (.ladd, 1) := by decide +kernel
theorem dX7_mixed_7 : decode cX7_mixed 7 = .ok (.lreturn, 1) := by decide +kernel
theorem dX7_bitsOf_0 : decode cX7_bitsOf 0 = .ok (.dload_n 0, 1) := by decide +kernel
theorem dX7_bitsOf_1 : decode cX7_bitsOf 1 = .ok (.dconst 0, 1) := by decide +kernel
theorem dX7_bitsOf_2 : decode cX7_bitsOf 2 = .ok (.dcmp .l, 1) := by decide +kernel
theorem dX7_bitsOf_3 : decode cX7_bitsOf 3 = .ok (.ifCond .ne 5, 3) := by decide +kernel
theorem dX7_bitsOf_6 : decode cX7_bitsOf 6 = .ok (.lconst 0, 1) := by decide +kernel
theorem dX7_bitsOf_7 : decode cX7_bitsOf 7 = .ok (.lreturn, 1) := by decide +kernel
theorem dX7_bitsOf_8 : decode cX7_bitsOf 8 = .ok (.dload_n 0, 1) := by decide +kernel
theorem dX7_bitsOf_9 : decode cX7_bitsOf 9 = .ok (.dconst 0, 1) := by decide +kernel
theorem dX7_bitsOf_10 : decode cX7_bitsOf 10 = .ok (.dcmp .g, 1) := by decide +kernel
theorem dX7_bitsOf_11 : decode cX7_bitsOf 11 = .ok (.ifCond .ge 8, 3) := by decide +kernel
theorem dX7_bitsOf_14 : decode cX7_bitsOf 14 = .ok (.dload_n 0, 1) := by decide +kernel
theorem dX7_bitsOf_15 : decode cX7_bitsOf 15 = .ok (.dneg, 1) := by decide +kernel
theorem dX7_bitsOf_16 : decode cX7_bitsOf 16 = .ok (.goto 4, 3) := by decide +kernel
theorem dX7_bitsOf_19 : decode cX7_bitsOf 19 = .ok (.dload_n 0, 1) := by decide +kernel
theorem dX7_bitsOf_20 : decode cX7_bitsOf 20 = .ok (.dstore_n 2, 1) := by decide +kernel
theorem dX7_bitsOf_21 : decode cX7_bitsOf 21 = .ok (.ldc2_w 332, 3) := by decide +kernel
theorem dX7_bitsOf_24 : decode cX7_bitsOf 24 = .ok (.lstore 4, 2) := by decide +kernel
theorem dX7_bitsOf_26 : decode cX7_bitsOf 26 = .ok (.dload_n 2, 1) := by decide +kernel
theorem dX7_bitsOf_27 : decode cX7_bitsOf 27 = .ok (.ldc2_w 334, 3) := by decide +kernel
theorem dX7_bitsOf_30 : decode cX7_bitsOf 30 = .ok (.dcmp .l, 1) := by decide +kernel
theorem dX7_bitsOf_31 : decode cX7_bitsOf 31 = .ok (.ifCond .lt 27, 3) := by decide +kernel
theorem dX7_bitsOf_34 : decode cX7_bitsOf 34 = .ok (.lload 4, 2) := by decide +kernel
theorem dX7_bitsOf_36 : decode cX7_bitsOf 36 = .ok (.ldc2_w 336, 3) := by decide +kernel
theorem dX7_bitsOf_39 : decode cX7_bitsOf 39 = .ok (.lcmp, 1) := by decide +kernel
theorem dX7_bitsOf_40 : decode cX7_bitsOf 40 = .ok (.ifCond .ge 18, 3) := by decide +kernel
theorem dX7_bitsOf_43 : decode cX7_bitsOf 43 = .ok (.dload_n 2, 1) := by decide +kernel
theorem dX7_bitsOf_44 : decode cX7_bitsOf 44 = .ok (.ldc2_w 334, 3) := by decide +kernel
theorem dX7_bitsOf_47 : decode cX7_bitsOf 47 = .ok (.ddiv, 1) := by decide +kernel
theorem dX7_bitsOf_48 : decode cX7_bitsOf 48 = .ok (.dstore_n 2, 1) := by decide +kernel
theorem dX7_bitsOf_49 : decode cX7_bitsOf 49 = .ok (.lload 4, 2) := by decide +kernel
theorem dX7_bitsOf_51 : decode cX7_bitsOf 51 = .ok (.lconst 1, 1) := by decide +kernel
theorem dX7_bitsOf_52 : decode cX7_bitsOf 52 = .ok (.ladd, 1) := by decide +kernel
theorem dX7_bitsOf_53 : decode cX7_bitsOf 53 = .ok (.lstore 4, 2) := by decide +kernel
theorem dX7_bitsOf_55 : decode cX7_bitsOf 55 = .ok (.goto (-29), 3) := by decide +kernel
theorem dX7_bitsOf_58 : decode cX7_bitsOf 58 = .ok (.dload_n 2, 1) := by decide +kernel
theorem dX7_bitsOf_59 : decode cX7_bitsOf 59 = .ok (.dconst 1, 1) := by decide +kernel
theorem dX7_bitsOf_60 : decode cX7_bitsOf 60 = .ok (.dcmp .g, 1) := by decide +kernel
theorem dX7_bitsOf_61 : decode cX7_bitsOf 61 = .ok (.ifCond .ge 25, 3) := by decide +kernel
theorem dX7_bitsOf_64 : decode cX7_bitsOf 64 = .ok (.lload 4, 2) := by decide +kernel
theorem dX7_bitsOf_66 : decode cX7_bitsOf 66 = .ok (.lconst 1, 1) := by decide +kernel
theorem dX7_bitsOf_67 : decode cX7_bitsOf 67 = .ok (.lcmp, 1) := by decide +kernel
theorem dX7_bitsOf_68 : decode cX7_bitsOf 68 = .ok (.ifCond .le 18, 3) := by decide +kernel
theorem dX7_bitsOf_71 : decode cX7_bitsOf 71 = .ok (.dload_n 2, 1) := by decide +kernel
theorem dX7_bitsOf_72 : decode cX7_bitsOf 72 = .ok (.ldc2_w 334, 3) := by decide +kernel
theorem dX7_bitsOf_75 : decode cX7_bitsOf 75 = .ok (.dmul, 1) := by decide +kernel
theorem dX7_bitsOf_76 : decode cX7_bitsOf 76 = .ok (.dstore_n 2, 1) := by decide +kernel
theorem dX7_bitsOf_77 : decode cX7_bitsOf 77 = .ok (.lload 4, 2) := by decide +kernel
theorem dX7_bitsOf_79 : decode cX7_bitsOf 79 = .ok (.lconst 1, 1) := by decide +kernel
theorem dX7_bitsOf_80 : decode cX7_bitsOf 80 = .ok (.lsub, 1) := by decide +kernel
theorem dX7_bitsOf_81 : decode cX7_bitsOf 81 = .ok (.lstore 4, 2) := by decide +kernel
theorem dX7_bitsOf_83 : decode cX7_bitsOf 83 = .ok (.goto (-25), 3) := by decide +kernel
theorem dX7_bitsOf_86 : decode cX7_bitsOf 86 = .ok (.dload_n 2, 1) := by decide +kernel
theorem dX7_bitsOf_87 : decode cX7_bitsOf 87 = .ok (.dconst 1, 1) := by decide +kernel
theorem dX7_bitsOf_88 : decode cX7_bitsOf 88 = .ok (.dsub, 1) := by decide +kernel
theorem dX7_bitsOf_89 : decode cX7_bitsOf 89 = .ok (.ldc2_w 338, 3) := by decide +kernel
theorem dX7_bitsOf_92 : decode cX7_bitsOf 92 = .ok (.dmul, 1) := by decide +kernel
theorem dX7_bitsOf_93 : decode cX7_bitsOf 93 = .ok (.d2l, 1) := by decide +kernel
theorem dX7_bitsOf_94 : decode cX7_bitsOf 94 = .ok (.lstore 6, 2) := by decide +kernel
theorem dX7_bitsOf_96 : decode cX7_bitsOf 96 = .ok (.dload_n 0, 1) := by decide +kernel
theorem dX7_bitsOf_97 : decode cX7_bitsOf 97 = .ok (.dconst 0, 1) := by decide +kernel
theorem dX7_bitsOf_98 : decode cX7_bitsOf 98 = .ok (.dcmp .g, 1) := by decide +kernel
theorem dX7_bitsOf_99 : decode cX7_bitsOf 99 = .ok (.ifCond .ge 9, 3) := by decide +kernel
theorem dX7_bitsOf_102 : decode cX7_bitsOf 102 = .ok (.ldc2_w 340, 3) := by decide +kernel
theorem dX7_bitsOf_105 : decode cX7_bitsOf 105 = .ok (.goto 4, 3) := by decide +kernel
theorem dX7_bitsOf_108 : decode cX7_bitsOf 108 = .ok (.lconst 0, 1) := by decide +kernel
theorem dX7_bitsOf_109 : decode cX7_bitsOf 109 = .ok (.lstore 8, 2) := by decide +kernel
theorem dX7_bitsOf_111 : decode cX7_bitsOf 111 = .ok (.lload 8, 2) := by decide +kernel
theorem dX7_bitsOf_113 : decode cX7_bitsOf 113 = .ok (.lload 4, 2) := by decide +kernel
theorem dX7_bitsOf_115 : decode cX7_bitsOf 115 = .ok (.bipush 52, 2) := by decide +kernel
theorem dX7_bitsOf_117 : decode cX7_bitsOf 117 = .ok (.lshl, 1) := by decide +kernel
theorem dX7_bitsOf_118 : decode cX7_bitsOf 118 = .ok (.lor, 1) := by decide +kernel
theorem dX7_bitsOf_119 : decode cX7_bitsOf 119 = .ok (.lload 6, 2) := by decide +kernel
theorem dX7_bitsOf_121 : decode cX7_bitsOf 121 = .ok (.lor, 1) := by decide +kernel
theorem dX7_bitsOf_122 : decode cX7_bitsOf 122 = .ok (.lreturn, 1) := by decide +kernel
theorem dX7_isPlace_0 : decode cX7_isPlace 0 = .ok (.iload_n 0, 1) := by decide +kernel
theorem dX7_isPlace_1 : decode cX7_isPlace 1 = .ok (.ifCond .lt 13, 3) := by decide +kernel
theorem dX7_isPlace_4 : decode cX7_isPlace 4 = .ok (.iload_n 0, 1) := by decide +kernel
theorem dX7_isPlace_5 : decode cX7_isPlace 5 = .ok (.bipush 64, 2) := by decide +kernel
theorem dX7_isPlace_7 : decode cX7_isPlace 7 = .ok (.if_icmp .ge 7, 3) := by decide +kernel
theorem dX7_isPlace_10 : decode cX7_isPlace 10 = .ok (.iconst 1, 1) := by decide +kernel
theorem dX7_isPlace_11 : decode cX7_isPlace 11 = .ok (.goto 4, 3) := by decide +kernel
theorem dX7_isPlace_14 : decode cX7_isPlace 14 = .ok (.iconst 0, 1) := by decide +kernel
theorem dX7_isPlace_15 : decode cX7_isPlace 15 = .ok (.ireturn, 1) := by decide +kernel
theorem dX7_isMoment_0 : decode cX7_isMoment 0 = .ok (.iload_n 0, 1) := by decide +kernel
theorem dX7_isMoment_1 : decode cX7_isMoment 1 = .ok (.ifCond .lt 13, 3) := by decide +kernel
theorem dX7_isMoment_4 : decode cX7_isMoment 4 = .ok (.iload_n 0, 1) := by decide +kernel
theorem dX7_isMoment_5 : decode cX7_isMoment 5 = .ok (.bipush 100, 2) := by decide +kernel
theorem dX7_isMoment_7 : decode cX7_isMoment 7 = .ok (.if_icmp .ge 7, 3) := by decide +kernel
theorem dX7_isMoment_10 : decode cX7_isMoment 10 = .ok (.iconst 1, 1) := by decide +kernel
theorem dX7_isMoment_11 : decode cX7_isMoment 11 = .ok (.goto 4, 3) := by decide +kernel
theorem dX7_isMoment_14 : decode cX7_isMoment 14 = .ok (.iconst 0, 1) := by decide +kernel
theorem dX7_isMoment_15 : decode cX7_isMoment 15 = .ok (.ireturn, 1) := by decide +kernel
theorem dX7_isSlope_0 : decode cX7_isSlope 0 = .ok (.iload_n 0, 1) := by decide +kernel
theorem dX7_isSlope_1 : decode cX7_isSlope 1 = .ok (.bipush (-99), 2) := by decide +kernel
theorem dX7_isSlope_3 : decode cX7_isSlope 3 = .ok (.if_icmp .lt 13, 3) := by decide +kernel
theorem dX7_isSlope_6 : decode cX7_isSlope 6 = .ok (.iload_n 0, 1) := by decide +kernel
theorem dX7_isSlope_7 : decode cX7_isSlope 7 = .ok (.bipush 99, 2) := by decide +kernel
theorem dX7_isSlope_9 : decode cX7_isSlope 9 = .ok (.if_icmp .gt 7, 3) := by decide +kernel
theorem dX7_isSlope_12 : decode cX7_isSlope 12 = .ok (.iconst 1, 1) := by decide +kernel
theorem dX7_isSlope_13 : decode cX7_isSlope 13 = .ok (.goto 4, 3) := by decide +kernel
theorem dX7_isSlope_16 : decode cX7_isSlope 16 = .ok (.iconst 0, 1) := by decide +kernel
theorem dX7_isSlope_17 : decode cX7_isSlope 17 = .ok (.ireturn, 1) := by decide +kernel
theorem dX7_isOffset_0 : decode cX7_isOffset 0 = .ok (.iload_n 0, 1) := by decide +kernel
theorem dX7_isOffset_1 : decode cX7_isOffset 1 = .ok (.sipush (-9999), 3) := by decide +kernel
theorem dX7_isOffset_4 : decode cX7_isOffset 4 = .ok (.if_icmp .lt 14, 3) := by decide +kernel
theorem dX7_isOffset_7 : decode cX7_isOffset 7 = .ok (.iload_n 0, 1) := by decide +kernel
theorem dX7_isOffset_8 : decode cX7_isOffset 8 = .ok (.sipush 9999, 3) := by decide +kernel
theorem dX7_isOffset_11 : decode cX7_isOffset 11 = .ok (.if_icmp .gt 7, 3) := by decide +kernel
theorem dX7_isOffset_14 : decode cX7_isOffset 14 = .ok (.iconst 1, 1) := by decide +kernel
theorem dX7_isOffset_15 : decode cX7_isOffset 15 = .ok (.goto 4, 3) := by decide +kernel
theorem dX7_isOffset_18 : decode cX7_isOffset 18 = .ok (.iconst 0, 1) := by decide +kernel
theorem dX7_isOffset_19 : decode cX7_isOffset 19 = .ok (.ireturn, 1) := by decide +kernel
theorem dX7_isStretch_0 : decode cX7_isStretch 0 = .ok (.iload_n 0, 1) := by decide +kernel
theorem dX7_isStretch_1 : decode cX7_isStretch 1 = .ok (.ifCond .lt 17, 3) := by decide +kernel
theorem dX7_isStretch_4 : decode cX7_isStretch 4 = .ok (.iload_n 0, 1) := by decide +kernel
theorem dX7_isStretch_5 : decode cX7_isStretch 5 = .ok (.iload_n 1, 1) := by decide +kernel
theorem dX7_isStretch_6 : decode cX7_isStretch 6 = .ok (.if_icmp .gt 12, 3) := by decide +kernel
theorem dX7_isStretch_9 : decode cX7_isStretch 9 = .ok (.iload_n 1, 1) := by decide +kernel
theorem dX7_isStretch_10 : decode cX7_isStretch 10 = .ok (.iload_n 2, 1) := by decide +kernel
theorem dX7_isStretch_11 : decode cX7_isStretch 11 = .ok (.if_icmp .ge 7, 3) := by decide +kernel
theorem dX7_isStretch_14 : decode cX7_isStretch 14 = .ok (.iconst 1, 1) := by decide +kernel
theorem dX7_isStretch_15 : decode cX7_isStretch 15 = .ok (.goto 4, 3) := by decide +kernel
theorem dX7_isStretch_18 : decode cX7_isStretch 18 = .ok (.iconst 0, 1) := by decide +kernel
theorem dX7_isStretch_19 : decode cX7_isStretch 19 = .ok (.ireturn, 1) := by decide +kernel
theorem dX7_changeStretch_0 : decode cX7_changeStretch 0 = .ok (.aload_n 0, 1) := by decide +kernel
theorem dX7_changeStretch_1 : decode cX7_changeStretch 1 = .ok (.getfield 10, 3) := by decide +kernel
theorem dX7_changeStretch_4 : decode cX7_changeStretch 4 = .ok (.iload_n 1, 1) := by decide +kernel
theorem dX7_changeStretch_5 : decode cX7_changeStretch 5 = .ok (.iload 4, 2) := by decide +kernel
theorem dX7_changeStretch_7 : decode cX7_changeStretch 7 = .ok (.invokevirtual 105, 3) := by decide +kernel
theorem dX7_changeStretch_10 : decode cX7_changeStretch 10 = .ok (.aload_n 0, 1) := by decide +kernel
theorem dX7_changeStretch_11 : decode cX7_changeStretch 11 = .ok (.getfield 10, 3) := by decide +kernel
theorem dX7_changeStretch_14 : decode cX7_changeStretch 14 = .ok (.iload_n 1, 1) := by decide +kernel
theorem dX7_changeStretch_15 : decode cX7_changeStretch 15 = .ok (.iload_n 2, 1) := by decide +kernel
theorem dX7_changeStretch_16 : decode cX7_changeStretch 16 = .ok (.invokevirtual 105, 3) := by decide +kernel
theorem dX7_changeStretch_19 : decode cX7_changeStretch 19 = .ok (.isub, 1) := by decide +kernel
theorem dX7_changeStretch_20 : decode cX7_changeStretch 20 = .ok (.iconst 1, 1) := by decide +kernel
theorem dX7_changeStretch_21 : decode cX7_changeStretch 21 = .ok (.iadd, 1) := by decide +kernel
theorem dX7_changeStretch_22 : decode cX7_changeStretch 22 = .ok (.istore 6, 2) := by decide +kernel
theorem dX7_changeStretch_24 : decode cX7_changeStretch 24 = .ok (.aload_n 0, 1) := by decide +kernel
theorem dX7_changeStretch_25 : decode cX7_changeStretch 25 = .ok (.getfield 19, 3) := by decide +kernel
theorem dX7_changeStretch_28 : decode cX7_changeStretch 28 = .ok (.aload_n 0, 1) := by decide +kernel
theorem dX7_changeStretch_29 : decode cX7_changeStretch 29 = .ok (.getfield 10, 3) := by decide +kernel
theorem dX7_changeStretch_32 : decode cX7_changeStretch 32 = .ok (.invokevirtual 76, 3) := by decide +kernel
theorem dX7_changeStretch_35 : decode cX7_changeStretch 35 = .ok (.aload_n 0, 1) := by decide +kernel
theorem dX7_changeStretch_36 : decode cX7_changeStretch 36 = .ok (.getfield 10, 3) := by decide +kernel
theorem dX7_changeStretch_39 : decode cX7_changeStretch 39 = .ok (.iload_n 1, 1) := by decide +kernel
theorem dX7_changeStretch_40 : decode cX7_changeStretch 40 = .ok (.iload_n 2, 1) := by decide +kernel
theorem dX7_changeStretch_41 : decode cX7_changeStretch 41 = .ok (.iload_n 3, 1) := by decide +kernel
theorem dX7_changeStretch_42 : decode cX7_changeStretch 42 = .ok (.invokevirtual 111, 3) := by decide +kernel
theorem dX7_changeStretch_45 : decode cX7_changeStretch 45 = .ok (.aload_n 0, 1) := by decide +kernel
theorem dX7_changeStretch_46 : decode cX7_changeStretch 46 = .ok (.getfield 10, 3) := by decide +kernel
theorem dX7_changeStretch_49 : decode cX7_changeStretch 49 = .ok (.iload_n 1, 1) := by decide +kernel
theorem dX7_changeStretch_50 : decode cX7_changeStretch 50 = .ok (.iload 4, 2) := by decide +kernel
theorem dX7_changeStretch_52 : decode cX7_changeStretch 52 = .ok (.iload 5, 2) := by decide +kernel
theorem dX7_changeStretch_54 : decode cX7_changeStretch 54 = .ok (.invokevirtual 111, 3) := by decide +kernel
theorem dX7_changeStretch_57 : decode cX7_changeStretch 57 = .ok (.iload 6, 2) := by decide +kernel
theorem dX7_changeStretch_59 : decode cX7_changeStretch 59 = .ok (.ireturn, 1) := by decide +kernel
theorem dX8_init_0 : decode cX8_init 0 = .ok (.aload_n 0, 1) := by decide +kernel
theorem dX8_init_1 : decode cX8_init 1 = .ok (.invokespecial 1, 3) := by decide +kernel
theorem dX8_init_4 : decode cX8_init 4 = .ok (.aload_n 0, 1) := by decide +kernel
theorem dX8_init_5 : decode cX8_init 5 = .ok (.bipush 122, 2) := by decide +kernel
theorem dX8_init_7 : decode cX8_init 7 = .ok (.newarray .int, 2) := by decide +kernel
theorem dX8_init_9 : decode cX8_init 9 = .ok (.putfield 7, 3) := by decide +kernel
theorem dX8_init_12 : decode cX8_init 12 = .ok (.aload_n 0, 1) := by decide +kernel
theorem dX8_init_13 : decode cX8_init 13 = .ok (.sipush 732, 3) := by decide +kernel
theorem dX8_init_16 : decode cX8_init 16 = .ok (.newarray .int, 2) := by decide +kernel
theorem dX8_init_18 : decode cX8_init 18 = .ok (.putfield 13, 3) := by decide +kernel
theorem dX8_init_21 : decode cX8_init 21 = .ok (.aload_n 0, 1) := by decide +kernel
theorem dX8_init_22 : decode cX8_init 22 = .ok (.bipush 60, 2) := by decide +kernel
theorem dX8_init_24 : decode cX8_init 24 = .ok (.newarray .int, 2) := by decide +kernel
theorem dX8_init_26 : decode cX8_init 26 = .ok (.putfield 16, 3) := by decide +kernel
theorem dX8_init_29 : decode cX8_init 29 = .ok (.aload_n 0, 1) := by decide +kernel
theorem dX8_init_30 : decode cX8_init 30 = .ok (.bipush 64, 2) := by decide +kernel
theorem dX8_init_32 : decode cX8_init 32 = .ok (.newarray .int, 2) := by decide +kernel
theorem dX8_init_34 : decode cX8_init 34 = .ok (.putfield 19, 3) := by decide +kernel
theorem dX8_init_37 : decode cX8_init 37 = .ok (.aload_n 0, 1) := by decide +kernel
theorem dX8_init_38 : decode cX8_init 38 = .ok (.sipush 128, 3) := by decide +kernel
theorem dX8_init_41 : decode cX8_init 41 = .ok (.newarray .int, 2) := by decide +kernel
theorem dX8_init_43 : decode cX8_init 43 = .ok (.putfield 22, 3) := by decide +kernel
theorem dX8_init_46 : decode cX8_init 46 = .ok (.aload_n 0, 1) := by decide +kernel
theorem dX8_init_47 : decode cX8_init 47 = .ok (.sipush 128, 3) := by decide +kernel
theorem dX8_init_50 : decode cX8_init 50 = .ok (.newarray .int, 2) := by decide +kernel
theorem dX8_init_52 : decode cX8_init 52 = .ok (.putfield 25, 3) := by decide +kernel
theorem dX8_init_55 : decode cX8_init 55 = .ok (.aload_n 0, 1) := by decide +kernel
theorem dX8_init_56 : decode cX8_init 56 = .ok (.bipush 64, 2) := by decide +kernel
theorem dX8_init_58 : decode cX8_init 58 = .ok (.newarray .int, 2) := by decide +kernel
theorem dX8_init_60 : decode cX8_init 60 = .ok (.putfield 28, 3) := by decide +kernel
theorem dX8_init_63 : decode cX8_init 63 = .ok (.aload_n 0, 1) := by decide +kernel
theorem dX8_init_64 : decode cX8_init 64 = .ok (.bipush 20, 2) := by decide +kernel
theorem dX8_init_66 : decode cX8_init 66 = .ok (.newarray .boolean, 2) := by decide +kernel
theorem dX8_init_68 : decode cX8_init 68 = .ok (.putfield 31, 3) := by decide +kernel
theorem dX8_init_71 : decode cX8_init 71 = .ok (.return_, 1) := by decide +kernel
theorem dX8_thrown_0 : decode cX8_thrown 0 = .ok (.aload_n 0, 1) := by decide +kernel
theorem dX8_thrown_1 : decode cX8_thrown 1 = .ok (.getfield 35, 3) := by decide +kernel
theorem dX8_thrown_4 : decode cX8_thrown 4 = .ok (.ireturn, 1) := by decide +kernel
theorem dX8_fails_0 : decode cX8_fails 0 = .ok (.aload_n 0, 1) := by decide +kernel
theorem dX8_fails_1 : decode cX8_fails 1 = .ok (.iload_n 1, 1) := by decide +kernel
theorem dX8_fails_2 : decode cX8_fails 2 = .ok (.putfield 35, 3) := by decide +kernel
theorem dX8_fails_5 : decode cX8_fails 5 = .ok (.iconst 0, 1) := by decide +kernel
theorem dX8_fails_6 : decode cX8_fails 6 = .ok (.ireturn, 1) := by decide +kernel
theorem dX8_in_0 : decode cX8_in 0 = .ok (.iload_n 0, 1) := by decide +kernel
theorem dX8_in_1 : decode cX8_in 1 = .ok (.iload_n 1, 1) := by decide +kernel
theorem dX8_in_2 : decode cX8_in 2 = .ok (.if_icmp .lt 12, 3) := by decide +kernel
theorem dX8_in_5 : decode cX8_in 5 = .ok (.iload_n 0, 1) := by decide +kernel
theorem dX8_in_6 : decode cX8_in 6 = .ok (.iload_n 2, 1) := by decide +kernel
theorem dX8_in_7 : decode cX8_in 7 = .ok (.if_icmp .gt 7, 3) := by decide +kernel
theorem dX8_in_10 : decode cX8_in 10 = .ok (.iconst 1, 1) := by decide +kernel
theorem dX8_in_11 : decode cX8_in 11 = .ok (.goto 4, 3) := by decide +kernel
theorem dX8_in_14 : decode cX8_in 14 = .ok (.iconst 0, 1) := by decide +kernel
theorem dX8_in_15 : decode cX8_in 15 = .ok (.ireturn, 1) := by decide +kernel
theorem dX8_isLine_0 : decode cX8_isLine 0 = .ok (.iload_n 1, 1) := by decide +kernel
theorem dX8_isLine_1 : decode cX8_isLine 1 = .ok (.iconst 0, 1) := by decide +kernel
theorem dX8_isLine_2 : decode cX8_isLine 2 = .ok (.aload_n 0, 1) := by decide +kernel
theorem dX8_isLine_3 : decode cX8_isLine 3 = .ok (.getfield 7, 3) := by decide +kernel
theorem dX8_isLine_6 : decode cX8_isLine 6 = .ok (.iconst 1, 1) := by decide +kernel
theorem dX8_isLine_7 : decode cX8_isLine 7 = .ok (.iaload, 1) := by decide +kernel
theorem dX8_isLine_8 : decode cX8_isLine 8 = .ok (.iconst 1, 1) := by decide +kernel
theorem dX8_isLine_9 : decode cX8_isLine 9 = .ok (.isub, 1) := by decide +kernel
theorem dX8_isLine_10 : decode cX8_isLine 10 = .ok (.invokestatic 39, 3) := by decide +kernel
theorem dX8_isLine_13 : decode cX8_isLine 13 = .ok (.ireturn, 1) := by decide +kernel
theorem dX8_isPlace_0 : decode cX8_isPlace 0 = .ok (.iload_n 0, 1) := by decide +kernel
theorem dX8_isPlace_1 : decode cX8_isPlace 1 = .ok (.iconst 0, 1) := by decide +kernel
theorem dX8_isPlace_2 : decode cX8_isPlace 2 = .ok (.bipush 63, 2) := by decide +kernel
theorem dX8_isPlace_4 : decode cX8_isPlace 4 = .ok (.invokestatic 39, 3) := by decide +kernel
theorem dX8_isPlace_7 : decode cX8_isPlace 7 = .ok (.ireturn, 1) := by decide +kernel
theorem dX8_isMoment_0 : decode cX8_isMoment 0 = .ok (.iload_n 0, 1) := by decide +kernel
theorem dX8_isMoment_1 : decode cX8_isMoment 1 = .ok (.iconst 0, 1) := by decide +kernel
theorem dX8_isMoment_2 : decode cX8_isMoment 2 = .ok (.bipush 99, 2) := by decide +kernel
theorem dX8_isMoment_4 : decode cX8_isMoment 4 = .ok (.invokestatic 39, 3) := by decide +kernel
theorem dX8_isMoment_7 : decode cX8_isMoment 7 = .ok (.ireturn, 1) := by decide +kernel
theorem dX8_isSlope_0 : decode cX8_isSlope 0 = .ok (.iload_n 0, 1) := by decide +kernel
theorem dX8_isSlope_1 : decode cX8_isSlope 1 = .ok (.bipush (-99), 2) := by decide +kernel
theorem dX8_isSlope_3 : decode cX8_isSlope 3 = .ok (.bipush 99, 2) := by decide +kernel
theorem dX8_isSlope_5 : decode cX8_isSlope 5 = .ok (.invokestatic 39, 3) := by decide +kernel
theorem dX8_isSlope_8 : decode cX8_isSlope 8 = .ok (.ireturn, 1) := by decide +kernel
theorem dX8_isOffset_0 : decode cX8_isOffset 0 = .ok (.iload_n 0, 1) := by decide +kernel
theorem dX8_isOffset_1 : decode cX8_isOffset 1 = .ok (.sipush (-9999), 3) := by decide +kernel
theorem dX8_isOffset_4 : decode cX8_isOffset 4 = .ok (.sipush 9999, 3) := by decide +kernel
theorem dX8_isOffset_7 : decode cX8_isOffset 7 = .ok (.invokestatic 39, 3) := by decide +kernel
theorem dX8_isOffset_10 : decode cX8_isOffset 10 = .ok (.ireturn, 1) := by decide +kernel
theorem dX8_of_0 : decode cX8_of 0 = .ok (.aload_n 0, 1) := by decide +kernel
theorem dX8_of_1 : decode cX8_of 1 = .ok (.getfield 7, 3) := by decide +kernel
theorem dX8_of_4 : decode cX8_of 4 = .ok (.iconst 2, 1) := by decide +kernel
theorem dX8_of_5 : decode cX8_of 5 = .ok (.bipush 6, 2) := by decide +kernel
theorem dX8_of_7 : decode cX8_of 7 = .ok (.iload_n 1, 1) := by decide +kernel
theorem dX8_of_8 : decode cX8_of 8 = .ok (.imul, 1) := by decide +kernel
theorem dX8_of_9 : decode cX8_of 9 = .ok (.iadd, 1) := by decide +kernel
theorem dX8_of_10 : decode cX8_of 10 = .ok (.iload_n 2, 1) := by decide +kernel
theorem dX8_of_11 : decode cX8_of 11 = .ok (.iadd, 1) := by decide +kernel
theorem dX8_of_12 : decode cX8_of 12 = .ok (.iaload, 1) := by decide +kernel
theorem dX8_of_13 : decode cX8_of 13 = .ok (.ireturn, 1) := by decide +kernel
theorem dX8_saves_0 : decode cX8_saves 0 = .ok (.aload_n 0, 1) := by decide +kernel
theorem dX8_saves_1 : decode cX8_saves 1 = .ok (.getfield 43, 3) := by decide +kernel
theorem dX8_saves_4 : decode cX8_saves 4 = .ok (.bipush 6, 2) := by decide +kernel
theorem dX8_saves_6 : decode cX8_saves 6 = .ok (.if_icmp .ne 43, 3) := by decide +kernel
theorem dX8_saves_9 : decode cX8_saves 9 = .ok (.iconst 0, 1) := by decide +kernel
theorem dX8_saves_10 : decode cX8_saves 10 = .ok (.istore_n 1, 1) := by decide +kernel
theorem dX8_saves_11 : decode cX8_saves 11 = .ok (.iload_n 1, 1) := by decide +kernel
theorem dX8_saves_12 : decode cX8_saves 12 = .ok (.sipush 610, 3) := by decide +kernel
theorem dX8_saves_15 : decode cX8_saves 15 = .ok (.if_icmp .ge 24, 3) := by decide +kernel
theorem dX8_saves_18 : decode cX8_saves 18 = .ok (.aload_n 0, 1) := by decide +kernel
theorem dX8_saves_19 : decode cX8_saves 19 = .ok (.getfield 13, 3) := by decide +kernel
theorem dX8_saves_22 : decode cX8_saves 22 = .ok (.iload_n 1, 1) := by decide +kernel
theorem dX8_saves_23 : decode cX8_saves 23 = .ok (.aload_n 0, 1) := by decide +kernel
theorem dX8_saves_24 : decode cX8_saves 24 = .ok (.getfield 13, 3) := by decide +kernel
theorem dX8_saves_27 : decode cX8_saves 27 = .ok (.iload_n 1, 1) := by decide +kernel
theorem dX8_saves_28 : decode cX8_saves 28 = .ok (.bipush 122, 2) := by decide +kernel
theorem dX8_saves_30 : decode cX8_saves 30 = .ok (.iadd, 1) := by decide +kernel
theorem dX8_saves_31 : decode cX8_saves 31 = .ok (.iaload, 1) := by decide +kernel
theorem dX8_saves_32 : decode cX8_saves 32 = .ok (.iastore, 1) := by decide +kernel
theorem dX8_saves_33 : decode cX8_saves 33 = .ok (.iinc 1 1, 3) := by decide +kernel
theorem dX8_saves_36 : decode cX8_saves 36 = .ok (.goto (-25), 3) := by decide +kernel
theorem dX8_saves_39 : decode cX8_saves 39 = .ok (.aload_n 0, 1) := by decide +kernel
theorem dX8_saves_40 : decode cX8_saves 40 = .ok (.dup, 1) := by decide +kernel
theorem dX8_saves_41 : decode cX8_saves 41 = .ok (.getfield 43, 3) := by decide +kernel
theorem dX8_saves_44 : decode cX8_saves 44 = .ok (.iconst 1, 1) := by decide +kernel
theorem dX8_saves_45 : decode cX8_saves 45 = .ok (.isub, 1) := by decide +kernel
theorem dX8_saves_46 : decode cX8_saves 46 = .ok (.putfield 43, 3) := by decide +kernel
theorem dX8_saves_49 : decode cX8_saves 49 = .ok (.iconst 0, 1) := by decide +kernel
theorem dX8_saves_50 : decode cX8_saves 50 = .ok (.istore_n 1, 1) := by decide +kernel
theorem dX8_saves_51 : decode cX8_saves 51 = .ok (.iload_n 1, 1) := by decide +kernel
theorem dX8_saves_52 : decode cX8_saves 52 = .ok (.bipush 122, 2) := by decide +kernel
theorem dX8_saves_54 : decode cX8_saves 54 = .ok (.if_icmp .ge 29, 3) := by decide +kernel
theorem dX8_saves_57 : decode cX8_saves 57 = .ok (.aload_n 0, 1) := by decide +kernel
theorem dX8_saves_58 : decode cX8_saves 58 = .ok (.getfield 13, 3) := by decide +kernel
theorem dX8_saves_61 : decode cX8_saves 61 = .ok (.bipush 122, 2) := by decide +kernel
theorem dX8_saves_63 : decode cX8_saves 63 = .ok (.aload_n 0, 1) := by decide +kernel
theorem dX8_saves_64 : decode cX8_saves 64 = .ok (.getfield 43, 3) := by decide +kernel
theorem dX8_saves_67 : decode cX8_saves 67 = .ok (.imul, 1) := by decide +kernel
theorem dX8_saves_68 : decode cX8_saves 68 = .ok (.iload_n 1, 1) := by decide +kernel
theorem dX8_saves_69 : decode cX8_saves 69 = .ok (.iadd, 1) := by decide +kernel
theorem dX8_saves_70 : decode cX8_saves 70 = .ok (.aload_n 0, 1) := by decide +kernel
theorem dX8_saves_71 : decode cX8_saves 71 = .ok (.getfield 7, 3) := by decide +kernel
theorem dX8_saves_74 : decode cX8_saves 74 = .ok (.iload_n 1, 1) := by decide +kernel
theorem dX8_saves_75 : decode cX8_saves 75 = .ok (.iaload, 1) := by decide +kernel
theorem dX8_saves_76 : decode cX8_saves 76 = .ok (.iastore, 1) := by decide +kernel
theorem dX8_saves_77 : decode cX8_saves 77 = .ok (.iinc 1 1, 3) := by decide +kernel
theorem dX8_saves_80 : decode cX8_saves 80 = .ok (.goto (-29), 3) := by decide +kernel
theorem dX8_saves_83 : decode cX8_saves 83 = .ok (.aload_n 0, 1) := by decide +kernel
theorem dX8_saves_84 : decode cX8_saves 84 = .ok (.dup, 1) := by decide +kernel
theorem dX8_saves_85 : decode cX8_saves 85 = .ok (.getfield 43, 3) := by decide +kernel
theorem dX8_saves_88 : decode cX8_saves 88 = .ok (.iconst 1, 1) := by decide +kernel
theorem dX8_saves_89 : decode cX8_saves 89 = .ok (.iadd, 1) := by decide +kernel
theorem dX8_saves_90 : decode cX8_saves 90 = .ok (.putfield 43, 3) := by decide +kernel
theorem dX8_saves_93 : decode cX8_saves 93 = .ok (.return_, 1) := by decide +kernel
theorem dX8_undo_0 : decode cX8_undo 0 = .ok (.aload_n 0, 1) := by decide +kernel
theorem dX8_undo_1 : decode cX8_undo 1 = .ok (.iconst 0, 1) := by decide +kernel
theorem dX8_undo_2 : decode cX8_undo 2 = .ok (.putfield 35, 3) := by decide +kernel
theorem dX8_undo_5 : decode cX8_undo 5 = .ok (.aload_n 0, 1) := by decide +kernel
theorem dX8_undo_6 : decode cX8_undo 6 = .ok (.getfield 43, 3) := by decide +kernel
theorem dX8_undo_9 : decode cX8_undo 9 = .ok (.ifCond .ne 9, 3) := by decide +kernel
theorem dX8_undo_12 : decode cX8_undo 12 = .ok (.aload_n 0, 1) := by decide +kernel
theorem dX8_undo_13 : decode cX8_undo 13 = .ok (.iconst 1, 1) := by decide +kernel
theorem dX8_undo_14 : decode cX8_undo 14 = .ok (.invokevirtual 46, 3) := by decide +kernel
theorem dX8_undo_17 : decode cX8_undo 17 = .ok (.ireturn, 1) := by decide +kernel
theorem dX8_undo_18 : decode cX8_undo 18 = .ok (.aload_n 0, 1) := by decide +kernel
theorem dX8_undo_19 : decode cX8_undo 19 = .ok (.dup, 1) := by decide +kernel
theorem dX8_undo_20 : decode cX8_undo 20 = .ok (.getfield 43, 3) := by decide +kernel
theorem dX8_undo_23 : decode cX8_undo 23 = .ok (.iconst 1, 1) := by decide +kernel
theorem dX8_undo_24 : decode cX8_undo 24 = .ok (.isub, 1) := by decide +kernel
theorem dX8_undo_25 : decode cX8_undo 25 = .ok (.putfield 43, 3) := by decide +kernel
theorem dX8_undo_28 : decode cX8_undo 28 = .ok (.iconst 0, 1) := by decide +kernel
theorem dX8_undo_29 : decode cX8_undo 29 = .ok (.istore_n 1, 1) := by decide +kernel
theorem dX8_undo_30 : decode cX8_undo 30 = .ok (.iload_n 1, 1) := by decide +kernel
theorem dX8_undo_31 : decode cX8_undo 31 = .ok (.bipush 122, 2) := by decide +kernel
theorem dX8_undo_33 : decode cX8_undo 33 = .ok (.if_icmp .ge 29, 3) := by decide +kernel
theorem dX8_undo_36 : decode cX8_undo 36 = .ok (.aload_n 0, 1) := by decide +kernel
theorem dX8_undo_37 : decode cX8_undo 37 = .ok (.getfield 7, 3) := by decide +kernel
theorem dX8_undo_40 : decode cX8_undo 40 = .ok (.iload_n 1, 1) := by decide +kernel
theorem dX8_undo_41 : decode cX8_undo 41 = .ok (.aload_n 0, 1) := by decide +kernel
theorem dX8_undo_42 : decode cX8_undo 42 = .ok (.getfield 13, 3) := by decide +kernel
theorem dX8_undo_45 : decode cX8_undo 45 = .ok (.bipush 122, 2) := by decide +kernel
theorem dX8_undo_47 : decode cX8_undo 47 = .ok (.aload_n 0, 1) := by decide +kernel
theorem dX8_undo_48 : decode cX8_undo 48 = .ok (.getfield 43, 3) := by decide +kernel
theorem dX8_undo_51 : decode cX8_undo 51 = .ok (.imul, 1) := by decide +kernel
theorem dX8_undo_52 : decode cX8_undo 52 = .ok (.iload_n 1, 1) := by decide +kernel
theorem dX8_undo_53 : decode cX8_undo 53 = .ok (.iadd, 1) := by decide +kernel
theorem dX8_undo_54 : decode cX8_undo 54 = .ok (.iaload, 1) := by decide +kernel
theorem dX8_undo_55 : decode cX8_undo 55 = .ok (.iastore, 1) := by decide +kernel
theorem dX8_undo_56 : decode cX8_undo 56 = .ok (.iinc 1 1, 3) := by decide +kernel
theorem dX8_undo_59 : decode cX8_undo 59 = .ok (.goto (-29), 3) := by decide +kernel
theorem dX8_undo_62 : decode cX8_undo 62 = .ok (.aload_n 0, 1) := by decide +kernel
theorem dX8_undo_63 : decode cX8_undo 63 = .ok (.getfield 43, 3) := by decide +kernel
theorem dX8_undo_66 : decode cX8_undo 66 = .ok (.ireturn, 1) := by decide +kernel
theorem dX8_comes_0 : decode cX8_comes 0 = .ok (.iconst 2, 1) := by decide +kernel
theorem dX8_comes_1 : decode cX8_comes 1 = .ok (.bipush 6, 2) := by decide +kernel
theorem dX8_comes_3 : decode cX8_comes 3 = .ok (.aload_n 0, 1) := by decide +kernel
theorem dX8_comes_4 : decode cX8_comes 4 = .ok (.getfield 7, 3) := by decide +kernel
theorem dX8_comes_7 : decode cX8_comes 7 = .ok (.iconst 1, 1) := by decide +kernel
theorem dX8_comes_8 : decode cX8_comes 8 = .ok (.iaload, 1) := by decide +kernel
theorem dX8_comes_9 : decode cX8_comes 9 = .ok (.imul, 1) := by decide +kernel
theorem dX8_comes_10 : decode cX8_comes 10 = .ok (.iadd, 1) := by decide +kernel
theorem dX8_comes_11 : decode cX8_comes 11 = .ok (.istore 5, 2) := by decide +kernel
theorem dX8_comes_13 : decode cX8_comes 13 = .ok (.aload_n 0, 1) := by decide +kernel
theorem dX8_comes_14 : decode cX8_comes 14 = .ok (.getfield 7, 3) := by decide +kernel
theorem dX8_comes_17 : decode cX8_comes 17 = .ok (.iload 5, 2) := by decide +kernel
theorem dX8_comes_19 : decode cX8_comes 19 = .ok (.iload_n 1, 1) := by decide +kernel
theorem dX8_comes_20 : decode cX8_comes 20 = .ok (.iastore, 1) := by decide +kernel
theorem dX8_comes_21 : decode cX8_comes 21 = .ok (.aload_n 0, 1) := by decide +kernel
theorem dX8_comes_22 : decode cX8_comes 22 = .ok (.getfield 7, 3) := by decide +kernel
theorem dX8_comes_25 : decode cX8_comes 25 = .ok (.iload 5, 2) := by decide +kernel
theorem dX8_comes_27 : decode cX8_comes 27 = .ok (.iconst 1, 1) := by decide +kernel
theorem dX8_comes_28 : decode cX8_comes 28 = .ok (.iadd, 1) := by decide +kernel
theorem dX8_comes_29 : decode cX8_comes 29 = .ok (.iload_n 2, 1) := by decide +kernel
theorem dX8_comes_30 : decode cX8_comes 30 = .ok (.iastore, 1) := by decide +kernel
theorem dX8_comes_31 : decode cX8_comes 31 = .ok (.aload_n 0, 1) := by decide +kernel
theorem dX8_comes_32 : decode cX8_comes 32 = .ok (.getfield 7, 3) := by decide +kernel
theorem dX8_comes_35 : decode cX8_comes 35 = .ok (.iload 5, 2) := by decide +kernel
theorem dX8_comes_37 : decode cX8_comes 37 = .ok (.iconst 2, 1) := by decide +kernel
theorem dX8_comes_38 : decode cX8_comes 38 = .ok (.iadd, 1) := by decide +kernel
theorem dX8_comes_39 : decode cX8_comes 39 = .ok (.iconst 0, 1) := by decide +kernel
theorem dX8_comes_40 : decode cX8_comes 40 = .ok (.iastore, 1) := by decide +kernel
theorem dX8_comes_41 : decode cX8_comes 41 = .ok (.aload_n 0, 1) := by decide +kernel
theorem dX8_comes_42 : decode cX8_comes 42 = .ok (.getfield 7, 3) := by decide +kernel
theorem dX8_comes_45 : decode cX8_comes 45 = .ok (.iload 5, 2) := by decide +kernel
theorem dX8_comes_47 : decode cX8_comes 47 = .ok (.iconst 3, 1) := by decide +kernel
theorem dX8_comes_48 : decode cX8_comes 48 = .ok (.iadd, 1) := by decide +kernel
theorem dX8_comes_49 : decode cX8_comes 49 = .ok (.bipush 63, 2) := by decide +kernel
theorem dX8_comes_51 : decode cX8_comes 51 = .ok (.iastore, 1) := by decide +kernel
theorem dX8_comes_52 : decode cX8_comes 52 = .ok (.aload_n 0, 1) := by decide +kernel
theorem dX8_comes_53 : decode cX8_comes 53 = .ok (.getfield 7, 3) := by decide +kernel
theorem dX8_comes_56 : decode cX8_comes 56 = .ok (.iload 5, 2) := by decide +kernel
theorem dX8_comes_58 : decode cX8_comes 58 = .ok (.iconst 4, 1) := by decide +kernel
theorem dX8_comes_59 : decode cX8_comes 59 = .ok (.iadd, 1) := by decide +kernel
theorem dX8_comes_60 : decode cX8_comes 60 = .ok (.iload_n 3, 1) := by decide +kernel
theorem dX8_comes_61 : decode cX8_comes 61 = .ok (.iastore, 1) := by decide +kernel
theorem dX8_comes_62 : decode cX8_comes 62 = .ok (.aload_n 0, 1) := by decide +kernel
theorem dX8_comes_63 : decode cX8_comes 63 = .ok (.getfield 7, 3) := by decide +kernel
theorem dX8_comes_66 : decode cX8_comes 66 = .ok (.iload 5, 2) := by decide +kernel
theorem dX8_comes_68 : decode cX8_comes 68 = .ok (.iconst 5, 1) := by decide +kernel
theorem dX8_comes_69 : decode cX8_comes 69 = .ok (.iadd, 1) := by decide +kernel
theorem dX8_comes_70 : decode cX8_comes 70 = .ok (.iload 4, 2) := by decide +kernel
theorem dX8_comes_72 : decode cX8_comes 72 = .ok (.iastore, 1) := by decide +kernel
theorem dX8_comes_73 : decode cX8_comes 73 = .ok (.aload_n 0, 1) := by decide +kernel
theorem dX8_comes_74 : decode cX8_comes 74 = .ok (.getfield 7, 3) := by decide +kernel
theorem dX8_comes_77 : decode cX8_comes 77 = .ok (.iconst 1, 1) := by decide +kernel
theorem dX8_comes_78 : decode cX8_comes 78 = .ok (.dup2, 1) := by decide +kernel
theorem dX8_comes_79 : decode cX8_comes 79 = .ok (.iaload, 1) := by decide +kernel
theorem dX8_comes_80 : decode cX8_comes 80 = .ok (.iconst 1, 1) := by decide +kernel
theorem dX8_comes_81 : decode cX8_comes 81 = .ok (.iadd, 1) := by decide +kernel
theorem dX8_comes_82 : decode cX8_comes 82 = .ok (.iastore, 1) := by decide +kernel
theorem dX8_comes_83 : decode cX8_comes 83 = .ok (.return_, 1) := by decide +kernel
theorem dX8_goes_0 : decode cX8_goes 0 = .ok (.aload_n 0, 1) := by decide +kernel
theorem dX8_goes_1 : decode cX8_goes 1 = .ok (.getfield 7, 3) := by decide +kernel
theorem dX8_goes_4 : decode cX8_goes 4 = .ok (.iconst 1, 1) := by decide +kernel
theorem dX8_goes_5 : decode cX8_goes 5 = .ok (.dup2, 1) := by decide +kernel
theorem dX8_goes_6 : decode cX8_goes 6 = .ok (.iaload, 1) := by decide +kernel
theorem dX8_goes_7 : decode cX8_goes 7 = .ok (.iconst 1, 1) := by decide +kernel
theorem dX8_goes_8 : decode cX8_goes 8 = .ok (.isub, 1) := by decide +kernel
theorem dX8_goes_9 : decode cX8_goes 9 = .ok (.iastore, 1) := by decide +kernel
theorem dX8_goes_10 : decode cX8_goes 10 = .ok (.iconst 2, 1) := by decide +kernel
theorem dX8_goes_11 : decode cX8_goes 11 = .ok (.bipush 6, 2) := by decide +kernel
theorem dX8_goes_13 : decode cX8_goes 13 = .ok (.iload_n 1, 1) := by decide +kernel
theorem dX8_goes_14 : decode cX8_goes 14 = .ok (.imul, 1) := by decide +kernel
theorem dX8_goes_15 : decode cX8_goes 15 = .ok (.iadd, 1) := by decide +kernel
theorem dX8_goes_16 : decode cX8_goes 16 = .ok (.istore_n 2, 1) := by decide +kernel
theorem dX8_goes_17 : decode cX8_goes 17 = .ok (.iload_n 2, 1) := by decide +kernel
theorem dX8_goes_18 : decode cX8_goes 18 = .ok (.iconst 2, 1) := by decide +kernel
theorem dX8_goes_19 : decode cX8_goes 19 = .ok (.bipush 6, 2) := by decide +kernel
theorem dX8_goes_21 : decode cX8_goes 21 = .ok (.aload_n 0, 1) := by decide +kernel
theorem dX8_goes_22 : decode cX8_goes 22 = .ok (.getfield 7, 3) := by decide +kernel
theorem dX8_goes_25 : decode cX8_goes 25 = .ok (.iconst 1, 1) := by decide +kernel
theorem dX8_goes_26 : decode cX8_goes 26 = .ok (.iaload, 1) := by decide +kernel
theorem dX8_goes_27 : decode cX8_goes 27 = .ok (.imul, 1) := by decide +kernel
theorem dX8_goes_28 : decode cX8_goes 28 = .ok (.iadd, 1) := by decide +kernel
theorem dX8_goes_29 : decode cX8_goes 29 = .ok (.if_icmp .ge 24, 3) := by decide +kernel
theorem dX8_goes_32 : decode cX8_goes 32 = .ok (.aload_n 0, 1) := by decide +kernel
theorem dX8_goes_33 : decode cX8_goes 33 = .ok (.getfield 7, 3) := by decide +kernel
theorem dX8_goes_36 : decode cX8_goes 36 = .ok (.iload_n 2, 1) := by decide +kernel
theorem dX8_goes_37 : decode cX8_goes 37 = .ok (.aload_n 0, 1) := by decide +kernel
theorem dX8_goes_38 : decode cX8_goes 38 = .ok (.getfield 7, 3) := by decide +kernel
theorem dX8_goes_41 : decode cX8_goes 41 = .ok (.iload_n 2, 1) := by decide +kernel
theorem dX8_goes_42 : decode cX8_goes 42 = .ok (.bipush 6, 2) := by decide +kernel
theorem dX8_goes_44 : decode cX8_goes 44 = .ok (.iadd, 1) := by decide +kernel
theorem dX8_goes_45 : decode cX8_goes 45 = .ok (.iaload, 1) := by decide +kernel
theorem dX8_goes_46 : decode cX8_goes 46 = .ok (.iastore, 1) := by decide +kernel
theorem dX8_goes_47 : decode cX8_goes 47 = .ok (.iinc 2 1, 3) := by decide +kernel
theorem dX8_goes_50 : decode cX8_goes 50 = .ok (.goto (-33), 3) := by decide +kernel
theorem dX8_goes_53 : decode cX8_goes 53 = .ok (.return_, 1) := by decide +kernel
theorem dX8_at_0 : decode cX8_at 0 = .ok (.aload_n 0, 1) := by decide +kernel
theorem dX8_at_1 : decode cX8_at 1 = .ok (.iload_n 1, 1) := by decide +kernel
theorem dX8_at_2 : decode cX8_at 2 = .ok (.iconst 0, 1) := by decide +kernel
theorem dX8_at_3 : decode cX8_at 3 = .ok (.invokevirtual 50, 3) := by decide +kernel
theorem dX8_at_6 : decode cX8_at 6 = .ok (.iload_n 2, 1) := by decide +kernel
theorem dX8_at_7 : decode cX8_at 7 = .ok (.imul, 1) := by decide +kernel
theorem dX8_at_8 : decode cX8_at 8 = .ok (.aload_n 0, 1) := by decide +kernel
theorem dX8_at_9 : decode cX8_at 9 = .ok (.iload_n 1, 1) := by decide +kernel
theorem dX8_at_10 : decode cX8_at 10 = .ok (.iconst 1, 1) := by decide +kernel
theorem dX8_at_11 : decode cX8_at 11 = .ok (.invokevirtual 50, 3) := by decide +kernel
theorem dX8_at_14 : decode cX8_at 14 = .ok (.iadd, 1) := by decide +kernel
theorem dX8_at_15 : decode cX8_at 15 = .ok (.ireturn, 1) := by decide +kernel
theorem dX8_counts_0 : decode cX8_counts 0 = .ok (.iload_n 2, 1) := by decide +kernel
theorem dX8_counts_1 : decode cX8_counts 1 = .ok (.aload_n 0, 1) := by decide +kernel
theorem dX8_counts_2 : decode cX8_counts 2 = .ok (.iload_n 1, 1) := by decide +kernel
theorem dX8_counts_3 : decode cX8_counts 3 = .ok (.iconst 2, 1) := by decide +kernel
theorem dX8_counts_4 : decode cX8_counts 4 = .ok (.invokevirtual 50, 3) := by decide +kernel
theorem dX8_counts_7 : decode cX8_counts 7 = .ok (.aload_n 0, 1) := by decide +kernel
theorem dX8_counts_8 : decode cX8_counts 8 = .ok (.iload_n 1, 1) := by decide +kernel
theorem dX8_counts_9 : decode cX8_counts 9 = .ok (.iconst 3, 1) := by decide +kernel
theorem dX8_counts_10 : decode cX8_counts 10 = .ok (.invokevirtual 50, 3) := by decide +kernel
theorem dX8_counts_13 : decode cX8_counts 13 = .ok (.invokestatic 39, 3) := by decide +kernel
theorem dX8_counts_16 : decode cX8_counts 16 = .ok (.ifCond .eq 26, 3) := by decide +kernel
theorem dX8_counts_19 : decode cX8_counts 19 = .ok (.iload_n 3, 1) := by decide +kernel
theorem dX8_counts_20 : decode cX8_counts 20 = .ok (.aload_n 0, 1) := by decide +kernel
theorem dX8_counts_21 : decode cX8_counts 21 = .ok (.iload_n 1, 1) := by decide +kernel
theorem dX8_counts_22 : decode cX8_counts 22 = .ok (.iconst 4, 1) := by decide +kernel
theorem dX8_counts_23 : decode cX8_counts 23 = .ok (.invokevirtual 50, 3) := by decide +kernel
theorem dX8_counts_26 : decode cX8_counts 26 = .ok (.aload_n 0, 1) := by decide +kernel
theorem dX8_counts_27 : decode cX8_counts 27 = .ok (.iload_n 1, 1) := by decide +kernel
theorem dX8_counts_28 : decode cX8_counts 28 = .ok (.iconst 5, 1) := by decide +kernel
theorem dX8_counts_29 : decode cX8_counts 29 = .ok (.invokevirtual 50, 3) := by decide +kernel
theorem dX8_counts_32 : decode cX8_counts 32 = .ok (.invokestatic 39, 3) := by decide +kernel
theorem dX8_counts_35 : decode cX8_counts 35 = .ok (.ifCond .eq 7, 3) := by decide +kernel
theorem dX8_counts_38 : decode cX8_counts 38 = .ok (.iconst 1, 1) := by decide +kernel
theorem dX8_counts_39 : decode cX8_counts 39 = .ok (.goto 4, 3) := by decide +kernel
theorem dX8_counts_42 : decode cX8_counts 42 = .ok (.iconst 0, 1) := by decide +kernel
theorem dX8_counts_43 : decode cX8_counts 43 = .ok (.ireturn, 1) := by decide +kernel
theorem dX8_isLower_0 : decode cX8_isLower 0 = .ok (.aload_n 0, 1) := by decide +kernel
theorem dX8_isLower_1 : decode cX8_isLower 1 = .ok (.iload_n 1, 1) := by decide +kernel
theorem dX8_isLower_2 : decode cX8_isLower 2 = .ok (.iload_n 3, 1) := by decide +kernel
theorem dX8_isLower_3 : decode cX8_isLower 3 = .ok (.invokevirtual 54, 3) := by decide +kernel
theorem dX8_isLower_6 : decode cX8_isLower 6 = .ok (.aload_n 0, 1) := by decide +kernel
theorem dX8_isLower_7 : decode cX8_isLower 7 = .ok (.iload_n 2, 1) := by decide +kernel
theorem dX8_isLower_8 : decode cX8_isLower 8 = .ok (.iload_n 3, 1) := by decide +kernel
theorem dX8_isLower_9 : decode cX8_isLower 9 = .ok (.invokevirtual 54, 3) := by decide +kernel
theorem dX8_isLower_12 : decode cX8_isLower 12 = .ok (.if_icmp .lt 23, 3) := by decide +kernel
theorem dX8_isLower_15 : decode cX8_isLower 15 = .ok (.aload_n 0, 1) := by decide +kernel
theorem dX8_isLower_16 : decode cX8_isLower 16 = .ok (.iload_n 1, 1) := by decide +kernel
theorem dX8_isLower_17 : decode cX8_isLower 17 = .ok (.iload_n 3, 1) := by decide +kernel
theorem dX8_isLower_18 : decode cX8_isLower 18 = .ok (.invokevirtual 54, 3) := by decide +kernel
theorem dX8_isLower_21 : decode cX8_isLower 21 = .ok (.aload_n 0, 1) := by decide +kernel
theorem dX8_isLower_22 : decode cX8_isLower 22 = .ok (.iload_n 2, 1) := by decide +kernel
theorem dX8_isLower_23 : decode cX8_isLower 23 = .ok (.iload_n 3, 1) := by decide +kernel
theorem dX8_isLower_24 : decode cX8_isLower 24 = .ok (.invokevirtual 54, 3) := by decide +kernel
theorem dX8_isLower_27 : decode cX8_isLower 27 = .ok (.if_icmp .ne 12, 3) := by decide +kernel
theorem dX8_isLower_30 : decode cX8_isLower 30 = .ok (.iload_n 1, 1) := by decide +kernel
theorem dX8_isLower_31 : decode cX8_isLower 31 = .ok (.iload_n 2, 1) := by decide +kernel
theorem dX8_isLower_32 : decode cX8_isLower 32 = .ok (.if_icmp .ge 7, 3) := by decide +kernel
theorem dX8_isLower_35 : decode cX8_isLower 35 = .ok (.iconst 1, 1) := by decide +kernel
theorem dX8_isLower_36 : decode cX8_isLower 36 = .ok (.goto 4, 3) := by decide +kernel
theorem dX8_isLower_39 : decode cX8_isLower 39 = .ok (.iconst 0, 1) := by decide +kernel
theorem dX8_isLower_40 : decode cX8_isLower 40 = .ok (.ireturn, 1) := by decide +kernel
theorem dX8_lowestBut_0 : decode cX8_lowestBut 0 = .ok (.iconst (-1), 1) := by decide +kernel
theorem dX8_lowestBut_1 : decode cX8_lowestBut 1 = .ok (.istore 4, 2) := by decide +kernel
theorem dX8_lowestBut_3 : decode cX8_lowestBut 3 = .ok (.iconst 0, 1) := by decide +kernel
theorem dX8_lowestBut_4 : decode cX8_lowestBut 4 = .ok (.istore 5, 2) := by decide +kernel
theorem dX8_lowestBut_6 : decode cX8_lowestBut 6 = .ok (.iload 5, 2) := by decide +kernel
theorem dX8_lowestBut_8 : decode cX8_lowestBut 8 = .ok (.aload_n 0, 1) := by decide +kernel
theorem dX8_lowestBut_9 : decode cX8_lowestBut 9 = .ok (.getfield 7, 3) := by decide +kernel
theorem dX8_lowestBut_12 : decode cX8_lowestBut 12 = .ok (.iconst 1, 1) := by decide +kernel
theorem dX8_lowestBut_13 : decode cX8_lowestBut 13 = .ok (.iaload, 1) := by decide +kernel
theorem dX8_lowestBut_14 : decode cX8_lowestBut 14 = .ok (.if_icmp .ge 70, 3) := by decide +kernel
theorem dX8_lowestBut_17 : decode cX8_lowestBut 17 = .ok (.iload 5, 2) := by decide +kernel
theorem dX8_lowestBut_19 : decode cX8_lowestBut 19 = .ok (.iload_n 3, 1) := by decide +kernel
theorem dX8_lowestBut_20 : decode cX8_lowestBut 20 = .ok (.if_icmp .eq 41, 3) := by decide +kernel
theorem dX8_lowestBut_23 : decode cX8_lowestBut 23 = .ok (.aload_n 0, 1) := by decide +kernel
theorem dX8_lowestBut_24 : decode cX8_lowestBut 24 = .ok (.iload 5, 2) := by decide +kernel
theorem dX8_lowestBut_26 : decode cX8_lowestBut 26 = .ok (.iload_n 1, 1) := by decide +kernel
theorem dX8_lowestBut_27 : decode cX8_lowestBut 27 = .ok (.iload_n 2, 1) := by decide +kernel
theorem dX8_lowestBut_28 : decode cX8_lowestBut 28 = .ok (.invokevirtual 57, 3) := by decide +kernel
theorem dX8_lowestBut_31 : decode cX8_lowestBut 31 = .ok (.ifCond .eq 30, 3) := by decide +kernel
theorem dX8_lowestBut_34 : decode cX8_lowestBut 34 = .ok (.iload 4, 2) := by decide +kernel
theorem dX8_lowestBut_36 : decode cX8_lowestBut 36 = .ok (.iconst (-1), 1) := by decide +kernel
theorem dX8_lowestBut_37 : decode cX8_lowestBut 37 = .ok (.if_icmp .eq 20, 3) := by decide +kernel
theorem dX8_lowestBut_40 : decode cX8_lowestBut 40 = .ok (.aload_n 0, 1) := by decide +kernel
theorem dX8_lowestBut_41 : decode cX8_lowestBut 41 = .ok (.iload 5, 2) := by decide +kernel
theorem dX8_lowestBut_43 : decode cX8_lowestBut 43 = .ok (.iload_n 1, 1) := by decide +kernel
theorem dX8_lowestBut_44 : decode cX8_lowestBut 44 = .ok (.invokevirtual 54, 3) := by decide +kernel
theorem dX8_lowestBut_47 : decode cX8_lowestBut 47 = .ok (.aload_n 0, 1) := by decide +kernel
theorem dX8_lowestBut_48 : decode cX8_lowestBut 48 = .ok (.iload 4, 2) := by decide +kernel
theorem dX8_lowestBut_50 : decode cX8_lowestBut 50 = .ok (.iload_n 1, 1) := by decide +kernel
theorem dX8_lowestBut_51 : decode cX8_lowestBut 51 = .ok (.invokevirtual 54, 3) := by decide +kernel
theorem dX8_lowestBut_54 : decode cX8_lowestBut 54 = .ok (.if_icmp .ge 7, 3) := by decide +kernel
theorem dX8_lowestBut_57 : decode cX8_lowestBut 57 = .ok (.iconst 1, 1) := by decide +kernel
theorem dX8_lowestBut_58 : decode cX8_lowestBut 58 = .ok (.goto 4, 3) := by decide +kernel
theorem dX8_lowestBut_61 : decode cX8_lowestBut 61 = .ok (.iconst 0, 1) := by decide +kernel
theorem dX8_lowestBut_62 : decode cX8_lowestBut 62 = .ok (.istore 6, 2) := by decide +kernel
theorem dX8_lowestBut_64 : decode cX8_lowestBut 64 = .ok (.iload 6, 2) := by decide +kernel
theorem dX8_lowestBut_66 : decode cX8_lowestBut 66 = .ok (.ifCond .eq 8, 3) := by decide +kernel
theorem dX8_lowestBut_69 : decode cX8_lowestBut 69 = .ok (.iload 5, 2) := by decide +kernel
theorem dX8_lowestBut_71 : decode cX8_lowestBut 71 = .ok (.goto 5, 3) := by decide +kernel
theorem dX8_lowestBut_74 : decode cX8_lowestBut 74 = .ok (.iload 4, 2) := by decide +kernel
theorem dX8_lowestBut_76 : decode cX8_lowestBut 76 = .ok (.istore 4, 2) := by decide +kernel
theorem dX8_lowestBut_78 : decode cX8_lowestBut 78 = .ok (.iinc 5 1, 3) := by decide +kernel
theorem dX8_lowestBut_81 : decode cX8_lowestBut 81 = .ok (.goto (-75), 3) := by decide +kernel
theorem dX8_lowestBut_84 : decode cX8_lowestBut 84 = .ok (.iload 4, 2) := by decide +kernel
theorem dX8_lowestBut_86 : decode cX8_lowestBut 86 = .ok (.ireturn, 1) := by decide +kernel
theorem dX8_lowers_0 : decode cX8_lowers 0 = .ok (.iconst 0, 1) := by decide +kernel
theorem dX8_lowers_1 : decode cX8_lowers 1 = .ok (.istore_n 1, 1) := by decide +kernel
theorem dX8_lowers_2 : decode cX8_lowers 2 = .ok (.iload_n 1, 1) := by decide +kernel
theorem dX8_lowers_3 : decode cX8_lowers 3 = .ok (.bipush 64, 2) := by decide +kernel
theorem dX8_lowers_5 : decode cX8_lowers 5 = .ok (.if_icmp .ge 27, 3) := by decide +kernel
theorem dX8_lowers_8 : decode cX8_lowers 8 = .ok (.aload_n 0, 1) := by decide +kernel
theorem dX8_lowers_9 : decode cX8_lowers 9 = .ok (.getfield 28, 3) := by decide +kernel
theorem dX8_lowers_12 : decode cX8_lowers 12 = .ok (.iload_n 1, 1) := by decide +kernel
theorem dX8_lowers_13 : decode cX8_lowers 13 = .ok (.aload_n 0, 1) := by decide +kernel
theorem dX8_lowers_14 : decode cX8_lowers 14 = .ok (.iload_n 1, 1) := by decide +kernel
theorem dX8_lowers_15 : decode cX8_lowers 15 = .ok (.aload_n 0, 1) := by decide +kernel
theorem dX8_lowers_16 : decode cX8_lowers 16 = .ok (.getfield 7, 3) := by decide +kernel
theorem dX8_lowers_19 : decode cX8_lowers 19 = .ok (.iconst 0, 1) := by decide +kernel
theorem dX8_lowers_20 : decode cX8_lowers 20 = .ok (.iaload, 1) := by decide +kernel
theorem dX8_lowers_21 : decode cX8_lowers 21 = .ok (.iconst (-1), 1) := by decide +kernel
theorem dX8_lowers_22 : decode cX8_lowers 22 = .ok (.invokevirtual 60, 3) := by decide +kernel
theorem dX8_lowers_25 : decode cX8_lowers 25 = .ok (.iastore, 1) := by decide +kernel
theorem dX8_lowers_26 : decode cX8_lowers 26 = .ok (.iinc 1 1, 3) := by decide +kernel
theorem dX8_lowers_29 : decode cX8_lowers 29 = .ok (.goto (-27), 3) := by decide +kernel
theorem dX8_lowers_32 : decode cX8_lowers 32 = .ok (.return_, 1) := by decide +kernel
theorem dX8_losers_0 : decode cX8_losers 0 = .ok (.iconst 0, 1) := by decide +kernel
theorem dX8_losers_1 : decode cX8_losers 1 = .ok (.istore_n 1, 1) := by decide +kernel
theorem dX8_losers_2 : decode cX8_losers 2 = .ok (.iload_n 1, 1) := by decide +kernel
theorem dX8_losers_3 : decode cX8_losers 3 = .ok (.bipush 20, 2) := by decide +kernel
theorem dX8_losers_5 : decode cX8_losers 5 = .ok (.if_icmp .ge 16, 3) := by decide +kernel
theorem dX8_losers_8 : decode cX8_losers 8 = .ok (.aload_n 0, 1) := by decide +kernel
theorem dX8_losers_9 : decode cX8_losers 9 = .ok (.getfield 31, 3) := by decide +kernel
theorem dX8_losers_12 : decode cX8_losers 12 = .ok (.iload_n 1, 1) := by decide +kernel
theorem dX8_losers_13 : decode cX8_losers 13 = .ok (.iconst 0, 1) := by decide +kernel
theorem dX8_losers_14 : decode cX8_losers 14 = .ok (.bastore, 1) := by decide +kernel
theorem dX8_losers_15 : decode cX8_losers 15 = .ok (.iinc 1 1, 3) := by decide +kernel
theorem dX8_losers_18 : decode cX8_losers 18 = .ok (.goto (-16), 3) := by decide +kernel
theorem dX8_losers_21 : decode cX8_losers 21 = .ok (.iconst 0, 1) := by decide +kernel
theorem dX8_losers_22 : decode cX8_losers 22 = .ok (.istore_n 1, 1) := by decide +kernel
theorem dX8_losers_23 : decode cX8_losers 23 = .ok (.iload_n 1, 1) := by decide +kernel
theorem dX8_losers_24 : decode cX8_losers 24 = .ok (.bipush 100, 2) := by decide +kernel
theorem dX8_losers_26 : decode cX8_losers 26 = .ok (.if_icmp .ge 43, 3) := by decide +kernel
theorem dX8_losers_29 : decode cX8_losers 29 = .ok (.iconst 0, 1) := by decide +kernel
theorem dX8_losers_30 : decode cX8_losers 30 = .ok (.istore_n 2, 1) := by decide +kernel
theorem dX8_losers_31 : decode cX8_losers 31 = .ok (.iload_n 2, 1) := by decide +kernel
theorem dX8_losers_32 : decode cX8_losers 32 = .ok (.bipush 64, 2) := by decide +kernel
theorem dX8_losers_34 : decode cX8_losers 34 = .ok (.if_icmp .ge 29, 3) := by decide +kernel
theorem dX8_losers_37 : decode cX8_losers 37 = .ok (.aload_n 0, 1) := by decide +kernel
theorem dX8_losers_38 : decode cX8_losers 38 = .ok (.iload_n 2, 1) := by decide +kernel
theorem dX8_losers_39 : decode cX8_losers 39 = .ok (.iload_n 1, 1) := by decide +kernel
theorem dX8_losers_40 : decode cX8_losers 40 = .ok (.iconst (-1), 1) := by decide +kernel
theorem dX8_losers_41 : decode cX8_losers 41 = .ok (.invokevirtual 60, 3) := by decide +kernel
theorem dX8_losers_44 : decode cX8_losers 44 = .ok (.istore_n 3, 1) := by decide +kernel
theorem dX8_losers_45 : decode cX8_losers 45 = .ok (.iload_n 3, 1) := by decide +kernel
theorem dX8_losers_46 : decode cX8_losers 46 = .ok (.iconst (-1), 1) := by decide +kernel
theorem dX8_losers_47 : decode cX8_losers 47 = .ok (.if_icmp .eq 10, 3) := by decide +kernel
theorem dX8_losers_50 : decode cX8_losers 50 = .ok (.aload_n 0, 1) := by decide +kernel
theorem dX8_losers_51 : decode cX8_losers 51 = .ok (.getfield 31, 3) := by decide +kernel
theorem dX8_losers_54 : decode cX8_losers 54 = .ok (.iload_n 3, 1) := by decide +kernel
theorem dX8_losers_55 : decode cX8_losers 55 = .ok (.iconst 1, 1) := by decide +kernel
theorem dX8_losers_56 : decode cX8_losers 56 = .ok (.bastore, 1) := by decide +kernel
theorem dX8_losers_57 : decode cX8_losers 57 = .ok (.iinc 2 1, 3) := by decide +kernel
theorem dX8_losers_60 : decode cX8_losers 60 = .ok (.goto (-29), 3) := by decide +kernel
theorem dX8_losers_63 : decode cX8_losers 63 = .ok (.iinc 1 1, 3) := by decide +kernel
theorem dX8_losers_66 : decode cX8_losers 66 = .ok (.goto (-43), 3) := by decide +kernel
theorem dX8_losers_69 : decode cX8_losers 69 = .ok (.iconst 0, 1) := by decide +kernel
theorem dX8_losers_70 : decode cX8_losers 70 = .ok (.istore_n 1, 1) := by decide +kernel
theorem dX8_losers_71 : decode cX8_losers 71 = .ok (.iconst 0, 1) := by decide +kernel
theorem dX8_losers_72 : decode cX8_losers 72 = .ok (.istore_n 2, 1) := by decide +kernel
theorem dX8_losers_73 : decode cX8_losers 73 = .ok (.iload_n 2, 1) := by decide +kernel
theorem dX8_losers_74 : decode cX8_losers 74 = .ok (.aload_n 0, 1) := by decide +kernel
theorem dX8_losers_75 : decode cX8_losers 75 = .ok (.getfield 7, 3) := by decide +kernel
theorem dX8_losers_78 : decode cX8_losers 78 = .ok (.iconst 1, 1) := by decide +kernel
theorem dX8_losers_79 : decode cX8_losers 79 = .ok (.iaload, 1) := by decide +kernel
theorem dX8_losers_80 : decode cX8_losers 80 = .ok (.if_icmp .ge 26, 3) := by decide +kernel
theorem dX8_losers_83 : decode cX8_losers 83 = .ok (.iload_n 1, 1) := by decide +kernel
theorem dX8_losers_84 : decode cX8_losers 84 = .ok (.aload_n 0, 1) := by decide +kernel
theorem dX8_losers_85 : decode cX8_losers 85 = .ok (.getfield 31, 3) := by decide +kernel
theorem dX8_losers_88 : decode cX8_losers 88 = .ok (.iload_n 2, 1) := by decide +kernel
theorem dX8_losers_89 : decode cX8_losers 89 = .ok (.baload, 1) := by decide +kernel
theorem dX8_losers_90 : decode cX8_losers 90 = .ok (.ifCond .eq 7, 3) := by decide +kernel
theorem dX8_losers_93 : decode cX8_losers 93 = .ok (.iconst 0, 1) := by decide +kernel
theorem dX8_losers_94 : decode cX8_losers 94 = .ok (.goto 4, 3) := by decide +kernel
theorem dX8_losers_97 : decode cX8_losers 97 = .ok (.iconst 1, 1) := by decide +kernel
theorem dX8_losers_98 : decode cX8_losers 98 = .ok (.iadd, 1) := by decide +kernel
theorem dX8_losers_99 : decode cX8_losers 99 = .ok (.istore_n 1, 1) := by decide +kernel
theorem dX8_losers_100 : decode cX8_losers 100 = .ok (.iinc 2 1, 3) := by decide +kernel
theorem dX8_losers_103 : decode cX8_losers 103 = .ok (.goto (-30), 3) := by decide +kernel
theorem dX8_losers_106 : decode cX8_losers 106 = .ok (.iload_n 1, 1) := by decide +kernel
theorem dX8_losers_107 : decode cX8_losers 107 = .ok (.ireturn, 1) := by decide +kernel
theorem dX8_add_0 : decode cX8_add 0 = .ok (.aload_n 0, 1) := by decide +kernel
theorem dX8_add_1 : decode cX8_add 1 = .ok (.iconst 0, 1) := by decide +kernel
theorem dX8_add_2 : decode cX8_add 2 = .ok (.putfield 35, 3) := by decide +kernel
theorem dX8_add_5 : decode cX8_add 5 = .ok (.iload_n 1, 1) := by decide +kernel
theorem dX8_add_6 : decode cX8_add 6 = .ok (.invokestatic 64, 3) := by decide +kernel
theorem dX8_add_9 : decode cX8_add 9 = .ok (.ifCond .eq 10, 3) := by decide +kernel
theorem dX8_add_12 : decode cX8_add 12 = .ok (.iload_n 2, 1) := by decide +kernel
theorem dX8_add_13 : decode cX8_add 13 = .ok (.invokestatic 68, 3) := by decide +kernel
theorem dX8_add_16 : decode cX8_add 16 = .ok (.ifCond .ne 9, 3) := by decide +kernel
theorem dX8_add_19 : decode cX8_add 19 = .ok (.aload_n 0, 1) := by decide +kernel
theorem dX8_add_20 : decode cX8_add 20 = .ok (.iconst 1, 1) := by decide +kernel
theorem dX8_add_21 : decode cX8_add 21 = .ok (.invokevirtual 46, 3) := by decide +kernel
theorem dX8_add_24 : decode cX8_add 24 = .ok (.ireturn, 1) := by decide +kernel
theorem dX8_add_25 : decode cX8_add 25 = .ok (.aload_n 0, 1) := by decide +kernel
theorem dX8_add_26 : decode cX8_add 26 = .ok (.getfield 7, 3) := by decide +kernel
theorem dX8_add_29 : decode cX8_add 29 = .ok (.iconst 1, 1) := by decide +kernel
theorem dX8_add_30 : decode cX8_add 30 = .ok (.iaload, 1) := by decide +kernel
theorem dX8_add_31 : decode cX8_add 31 = .ok (.bipush 20, 2) := by decide +kernel
theorem dX8_add_33 : decode cX8_add 33 = .ok (.if_icmp .ne 9, 3) := by decide +kernel
theorem dX8_add_36 : decode cX8_add 36 = .ok (.aload_n 0, 1) := by decide +kernel
theorem dX8_add_37 : decode cX8_add 37 = .ok (.iconst 2, 1) := by decide +kernel
theorem dX8_add_38 : decode cX8_add 38 = .ok (.invokevirtual 46, 3) := by decide +kernel
theorem dX8_add_41 : decode cX8_add 41 = .ok (.ireturn, 1) := by decide +kernel
theorem dX8_add_42 : decode cX8_add 42 = .ok (.aload_n 0, 1) := by decide +kernel
theorem dX8_add_43 : decode cX8_add 43 = .ok (.invokevirtual 71, 3) := by decide +kernel
theorem dX8_add_46 : decode cX8_add 46 = .ok (.aload_n 0, 1) := by decide +kernel
theorem dX8_add_47 : decode cX8_add 47 = .ok (.iload_n 1, 1) := by decide +kernel
theorem dX8_add_48 : decode cX8_add 48 = .ok (.iload_n 2, 1) := by decide +kernel
theorem dX8_add_49 : decode cX8_add 49 = .ok (.iconst 0, 1) := by decide +kernel
theorem dX8_add_50 : decode cX8_add 50 = .ok (.bipush 99, 2) := by decide +kernel
theorem dX8_add_52 : decode cX8_add 52 = .ok (.invokevirtual 74, 3) := by decide +kernel
theorem dX8_add_55 : decode cX8_add 55 = .ok (.aload_n 0, 1) := by decide +kernel
theorem dX8_add_56 : decode cX8_add 56 = .ok (.getfield 7, 3) := by decide +kernel
theorem dX8_add_59 : decode cX8_add 59 = .ok (.iconst 1, 1) := by decide +kernel
theorem dX8_add_60 : decode cX8_add 60 = .ok (.iaload, 1) := by decide +kernel
theorem dX8_add_61 : decode cX8_add 61 = .ok (.iconst 1, 1) := by decide +kernel
theorem dX8_add_62 : decode cX8_add 62 = .ok (.isub, 1) := by decide +kernel
theorem dX8_add_63 : decode cX8_add 63 = .ok (.ireturn, 1) := by decide +kernel
theorem dX8_changes_0 : decode cX8_changes 0 = .ok (.aload_n 0, 1) := by decide +kernel
theorem dX8_changes_1 : decode cX8_changes 1 = .ok (.iload_n 1, 1) := by decide +kernel
theorem dX8_changes_2 : decode cX8_changes 2 = .ok (.iload_n 2, 1) := by decide +kernel
theorem dX8_changes_3 : decode cX8_changes 3 = .ok (.iconst 1, 1) := by decide +kernel
theorem dX8_changes_4 : decode cX8_changes 4 = .ok (.iadd, 1) := by decide +kernel
theorem dX8_changes_5 : decode cX8_changes 5 = .ok (.invokevirtual 50, 3) := by decide +kernel
theorem dX8_changes_8 : decode cX8_changes 8 = .ok (.aload_n 0, 1) := by decide +kernel
theorem dX8_changes_9 : decode cX8_changes 9 = .ok (.iload_n 1, 1) := by decide +kernel
theorem dX8_changes_10 : decode cX8_changes 10 = .ok (.iload_n 2, 1) := by decide +kernel
theorem dX8_changes_11 : decode cX8_changes 11 = .ok (.invokevirtual 50, 3) := by decide +kernel
theorem dX8_changes_14 : decode cX8_changes 14 = .ok (.isub, 1) := by decide +kernel
theorem dX8_changes_15 : decode cX8_changes 15 = .ok (.iconst 1, 1) := by decide +kernel
theorem dX8_changes_16 : decode cX8_changes 16 = .ok (.iadd, 1) := by decide +kernel
theorem dX8_changes_17 : decode cX8_changes 17 = .ok (.istore 5, 2) := by decide +kernel
theorem dX8_changes_19 : decode cX8_changes 19 = .ok (.aload_n 0, 1) := by decide +kernel
theorem dX8_changes_20 : decode cX8_changes 20 = .ok (.getfield 7, 3) := by decide +kernel
theorem dX8_changes_23 : decode cX8_changes 23 = .ok (.iconst 2, 1) := by decide +kernel
theorem dX8_changes_24 : decode cX8_changes 24 = .ok (.bipush 6, 2) := by decide +kernel
theorem dX8_changes_26 : decode cX8_changes 26 = .ok (.iload_n 1, 1) := by decide +kernel
theorem dX8_changes_27 : decode cX8_changes 27 = .ok (.imul, 1) := by decide +kernel
theorem dX8_changes_28 : decode cX8_changes 28 = .ok (.iadd, 1) := by decide +kernel
theorem dX8_changes_29 : decode cX8_changes 29 = .ok (.iload_n 2, 1) := by decide +kernel
theorem dX8_changes_30 : decode cX8_changes 30 = .ok (.iadd, 1) := by decide +kernel
theorem dX8_changes_31 : decode cX8_changes 31 = .ok (.iload_n 3, 1) := by decide +kernel
theorem dX8_changes_32 : decode cX8_changes 32 = .ok (.iastore, 1) := by decide +kernel
theorem dX8_changes_33 : decode cX8_changes 33 = .ok (.aload_n 0, 1) := by decide +kernel
theorem dX8_changes_34 : decode cX8_changes 34 = .ok (.getfield 7, 3) := by decide +kernel
theorem dX8_changes_37 : decode cX8_changes 37 = .ok (.iconst 2, 1) := by decide +kernel
theorem dX8_changes_38 : decode cX8_changes 38 = .ok (.bipush 6, 2) := by decide +kernel
theorem dX8_changes_40 : decode cX8_changes 40 = .ok (.iload_n 1, 1) := by decide +kernel
theorem dX8_changes_41 : decode cX8_changes 41 = .ok (.imul, 1) := by decide +kernel
theorem dX8_changes_42 : decode cX8_changes 42 = .ok (.iadd, 1) := by decide +kernel
theorem dX8_changes_43 : decode cX8_changes 43 = .ok (.iload_n 2, 1) := by decide +kernel
theorem dX8_changes_44 : decode cX8_changes 44 = .ok (.iadd, 1) := by decide +kernel
theorem dX8_changes_45 : decode cX8_changes 45 = .ok (.iconst 1, 1) := by decide +kernel
theorem dX8_changes_46 : decode cX8_changes 46 = .ok (.iadd, 1) := by decide +kernel
theorem dX8_changes_47 : decode cX8_changes 47 = .ok (.iload 4, 2) := by decide +kernel
theorem dX8_changes_49 : decode cX8_changes 49 = .ok (.iastore, 1) := by decide +kernel
theorem dX8_changes_50 : decode cX8_changes 50 = .ok (.iload 5, 2) := by decide +kernel
theorem dX8_changes_52 : decode cX8_changes 52 = .ok (.ireturn, 1) := by decide +kernel
theorem dX8_span_0 : decode cX8_span 0 = .ok (.aload_n 0, 1) := by decide +kernel
theorem dX8_span_1 : decode cX8_span 1 = .ok (.iconst 0, 1) := by decide +kernel
theorem dX8_span_2 : decode cX8_span 2 = .ok (.putfield 35, 3) := by decide +kernel
theorem dX8_span_5 : decode cX8_span 5 = .ok (.aload_n 0, 1) := by decide +kernel
theorem dX8_span_6 : decode cX8_span 6 = .ok (.iload_n 1, 1) := by decide +kernel
theorem dX8_span_7 : decode cX8_span 7 = .ok (.invokevirtual 78, 3) := by decide +kernel
theorem dX8_span_10 : decode cX8_span 10 = .ok (.ifCond .ne 9, 3) := by decide +kernel
theorem dX8_span_13 : decode cX8_span 13 = .ok (.aload_n 0, 1) := by decide +kernel
theorem dX8_span_14 : decode cX8_span 14 = .ok (.iconst 1, 1) := by decide +kernel
theorem dX8_span_15 : decode cX8_span 15 = .ok (.invokevirtual 46, 3) := by decide +kernel
theorem dX8_span_18 : decode cX8_span 18 = .ok (.ireturn, 1) := by decide +kernel
theorem dX8_span_19 : decode cX8_span 19 = .ok (.iload_n 2, 1) := by decide +kernel
theorem dX8_span_20 : decode cX8_span 20 = .ok (.invokestatic 81, 3) := by decide +kernel
theorem dX8_span_23 : decode cX8_span 23 = .ok (.ifCond .eq 15, 3) := by decide +kernel
theorem dX8_span_26 : decode cX8_span 26 = .ok (.iload_n 3, 1) := by decide +kernel
theorem dX8_span_27 : decode cX8_span 27 = .ok (.invokestatic 81, 3) := by decide +kernel
theorem dX8_span_30 : decode cX8_span 30 = .ok (.ifCond .eq 8, 3) := by decide +kernel
theorem dX8_span_33 : decode cX8_span 33 = .ok (.iload_n 3, 1) := by decide +kernel
theorem dX8_span_34 : decode cX8_span 34 = .ok (.iload_n 2, 1) := by decide +kernel
theorem dX8_span_35 : decode cX8_span 35 = .ok (.if_icmp .ge 9, 3) := by decide +kernel
theorem dX8_span_38 : decode cX8_span 38 = .ok (.aload_n 0, 1) := by decide +kernel
theorem dX8_span_39 : decode cX8_span 39 = .ok (.iconst 2, 1) := by decide +kernel
theorem dX8_span_40 : decode cX8_span 40 = .ok (.invokevirtual 46, 3) := by decide +kernel
theorem dX8_span_43 : decode cX8_span 43 = .ok (.ireturn, 1) := by decide +kernel
theorem dX8_span_44 : decode cX8_span 44 = .ok (.aload_n 0, 1) := by decide +kernel
theorem dX8_span_45 : decode cX8_span 45 = .ok (.invokevirtual 71, 3) := by decide +kernel
theorem dX8_span_48 : decode cX8_span 48 = .ok (.aload_n 0, 1) := by decide +kernel
theorem dX8_span_49 : decode cX8_span 49 = .ok (.iload_n 1, 1) := by decide +kernel
theorem dX8_span_50 : decode cX8_span 50 = .ok (.iconst 2, 1) := by decide +kernel
theorem dX8_span_51 : decode cX8_span 51 = .ok (.iload_n 2, 1) := by decide +kernel
theorem dX8_span_52 : decode cX8_span 52 = .ok (.iload_n 3, 1) := by decide +kernel
theorem dX8_span_53 : decode cX8_span 53 = .ok (.invokevirtual 84, 3) := by decide +kernel
theorem dX8_span_56 : decode cX8_span 56 = .ok (.ireturn, 1) := by decide +kernel
theorem dX8_live_0 : decode cX8_live 0 = .ok (.aload_n 0, 1) := by decide +kernel
theorem dX8_live_1 : decode cX8_live 1 = .ok (.iconst 0, 1) := by decide +kernel
theorem dX8_live_2 : decode cX8_live 2 = .ok (.putfield 35, 3) := by decide +kernel
theorem dX8_live_5 : decode cX8_live 5 = .ok (.aload_n 0, 1) := by decide +kernel
theorem dX8_live_6 : decode cX8_live 6 = .ok (.iload_n 1, 1) := by decide +kernel
theorem dX8_live_7 : decode cX8_live 7 = .ok (.invokevirtual 78, 3) := by decide +kernel
theorem dX8_live_10 : decode cX8_live 10 = .ok (.ifCond .ne 9, 3) := by decide +kernel
theorem dX8_live_13 : decode cX8_live 13 = .ok (.aload_n 0, 1) := by decide +kernel
theorem dX8_live_14 : decode cX8_live 14 = .ok (.iconst 1, 1) := by decide +kernel
theorem dX8_live_15 : decode cX8_live 15 = .ok (.invokevirtual 46, 3) := by decide +kernel
theorem dX8_live_18 : decode cX8_live 18 = .ok (.ireturn, 1) := by decide +kernel
theorem dX8_live_19 : decode cX8_live 19 = .ok (.iload_n 2, 1) := by decide +kernel
theorem dX8_live_20 : decode cX8_live 20 = .ok (.invokestatic 88, 3) := by decide +kernel
theorem dX8_live_23 : decode cX8_live 23 = .ok (.ifCond .eq 15, 3) := by decide +kernel
theorem dX8_live_26 : decode cX8_live 26 = .ok (.iload_n 3, 1) := by decide +kernel
theorem dX8_live_27 : decode cX8_live 27 = .ok (.invokestatic 88, 3) := by decide +kernel
theorem dX8_live_30 : decode cX8_live 30 = .ok (.ifCond .eq 8, 3) := by decide +kernel
theorem dX8_live_33 : decode cX8_live 33 = .ok (.iload_n 3, 1) := by decide +kernel
theorem dX8_live_34 : decode cX8_live 34 = .ok (.iload_n 2, 1) := by decide +kernel
theorem dX8_live_35 : decode cX8_live 35 = .ok (.if_icmp .ge 9, 3) := by decide +kernel
theorem dX8_live_38 : decode cX8_live 38 = .ok (.aload_n 0, 1) := by decide +kernel
theorem dX8_live_39 : decode cX8_live 39 = .ok (.iconst 2, 1) := by decide +kernel
theorem dX8_live_40 : decode cX8_live 40 = .ok (.invokevirtual 46, 3) := by decide +kernel
theorem dX8_live_43 : decode cX8_live 43 = .ok (.ireturn, 1) := by decide +kernel
theorem dX8_live_44 : decode cX8_live 44 = .ok (.aload_n 0, 1) := by decide +kernel
theorem dX8_live_45 : decode cX8_live 45 = .ok (.invokevirtual 71, 3) := by decide +kernel
theorem dX8_live_48 : decode cX8_live 48 = .ok (.aload_n 0, 1) := by decide +kernel
theorem dX8_live_49 : decode cX8_live 49 = .ok (.iload_n 1, 1) := by decide +kernel
theorem dX8_live_50 : decode cX8_live 50 = .ok (.iconst 4, 1) := by decide +kernel
theorem dX8_live_51 : decode cX8_live 51 = .ok (.iload_n 2, 1) := by decide +kernel
