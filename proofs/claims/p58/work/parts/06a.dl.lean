theorem dL_next_0 : decode cL_next 0 = .ok (.aload_n 0, 1) := by decide +kernel
theorem dL_next_1 : decode cL_next 1 = .ok (.iconst 0, 1) := by decide +kernel
theorem dL_next_2 : decode cL_next 2 = .ok (.aload_n 0, 1) := by decide +kernel
theorem dL_next_3 : decode cL_next 3 = .ok (.iconst 0, 1) := by decide +kernel
theorem dL_next_4 : decode cL_next 4 = .ok (.iaload, 1) := by decide +kernel
theorem dL_next_5 : decode cL_next 5 = .ok (.ldc 7, 2) := by decide +kernel
theorem dL_next_7 : decode cL_next 7 = .ok (.imul, 1) := by decide +kernel
theorem dL_next_8 : decode cL_next 8 = .ok (.sipush 12345, 3) := by decide +kernel
theorem dL_next_11 : decode cL_next 11 = .ok (.iadd, 1) := by decide +kernel
theorem dL_next_12 : decode cL_next 12 = .ok (.iastore, 1) := by decide +kernel
theorem dL_next_13 : decode cL_next 13 = .ok (.aload_n 0, 1) := by decide +kernel
theorem dL_next_14 : decode cL_next 14 = .ok (.iconst 0, 1) := by decide +kernel
theorem dL_next_15 : decode cL_next 15 = .ok (.dup2, 1) := by decide +kernel
theorem dL_next_16 : decode cL_next 16 = .ok (.iaload, 1) := by decide +kernel
theorem dL_next_17 : decode cL_next 17 = .ok (.aload_n 0, 1) := by decide +kernel
theorem dL_next_18 : decode cL_next 18 = .ok (.iconst 0, 1) := by decide +kernel
theorem dL_next_19 : decode cL_next 19 = .ok (.iaload, 1) := by decide +kernel
theorem dL_next_20 : decode cL_next 20 = .ok (.bipush 15, 2) := by decide +kernel
theorem dL_next_22 : decode cL_next 22 = .ok (.iushr, 1) := by decide +kernel
theorem dL_next_23 : decode cL_next 23 = .ok (.ixor, 1) := by decide +kernel
theorem dL_next_24 : decode cL_next 24 = .ok (.iastore, 1) := by decide +kernel
theorem dL_next_25 : decode cL_next 25 = .ok (.aload_n 0, 1) := by decide +kernel
theorem dL_next_26 : decode cL_next 26 = .ok (.iconst 0, 1) := by decide +kernel
theorem dL_next_27 : decode cL_next 27 = .ok (.iaload, 1) := by decide +kernel
theorem dL_next_28 : decode cL_next 28 = .ok (.bipush 9, 2) := by decide +kernel
theorem dL_next_30 : decode cL_next 30 = .ok (.iushr, 1) := by decide +kernel
theorem dL_next_31 : decode cL_next 31 = .ok (.ireturn, 1) := by decide +kernel
theorem dL_type_0 : decode cL_type 0 = .ok (.iconst 0, 1) := by decide +kernel
theorem dL_type_1 : decode cL_type 1 = .ok (.istore_n 2, 1) := by decide +kernel
theorem dL_type_2 : decode cL_type 2 = .ok (.iconst 5, 1) := by decide +kernel
theorem dL_type_3 : decode cL_type 3 = .ok (.newarray .int, 2) := by decide +kernel
theorem dL_type_5 : decode cL_type 5 = .ok (.astore_n 3, 1) := by decide +kernel
theorem dL_type_6 : decode cL_type 6 = .ok (.iconst 0, 1) := by decide +kernel
theorem dL_type_7 : decode cL_type 7 = .ok (.istore 4, 2) := by decide +kernel
theorem dL_type_9 : decode cL_type 9 = .ok (.iload 4, 2) := by decide +kernel
theorem dL_type_11 : decode cL_type 11 = .ok (.aload_n 1, 1) := by decide +kernel
theorem dL_type_12 : decode cL_type 12 = .ok (.invokevirtual 8, 3) := by decide +kernel
theorem dL_type_15 : decode cL_type 15 = .ok (.if_icmp .ge 87, 3) := by decide +kernel
theorem dL_type_18 : decode cL_type 18 = .ok (.iconst 0, 1) := by decide +kernel
theorem dL_type_19 : decode cL_type 19 = .ok (.istore 5, 2) := by decide +kernel
theorem dL_type_21 : decode cL_type 21 = .ok (.iload 5, 2) := by decide +kernel
theorem dL_type_23 : decode cL_type 23 = .ok (.bipush 20, 2) := by decide +kernel
theorem dL_type_25 : decode cL_type 25 = .ok (.if_icmp .ge 51, 3) := by decide +kernel
theorem dL_type_28 : decode cL_type 28 = .ok (.aload_n 3, 1) := by decide +kernel
theorem dL_type_29 : decode cL_type 29 = .ok (.iload 5, 2) := by decide +kernel
theorem dL_type_31 : decode cL_type 31 = .ok (.iconst 4, 1) := by decide +kernel
theorem dL_type_32 : decode cL_type 32 = .ok (.idiv, 1) := by decide +kernel
theorem dL_type_33 : decode cL_type 33 = .ok (.aload_n 3, 1) := by decide +kernel
theorem dL_type_34 : decode cL_type 34 = .ok (.iload 5, 2) := by decide +kernel
theorem dL_type_36 : decode cL_type 36 = .ok (.iconst 4, 1) := by decide +kernel
theorem dL_type_37 : decode cL_type 37 = .ok (.idiv, 1) := by decide +kernel
theorem dL_type_38 : decode cL_type 38 = .ok (.iaload, 1) := by decide +kernel
theorem dL_type_39 : decode cL_type 39 = .ok (.bipush 8, 2) := by decide +kernel
theorem dL_type_41 : decode cL_type 41 = .ok (.ishl, 1) := by decide +kernel
theorem dL_type_42 : decode cL_type 42 = .ok (.iload 4, 2) := by decide +kernel
theorem dL_type_44 : decode cL_type 44 = .ok (.iload 5, 2) := by decide +kernel
theorem dL_type_46 : decode cL_type 46 = .ok (.iadd, 1) := by decide +kernel
theorem dL_type_47 : decode cL_type 47 = .ok (.aload_n 1, 1) := by decide +kernel
theorem dL_type_48 : decode cL_type 48 = .ok (.invokevirtual 8, 3) := by decide +kernel
theorem dL_type_51 : decode cL_type 51 = .ok (.if_icmp .ge 15, 3) := by decide +kernel
theorem dL_type_54 : decode cL_type 54 = .ok (.aload_n 1, 1) := by decide +kernel
theorem dL_type_55 : decode cL_type 55 = .ok (.iload 4, 2) := by decide +kernel
theorem dL_type_57 : decode cL_type 57 = .ok (.iload 5, 2) := by decide +kernel
theorem dL_type_59 : decode cL_type 59 = .ok (.iadd, 1) := by decide +kernel
theorem dL_type_60 : decode cL_type 60 = .ok (.invokevirtual 14, 3) := by decide +kernel
theorem dL_type_63 : decode cL_type 63 = .ok (.goto 5, 3) := by decide +kernel
theorem dL_type_66 : decode cL_type 66 = .ok (.bipush 32, 2) := by decide +kernel
theorem dL_type_68 : decode cL_type 68 = .ok (.ior, 1) := by decide +kernel
theorem dL_type_69 : decode cL_type 69 = .ok (.iastore, 1) := by decide +kernel
theorem dL_type_70 : decode cL_type 70 = .ok (.iinc 5 1, 3) := by decide +kernel
theorem dL_type_73 : decode cL_type 73 = .ok (.goto (-52), 3) := by decide +kernel
theorem dL_type_76 : decode cL_type 76 = .ok (.aload_n 0, 1) := by decide +kernel
theorem dL_type_77 : decode cL_type 77 = .ok (.aload_n 3, 1) := by decide +kernel
theorem dL_type_78 : decode cL_type 78 = .ok (.iconst 0, 1) := by decide +kernel
theorem dL_type_79 : decode cL_type 79 = .ok (.iaload, 1) := by decide +kernel
theorem dL_type_80 : decode cL_type 80 = .ok (.aload_n 3, 1) := by decide +kernel
theorem dL_type_81 : decode cL_type 81 = .ok (.iconst 1, 1) := by decide +kernel
theorem dL_type_82 : decode cL_type 82 = .ok (.iaload, 1) := by decide +kernel
theorem dL_type_83 : decode cL_type 83 = .ok (.aload_n 3, 1) := by decide +kernel
theorem dL_type_84 : decode cL_type 84 = .ok (.iconst 2, 1) := by decide +kernel
theorem dL_type_85 : decode cL_type 85 = .ok (.iaload, 1) := by decide +kernel
theorem dL_type_86 : decode cL_type 86 = .ok (.aload_n 3, 1) := by decide +kernel
theorem dL_type_87 : decode cL_type 87 = .ok (.iconst 3, 1) := by decide +kernel
theorem dL_type_88 : decode cL_type 88 = .ok (.iaload, 1) := by decide +kernel
theorem dL_type_89 : decode cL_type 89 = .ok (.aload_n 3, 1) := by decide +kernel
theorem dL_type_90 : decode cL_type 90 = .ok (.iconst 4, 1) := by decide +kernel
theorem dL_type_91 : decode cL_type 91 = .ok (.iaload, 1) := by decide +kernel
theorem dL_type_92 : decode cL_type 92 = .ok (.invokevirtual 18, 3) := by decide +kernel
theorem dL_type_95 : decode cL_type 95 = .ok (.istore_n 2, 1) := by decide +kernel
theorem dL_type_96 : decode cL_type 96 = .ok (.iinc 4 20, 3) := by decide +kernel
theorem dL_type_99 : decode cL_type 99 = .ok (.goto (-90), 3) := by decide +kernel
theorem dL_type_102 : decode cL_type 102 = .ok (.aload_n 1, 1) := by decide +kernel
theorem dL_type_103 : decode cL_type 103 = .ok (.invokevirtual 8, 3) := by decide +kernel
theorem dL_type_106 : decode cL_type 106 = .ok (.ireturn, 1) := by decide +kernel
theorem dL_load_0 : decode cL_load 0 = .ok (.aload_n 0, 1) := by decide +kernel
theorem dL_load_1 : decode cL_load 1 = .ok (.aload_n 1, 1) := by decide +kernel
theorem dL_load_2 : decode cL_load 2 = .ok (.invokestatic 24, 3) := by decide +kernel
theorem dL_load_5 : decode cL_load 5 = .ok (.istore_n 2, 1) := by decide +kernel
theorem dL_load_6 : decode cL_load 6 = .ok (.aload_n 0, 1) := by decide +kernel
theorem dL_load_7 : decode cL_load 7 = .ok (.iload_n 2, 1) := by decide +kernel
theorem dL_load_8 : decode cL_load 8 = .ok (.invokevirtual 30, 3) := by decide +kernel
theorem dL_load_11 : decode cL_load 11 = .ok (.ireturn, 1) := by decide +kernel
theorem dL_load_12 : decode cL_load 12 = .ok (.astore_n 3, 1) := by decide +kernel
theorem dL_load_13 : decode cL_load 13 = .ok (.bipush (-2), 2) := by decide +kernel
theorem dL_load_15 : decode cL_load 15 = .ok (.ireturn, 1) := by decide +kernel
theorem dL_load_16 : decode cL_load 16 = .ok (.astore_n 3, 1) := by decide +kernel
theorem dL_load_17 : decode cL_load 17 = .ok (.iconst (-1), 1) := by decide +kernel
theorem dL_load_18 : decode cL_load 18 = .ok (.ireturn, 1) := by decide +kernel
theorem dL_undone_0 : decode cL_undone 0 = .ok (.aload_n 0, 1) := by decide +kernel
theorem dL_undone_1 : decode cL_undone 1 = .ok (.invokevirtual 38, 3) := by decide +kernel
theorem dL_undone_4 : decode cL_undone 4 = .ok (.ireturn, 1) := by decide +kernel
theorem dL_undone_5 : decode cL_undone 5 = .ok (.astore_n 1, 1) := by decide +kernel
theorem dL_undone_6 : decode cL_undone 6 = .ok (.iconst (-1), 1) := by decide +kernel
theorem dL_undone_7 : decode cL_undone 7 = .ok (.ireturn, 1) := by decide +kernel
theorem dL_advanced_0 : decode cL_advanced 0 = .ok (.aload_n 0, 1) := by decide +kernel
theorem dL_advanced_1 : decode cL_advanced 1 = .ok (.iload_n 1, 1) := by decide +kernel
theorem dL_advanced_2 : decode cL_advanced 2 = .ok (.invokevirtual 43, 3) := by decide +kernel
theorem dL_advanced_5 : decode cL_advanced 5 = .ok (.ireturn, 1) := by decide +kernel
theorem dL_advanced_6 : decode cL_advanced 6 = .ok (.astore_n 2, 1) := by decide +kernel
theorem dL_advanced_7 : decode cL_advanced 7 = .ok (.bipush (-2), 2) := by decide +kernel
theorem dL_advanced_9 : decode cL_advanced 9 = .ok (.ireturn, 1) := by decide +kernel
theorem dL_advanced_10 : decode cL_advanced 10 = .ok (.astore_n 2, 1) := by decide +kernel
theorem dL_advanced_11 : decode cL_advanced 11 = .ok (.bipush (-3), 2) := by decide +kernel
theorem dL_advanced_13 : decode cL_advanced 13 = .ok (.ireturn, 1) := by decide +kernel
theorem dL_damped_0 : decode cL_damped 0 = .ok (.aload_n 0, 1) := by decide +kernel
theorem dL_damped_1 : decode cL_damped 1 = .ok (.iload_n 1, 1) := by decide +kernel
theorem dL_damped_2 : decode cL_damped 2 = .ok (.invokevirtual 46, 3) := by decide +kernel
theorem dL_damped_5 : decode cL_damped 5 = .ok (.ireturn, 1) := by decide +kernel
theorem dL_damped_6 : decode cL_damped 6 = .ok (.astore_n 2, 1) := by decide +kernel
theorem dL_damped_7 : decode cL_damped 7 = .ok (.bipush (-2), 2) := by decide +kernel
theorem dL_damped_9 : decode cL_damped 9 = .ok (.ireturn, 1) := by decide +kernel
theorem dL_warmed_0 : decode cL_warmed 0 = .ok (.aload_n 0, 1) := by decide +kernel
theorem dL_warmed_1 : decode cL_warmed 1 = .ok (.iload_n 1, 1) := by decide +kernel
theorem dL_warmed_2 : decode cL_warmed 2 = .ok (.invokevirtual 49, 3) := by decide +kernel
theorem dL_warmed_5 : decode cL_warmed 5 = .ok (.ireturn, 1) := by decide +kernel
theorem dL_warmed_6 : decode cL_warmed 6 = .ok (.astore_n 2, 1) := by decide +kernel
theorem dL_warmed_7 : decode cL_warmed 7 = .ok (.bipush (-2), 2) := by decide +kernel
theorem dL_warmed_9 : decode cL_warmed 9 = .ok (.ireturn, 1) := by decide +kernel
theorem dL_taught_0 : decode cL_taught 0 = .ok (.aload_n 0, 1) := by decide +kernel
theorem dL_taught_1 : decode cL_taught 1 = .ok (.iload_n 1, 1) := by decide +kernel
theorem dL_taught_2 : decode cL_taught 2 = .ok (.invokevirtual 52, 3) := by decide +kernel
theorem dL_taught_5 : decode cL_taught 5 = .ok (.ireturn, 1) := by decide +kernel
theorem dL_taught_6 : decode cL_taught 6 = .ok (.astore_n 2, 1) := by decide +kernel
theorem dL_taught_7 : decode cL_taught 7 = .ok (.bipush (-2), 2) := by decide +kernel
theorem dL_taught_9 : decode cL_taught 9 = .ok (.ireturn, 1) := by decide +kernel
theorem dL_boxed_0 : decode cL_boxed 0 = .ok (.aload_n 0, 1) := by decide +kernel
theorem dL_boxed_1 : decode cL_boxed 1 = .ok (.iload_n 1, 1) := by decide +kernel
theorem dL_boxed_2 : decode cL_boxed 2 = .ok (.iload_n 2, 1) := by decide +kernel
theorem dL_boxed_3 : decode cL_boxed 3 = .ok (.invokevirtual 55, 3) := by decide +kernel
theorem dL_boxed_6 : decode cL_boxed 6 = .ok (.ireturn, 1) := by decide +kernel
theorem dL_boxed_7 : decode cL_boxed 7 = .ok (.astore_n 3, 1) := by decide +kernel
theorem dL_boxed_8 : decode cL_boxed 8 = .ok (.bipush (-5), 2) := by decide +kernel
theorem dL_boxed_10 : decode cL_boxed 10 = .ok (.ireturn, 1) := by decide +kernel
theorem dL_boxed_11 : decode cL_boxed 11 = .ok (.astore_n 3, 1) := by decide +kernel
theorem dL_boxed_12 : decode cL_boxed 12 = .ok (.bipush (-2), 2) := by decide +kernel
theorem dL_boxed_14 : decode cL_boxed 14 = .ok (.ireturn, 1) := by decide +kernel
theorem dL_boxed_15 : decode cL_boxed 15 = .ok (.astore_n 3, 1) := by decide +kernel
theorem dL_boxed_16 : decode cL_boxed 16 = .ok (.bipush (-3), 2) := by decide +kernel
theorem dL_boxed_18 : decode cL_boxed 18 = .ok (.ireturn, 1) := by decide +kernel
theorem dL_taken_0 : decode cL_taken 0 = .ok (.aload_n 0, 1) := by decide +kernel
theorem dL_taken_1 : decode cL_taken 1 = .ok (.iload_n 1, 1) := by decide +kernel
theorem dL_taken_2 : decode cL_taken 2 = .ok (.invokevirtual 59, 3) := by decide +kernel
theorem dL_taken_5 : decode cL_taken 5 = .ok (.ireturn, 1) := by decide +kernel
theorem dL_taken_6 : decode cL_taken 6 = .ok (.astore_n 2, 1) := by decide +kernel
theorem dL_taken_7 : decode cL_taken 7 = .ok (.bipush (-5), 2) := by decide +kernel
theorem dL_taken_9 : decode cL_taken 9 = .ok (.ireturn, 1) := by decide +kernel
theorem dL_taken_10 : decode cL_taken 10 = .ok (.astore_n 2, 1) := by decide +kernel
theorem dL_taken_11 : decode cL_taken 11 = .ok (.bipush (-3), 2) := by decide +kernel
theorem dL_taken_13 : decode cL_taken 13 = .ok (.ireturn, 1) := by decide +kernel
theorem dL_calibrated_0 : decode cL_calibrated 0 = .ok (.aload_n 0, 1) := by decide +kernel
theorem dL_calibrated_1 : decode cL_calibrated 1 = .ok (.iload_n 1, 1) := by decide +kernel
theorem dL_calibrated_2 : decode cL_calibrated 2 = .ok (.invokevirtual 62, 3) := by decide +kernel
theorem dL_calibrated_5 : decode cL_calibrated 5 = .ok (.ireturn, 1) := by decide +kernel
theorem dL_calibrated_6 : decode cL_calibrated 6 = .ok (.astore_n 2, 1) := by decide +kernel
theorem dL_calibrated_7 : decode cL_calibrated 7 = .ok (.sipush (-995), 3) := by decide +kernel
theorem dL_calibrated_10 : decode cL_calibrated 10 = .ok (.ireturn, 1) := by decide +kernel
theorem dL_calibrated_11 : decode cL_calibrated 11 = .ok (.astore_n 2, 1) := by decide +kernel
theorem dL_calibrated_12 : decode cL_calibrated 12 = .ok (.sipush (-993), 3) := by decide +kernel
theorem dL_calibrated_15 : decode cL_calibrated 15 = .ok (.ireturn, 1) := by decide +kernel
theorem dL_tightened_0 : decode cL_tightened 0 = .ok (.aload_n 0, 1) := by decide +kernel
theorem dL_tightened_1 : decode cL_tightened 1 = .ok (.iload_n 1, 1) := by decide +kernel
theorem dL_tightened_2 : decode cL_tightened 2 = .ok (.invokevirtual 65, 3) := by decide +kernel
theorem dL_tightened_5 : decode cL_tightened 5 = .ok (.ireturn, 1) := by decide +kernel
theorem dL_tightened_6 : decode cL_tightened 6 = .ok (.astore_n 2, 1) := by decide +kernel
theorem dL_tightened_7 : decode cL_tightened 7 = .ok (.bipush (-5), 2) := by decide +kernel
theorem dL_tightened_9 : decode cL_tightened 9 = .ok (.ireturn, 1) := by decide +kernel
theorem dL_tightened_10 : decode cL_tightened 10 = .ok (.astore_n 2, 1) := by decide +kernel
theorem dL_tightened_11 : decode cL_tightened 11 = .ok (.bipush (-3), 2) := by decide +kernel
theorem dL_tightened_13 : decode cL_tightened 13 = .ok (.ireturn, 1) := by decide +kernel
theorem dL_moistened_0 : decode cL_moistened 0 = .ok (.aload_n 0, 1) := by decide +kernel
theorem dL_moistened_1 : decode cL_moistened 1 = .ok (.iload_n 1, 1) := by decide +kernel
theorem dL_moistened_2 : decode cL_moistened 2 = .ok (.invokevirtual 68, 3) := by decide +kernel
theorem dL_moistened_5 : decode cL_moistened 5 = .ok (.ireturn, 1) := by decide +kernel
theorem dL_moistened_6 : decode cL_moistened 6 = .ok (.astore_n 2, 1) := by decide +kernel
theorem dL_moistened_7 : decode cL_moistened 7 = .ok (.bipush (-5), 2) := by decide +kernel
theorem dL_moistened_9 : decode cL_moistened 9 = .ok (.ireturn, 1) := by decide +kernel
theorem dL_moistened_10 : decode cL_moistened 10 = .ok (.astore_n 2, 1) := by decide +kernel
theorem dL_moistened_11 : decode cL_moistened 11 = .ok (.bipush (-3), 2) := by decide +kernel
theorem dL_moistened_13 : decode cL_moistened 13 = .ok (.ireturn, 1) := by decide +kernel
theorem dL_added_0 : decode cL_added 0 = .ok (.aload_n 0, 1) := by decide +kernel
theorem dL_added_1 : decode cL_added 1 = .ok (.iload_n 1, 1) := by decide +kernel
theorem dL_added_2 : decode cL_added 2 = .ok (.iload_n 2, 1) := by decide +kernel
theorem dL_added_3 : decode cL_added 3 = .ok (.invokevirtual 71, 3) := by decide +kernel
theorem dL_added_6 : decode cL_added 6 = .ok (.ireturn, 1) := by decide +kernel
theorem dL_added_7 : decode cL_added 7 = .ok (.astore_n 3, 1) := by decide +kernel
theorem dL_added_8 : decode cL_added 8 = .ok (.bipush (-5), 2) := by decide +kernel
theorem dL_added_10 : decode cL_added 10 = .ok (.ireturn, 1) := by decide +kernel
theorem dL_added_11 : decode cL_added 11 = .ok (.astore_n 3, 1) := by decide +kernel
theorem dL_added_12 : decode cL_added 12 = .ok (.bipush (-2), 2) := by decide +kernel
theorem dL_added_14 : decode cL_added 14 = .ok (.ireturn, 1) := by decide +kernel
theorem dL_added_15 : decode cL_added 15 = .ok (.astore_n 3, 1) := by decide +kernel
theorem dL_added_16 : decode cL_added 16 = .ok (.bipush (-3), 2) := by decide +kernel
theorem dL_added_18 : decode cL_added 18 = .ok (.ireturn, 1) := by decide +kernel
theorem dL_room_0 : decode cL_room 0 = .ok (.new 74, 3) := by decide +kernel
theorem dL_room_3 : decode cL_room 3 = .ok (.dup, 1) := by decide +kernel
theorem dL_room_4 : decode cL_room 4 = .ok (.ldc 76, 2) := by decide +kernel
theorem dL_room_6 : decode cL_room 6 = .ok (.invokespecial 78, 3) := by decide +kernel
theorem dL_room_9 : decode cL_room 9 = .ok (.aload_n 1, 1) := by decide +kernel
theorem dL_room_10 : decode cL_room 10 = .ok (.invokestatic 81, 3) := by decide +kernel
theorem dL_room_13 : decode cL_room 13 = .ok (.bipush 101, 2) := by decide +kernel
theorem dL_room_15 : decode cL_room 15 = .ok (.irem, 1) := by decide +kernel
theorem dL_room_16 : decode cL_room 16 = .ok (.invokevirtual 85, 3) := by decide +kernel
theorem dL_room_19 : decode cL_room 19 = .ok (.bipush 32, 2) := by decide +kernel
theorem dL_room_21 : decode cL_room 21 = .ok (.invokevirtual 88, 3) := by decide +kernel
theorem dL_room_24 : decode cL_room 24 = .ok (.aload_n 1, 1) := by decide +kernel
theorem dL_room_25 : decode cL_room 25 = .ok (.invokestatic 81, 3) := by decide +kernel
theorem dL_room_28 : decode cL_room 28 = .ok (.bipush 41, 2) := by decide +kernel
theorem dL_room_30 : decode cL_room 30 = .ok (.irem, 1) := by decide +kernel
theorem dL_room_31 : decode cL_room 31 = .ok (.invokevirtual 85, 3) := by decide +kernel
theorem dL_room_34 : decode cL_room 34 = .ok (.bipush 32, 2) := by decide +kernel
theorem dL_room_36 : decode cL_room 36 = .ok (.invokevirtual 88, 3) := by decide +kernel
theorem dL_room_39 : decode cL_room 39 = .ok (.aload_n 1, 1) := by decide +kernel
theorem dL_room_40 : decode cL_room 40 = .ok (.invokestatic 81, 3) := by decide +kernel
theorem dL_room_43 : decode cL_room 43 = .ok (.bipush 6, 2) := by decide +kernel
theorem dL_room_45 : decode cL_room 45 = .ok (.irem, 1) := by decide +kernel
theorem dL_room_46 : decode cL_room 46 = .ok (.invokevirtual 85, 3) := by decide +kernel
theorem dL_room_49 : decode cL_room 49 = .ok (.astore_n 2, 1) := by decide +kernel
theorem dL_room_50 : decode cL_room 50 = .ok (.iconst 0, 1) := by decide +kernel
theorem dL_room_51 : decode cL_room 51 = .ok (.istore_n 3, 1) := by decide +kernel
theorem dL_room_52 : decode cL_room 52 = .ok (.iload_n 3, 1) := by decide +kernel
theorem dL_room_53 : decode cL_room 53 = .ok (.iload_n 0, 1) := by decide +kernel
theorem dL_room_54 : decode cL_room 54 = .ok (.if_icmp .ge 57, 3) := by decide +kernel
theorem dL_room_57 : decode cL_room 57 = .ok (.aload_n 1, 1) := by decide +kernel
theorem dL_room_58 : decode cL_room 58 = .ok (.invokestatic 81, 3) := by decide +kernel
theorem dL_room_61 : decode cL_room 61 = .ok (.iconst 3, 1) := by decide +kernel
theorem dL_room_62 : decode cL_room 62 = .ok (.irem, 1) := by decide +kernel
theorem dL_room_63 : decode cL_room 63 = .ok (.ifCond .le 25, 3) := by decide +kernel
theorem dL_room_66 : decode cL_room 66 = .ok (.aload_n 2, 1) := by decide +kernel
theorem dL_room_67 : decode cL_room 67 = .ok (.ldc 91, 2) := by decide +kernel
theorem dL_room_69 : decode cL_room 69 = .ok (.invokevirtual 93, 3) := by decide +kernel
theorem dL_room_72 : decode cL_room 72 = .ok (.iconst 1, 1) := by decide +kernel
theorem dL_room_73 : decode cL_room 73 = .ok (.aload_n 1, 1) := by decide +kernel
theorem dL_room_74 : decode cL_room 74 = .ok (.invokestatic 81, 3) := by decide +kernel
theorem dL_room_77 : decode cL_room 77 = .ok (.bipush 20, 2) := by decide +kernel
theorem dL_room_79 : decode cL_room 79 = .ok (.irem, 1) := by decide +kernel
theorem dL_room_80 : decode cL_room 80 = .ok (.iadd, 1) := by decide +kernel
theorem dL_room_81 : decode cL_room 81 = .ok (.invokevirtual 85, 3) := by decide +kernel
theorem dL_room_84 : decode cL_room 84 = .ok (.pop, 1) := by decide +kernel
theorem dL_room_85 : decode cL_room 85 = .ok (.goto 20, 3) := by decide +kernel
theorem dL_room_88 : decode cL_room 88 = .ok (.aload_n 2, 1) := by decide +kernel
theorem dL_room_89 : decode cL_room 89 = .ok (.ldc 96, 2) := by decide +kernel
theorem dL_room_91 : decode cL_room 91 = .ok (.invokevirtual 93, 3) := by decide +kernel
theorem dL_room_94 : decode cL_room 94 = .ok (.aload_n 1, 1) := by decide +kernel
theorem dL_room_95 : decode cL_room 95 = .ok (.invokestatic 81, 3) := by decide +kernel
theorem dL_room_98 : decode cL_room 98 = .ok (.bipush 61, 2) := by decide +kernel
theorem dL_room_100 : decode cL_room 100 = .ok (.irem, 1) := by decide +kernel
theorem dL_room_101 : decode cL_room 101 = .ok (.invokevirtual 85, 3) := by decide +kernel
theorem dL_room_104 : decode cL_room 104 = .ok (.pop, 1) := by decide +kernel
theorem dL_room_105 : decode cL_room 105 = .ok (.iinc 3 1, 3) := by decide +kernel
theorem dL_room_108 : decode cL_room 108 = .ok (.goto (-56), 3) := by decide +kernel
theorem dL_room_111 : decode cL_room 111 = .ok (.aload_n 2, 1) := by decide +kernel
theorem dL_room_112 : decode cL_room 112 = .ok (.ldc 98, 2) := by decide +kernel
theorem dL_room_114 : decode cL_room 114 = .ok (.invokevirtual 93, 3) := by decide +kernel
theorem dL_room_117 : decode cL_room 117 = .ok (.aload_n 1, 1) := by decide +kernel
theorem dL_room_118 : decode cL_room 118 = .ok (.invokestatic 81, 3) := by decide +kernel
theorem dL_room_121 : decode cL_room 121 = .ok (.bipush 101, 2) := by decide +kernel
theorem dL_room_123 : decode cL_room 123 = .ok (.irem, 1) := by decide +kernel
theorem dL_room_124 : decode cL_room 124 = .ok (.invokevirtual 85, 3) := by decide +kernel
theorem dL_room_127 : decode cL_room 127 = .ok (.invokevirtual 100, 3) := by decide +kernel
theorem dL_room_130 : decode cL_room 130 = .ok (.areturn, 1) := by decide +kernel
theorem dL_sum_0 : decode cL_sum 0 = .ok (.ldc2_w 104, 3) := by decide +kernel
theorem dL_sum_3 : decode cL_sum 3 = .ok (.ldc2_w 104, 3) := by decide +kernel
theorem dL_sum_6 : decode cL_sum 6 = .ok (.ldc2_w 104, 3) := by decide +kernel
theorem dL_sum_9 : decode cL_sum 9 = .ok (.ldc2_w 104, 3) := by decide +kernel
theorem dL_sum_12 : decode cL_sum 12 = .ok (.aload_n 0, 1) := by decide +kernel
theorem dL_sum_13 : decode cL_sum 13 = .ok (.invokevirtual 106, 3) := by decide +kernel
theorem dL_sum_16 : decode cL_sum 16 = .ok (.i2l, 1) := by decide +kernel
theorem dL_sum_17 : decode cL_sum 17 = .ok (.lmul, 1) := by decide +kernel
theorem dL_sum_18 : decode cL_sum 18 = .ok (.aload_n 0, 1) := by decide +kernel
theorem dL_sum_19 : decode cL_sum 19 = .ok (.invokevirtual 109, 3) := by decide +kernel
theorem dL_sum_22 : decode cL_sum 22 = .ok (.i2l, 1) := by decide +kernel
theorem dL_sum_23 : decode cL_sum 23 = .ok (.ladd, 1) := by decide +kernel
theorem dL_sum_24 : decode cL_sum 24 = .ok (.lmul, 1) := by decide +kernel
theorem dL_sum_25 : decode cL_sum 25 = .ok (.aload_n 0, 1) := by decide +kernel
theorem dL_sum_26 : decode cL_sum 26 = .ok (.invokevirtual 112, 3) := by decide +kernel
theorem dL_sum_29 : decode cL_sum 29 = .ok (.i2l, 1) := by decide +kernel
theorem dL_sum_30 : decode cL_sum 30 = .ok (.ladd, 1) := by decide +kernel
theorem dL_sum_31 : decode cL_sum 31 = .ok (.lmul, 1) := by decide +kernel
theorem dL_sum_32 : decode cL_sum 32 = .ok (.aload_n 0, 1) := by decide +kernel
theorem dL_sum_33 : decode cL_sum 33 = .ok (.invokevirtual 115, 3) := by decide +kernel
theorem dL_sum_36 : decode cL_sum 36 = .ok (.i2l, 1) := by decide +kernel
theorem dL_sum_37 : decode cL_sum 37 = .ok (.ladd, 1) := by decide +kernel
theorem dL_sum_38 : decode cL_sum 38 = .ok (.lmul, 1) := by decide +kernel
theorem dL_sum_39 : decode cL_sum 39 = .ok (.aload_n 0, 1) := by decide +kernel
theorem dL_sum_40 : decode cL_sum 40 = .ok (.invokevirtual 118, 3) := by decide +kernel
theorem dL_sum_43 : decode cL_sum 43 = .ok (.i2l, 1) := by decide +kernel
theorem dL_sum_44 : decode cL_sum 44 = .ok (.ladd, 1) := by decide +kernel
theorem dL_sum_45 : decode cL_sum 45 = .ok (.lstore_n 1, 1) := by decide +kernel
theorem dL_sum_46 : decode cL_sum 46 = .ok (.iconst 0, 1) := by decide +kernel
theorem dL_sum_47 : decode cL_sum 47 = .ok (.istore_n 3, 1) := by decide +kernel
theorem dL_sum_48 : decode cL_sum 48 = .ok (.iload_n 3, 1) := by decide +kernel
theorem dL_sum_49 : decode cL_sum 49 = .ok (.aload_n 0, 1) := by decide +kernel
theorem dL_sum_50 : decode cL_sum 50 = .ok (.invokevirtual 121, 3) := by decide +kernel
theorem dL_sum_53 : decode cL_sum 53 = .ok (.if_icmp .ge 90, 3) := by decide +kernel
theorem dL_sum_56 : decode cL_sum 56 = .ok (.ldc2_w 104, 3) := by decide +kernel
theorem dL_sum_59 : decode cL_sum 59 = .ok (.ldc2_w 104, 3) := by decide +kernel
theorem dL_sum_62 : decode cL_sum 62 = .ok (.ldc2_w 104, 3) := by decide +kernel
theorem dL_sum_65 : decode cL_sum 65 = .ok (.ldc2_w 104, 3) := by decide +kernel
theorem dL_sum_68 : decode cL_sum 68 = .ok (.lload_n 1, 1) := by decide +kernel
theorem dL_sum_69 : decode cL_sum 69 = .ok (.lmul, 1) := by decide +kernel
theorem dL_sum_70 : decode cL_sum 70 = .ok (.aload_n 0, 1) := by decide +kernel
theorem dL_sum_71 : decode cL_sum 71 = .ok (.iload_n 3, 1) := by decide +kernel
theorem dL_sum_72 : decode cL_sum 72 = .ok (.invokevirtual 124, 3) := by decide +kernel
theorem dL_sum_75 : decode cL_sum 75 = .ok (.i2l, 1) := by decide +kernel
theorem dL_sum_76 : decode cL_sum 76 = .ok (.ladd, 1) := by decide +kernel
theorem dL_sum_77 : decode cL_sum 77 = .ok (.lmul, 1) := by decide +kernel
theorem dL_sum_78 : decode cL_sum 78 = .ok (.aload_n 0, 1) := by decide +kernel
theorem dL_sum_79 : decode cL_sum 79 = .ok (.iload_n 3, 1) := by decide +kernel
theorem dL_sum_80 : decode cL_sum 80 = .ok (.invokevirtual 127, 3) := by decide +kernel
theorem dL_sum_83 : decode cL_sum 83 = .ok (.i2l, 1) := by decide +kernel
theorem dL_sum_84 : decode cL_sum 84 = .ok (.ladd, 1) := by decide +kernel
theorem dL_sum_85 : decode cL_sum 85 = .ok (.lmul, 1) := by decide +kernel
theorem dL_sum_86 : decode cL_sum 86 = .ok (.aload_n 0, 1) := by decide +kernel
theorem dL_sum_87 : decode cL_sum 87 = .ok (.iload_n 3, 1) := by decide +kernel
theorem dL_sum_88 : decode cL_sum 88 = .ok (.invokevirtual 130, 3) := by decide +kernel
theorem dL_sum_91 : decode cL_sum 91 = .ok (.i2l, 1) := by decide +kernel
theorem dL_sum_92 : decode cL_sum 92 = .ok (.ladd, 1) := by decide +kernel
theorem dL_sum_93 : decode cL_sum 93 = .ok (.lmul, 1) := by decide +kernel
theorem dL_sum_94 : decode cL_sum 94 = .ok (.aload_n 0, 1) := by decide +kernel
theorem dL_sum_95 : decode cL_sum 95 = .ok (.iload_n 3, 1) := by decide +kernel
theorem dL_sum_96 : decode cL_sum 96 = .ok (.invokevirtual 133, 3) := by decide +kernel
theorem dL_sum_99 : decode cL_sum 99 = .ok (.i2l, 1) := by decide +kernel
theorem dL_sum_100 : decode cL_sum 100 = .ok (.ladd, 1) := by decide +kernel
theorem dL_sum_101 : decode cL_sum 101 = .ok (.lstore_n 1, 1) := by decide +kernel
theorem dL_sum_102 : decode cL_sum 102 = .ok (.ldc2_w 104, 3) := by decide +kernel
theorem dL_sum_105 : decode cL_sum 105 = .ok (.ldc2_w 104, 3) := by decide +kernel
theorem dL_sum_108 : decode cL_sum 108 = .ok (.ldc2_w 104, 3) := by decide +kernel
theorem dL_sum_111 : decode cL_sum 111 = .ok (.lload_n 1, 1) := by decide +kernel
theorem dL_sum_112 : decode cL_sum 112 = .ok (.lmul, 1) := by decide +kernel
theorem dL_sum_113 : decode cL_sum 113 = .ok (.aload_n 0, 1) := by decide +kernel
theorem dL_sum_114 : decode cL_sum 114 = .ok (.iload_n 3, 1) := by decide +kernel
theorem dL_sum_115 : decode cL_sum 115 = .ok (.invokevirtual 136, 3) := by decide +kernel
theorem dL_sum_118 : decode cL_sum 118 = .ok (.i2l, 1) := by decide +kernel
theorem dL_sum_119 : decode cL_sum 119 = .ok (.ladd, 1) := by decide +kernel
theorem dL_sum_120 : decode cL_sum 120 = .ok (.lmul, 1) := by decide +kernel
theorem dL_sum_121 : decode cL_sum 121 = .ok (.aload_n 0, 1) := by decide +kernel
theorem dL_sum_122 : decode cL_sum 122 = .ok (.iload_n 3, 1) := by decide +kernel
theorem dL_sum_123 : decode cL_sum 123 = .ok (.invokevirtual 139, 3) := by decide +kernel
theorem dL_sum_126 : decode cL_sum 126 = .ok (.i2l, 1) := by decide +kernel
theorem dL_sum_127 : decode cL_sum 127 = .ok (.ladd, 1) := by decide +kernel
theorem dL_sum_128 : decode cL_sum 128 = .ok (.lmul, 1) := by decide +kernel
theorem dL_sum_129 : decode cL_sum 129 = .ok (.aload_n 0, 1) := by decide +kernel
theorem dL_sum_130 : decode cL_sum 130 = .ok (.iload_n 3, 1) := by decide +kernel
theorem dL_sum_131 : decode cL_sum 131 = .ok (.invokevirtual 142, 3) := by decide +kernel
theorem dL_sum_134 : decode cL_sum 134 = .ok (.i2l, 1) := by decide +kernel
theorem dL_sum_135 : decode cL_sum 135 = .ok (.ladd, 1) := by decide +kernel
theorem dL_sum_136 : decode cL_sum 136 = .ok (.lstore_n 1, 1) := by decide +kernel
theorem dL_sum_137 : decode cL_sum 137 = .ok (.iinc 3 1, 3) := by decide +kernel
theorem dL_sum_140 : decode cL_sum 140 = .ok (.goto (-92), 3) := by decide +kernel
theorem dL_sum_143 : decode cL_sum 143 = .ok (.lload_n 1, 1) := by decide +kernel
theorem dL_sum_144 : decode cL_sum 144 = .ok (.lreturn, 1) := by decide +kernel
theorem dL_instruments_0 : decode cL_instruments 0 = .ok (.aload_n 0, 1) := by decide +kernel
theorem dL_instruments_1 : decode cL_instruments 1 = .ok (.invokevirtual 145, 3) := by decide +kernel
theorem dL_instruments_4 : decode cL_instruments 4 = .ok (.ifCond .ne 7, 3) := by decide +kernel
theorem dL_instruments_7 : decode cL_instruments 7 = .ok (.iconst 1, 1) := by decide +kernel
theorem dL_instruments_8 : decode cL_instruments 8 = .ok (.goto 4, 3) := by decide +kernel
theorem dL_instruments_11 : decode cL_instruments 11 = .ok (.iconst 0, 1) := by decide +kernel
theorem dL_instruments_12 : decode cL_instruments 12 = .ok (.istore_n 1, 1) := by decide +kernel
theorem dL_instruments_13 : decode cL_instruments 13 = .ok (.iconst 0, 1) := by decide +kernel
theorem dL_instruments_14 : decode cL_instruments 14 = .ok (.istore_n 2, 1) := by decide +kernel
theorem dL_instruments_15 : decode cL_instruments 15 = .ok (.iload_n 2, 1) := by decide +kernel
theorem dL_instruments_16 : decode cL_instruments 16 = .ok (.aload_n 0, 1) := by decide +kernel
theorem dL_instruments_17 : decode cL_instruments 17 = .ok (.invokevirtual 121, 3) := by decide +kernel
theorem dL_instruments_20 : decode cL_instruments 20 = .ok (.if_icmp .ge 431, 3) := by decide +kernel
theorem dL_instruments_23 : decode cL_instruments 23 = .ok (.iload_n 1, 1) := by decide +kernel
theorem dL_instruments_24 : decode cL_instruments 24 = .ok (.ifCond .eq 427, 3) := by decide +kernel
theorem dL_instruments_27 : decode cL_instruments 27 = .ok (.aload_n 0, 1) := by decide +kernel
theorem dL_instruments_28 : decode cL_instruments 28 = .ok (.iload_n 2, 1) := by decide +kernel
theorem dL_instruments_29 : decode cL_instruments 29 = .ok (.invokevirtual 148, 3) := by decide +kernel
theorem dL_instruments_32 : decode cL_instruments 32 = .ok (.istore_n 3, 1) := by decide +kernel
theorem dL_instruments_33 : decode cL_instruments 33 = .ok (.aload_n 0, 1) := by decide +kernel
theorem dL_instruments_34 : decode cL_instruments 34 = .ok (.iload_n 2, 1) := by decide +kernel
theorem dL_instruments_35 : decode cL_instruments 35 = .ok (.invokevirtual 142, 3) := by decide +kernel
theorem dL_instruments_38 : decode cL_instruments 38 = .ok (.iconst (-1), 1) := by decide +kernel
theorem dL_instruments_39 : decode cL_instruments 39 = .ok (.if_icmp .ne 7, 3) := by decide +kernel
theorem dL_instruments_42 : decode cL_instruments 42 = .ok (.iconst 1, 1) := by decide +kernel
theorem dL_instruments_43 : decode cL_instruments 43 = .ok (.goto 4, 3) := by decide +kernel
theorem dL_instruments_46 : decode cL_instruments 46 = .ok (.iconst 0, 1) := by decide +kernel
theorem dL_instruments_47 : decode cL_instruments 47 = .ok (.istore 4, 2) := by decide +kernel
theorem dL_instruments_49 : decode cL_instruments 49 = .ok (.iload 4, 2) := by decide +kernel
theorem dL_instruments_51 : decode cL_instruments 51 = .ok (.ifCond .eq 10, 3) := by decide +kernel
theorem dL_instruments_54 : decode cL_instruments 54 = .ok (.aload_n 0, 1) := by decide +kernel
theorem dL_instruments_55 : decode cL_instruments 55 = .ok (.invokevirtual 109, 3) := by decide +kernel
theorem dL_instruments_58 : decode cL_instruments 58 = .ok (.goto 12, 3) := by decide +kernel
theorem dL_instruments_61 : decode cL_instruments 61 = .ok (.aload_n 0, 1) := by decide +kernel
theorem dL_instruments_62 : decode cL_instruments 62 = .ok (.aload_n 0, 1) := by decide +kernel
theorem dL_instruments_63 : decode cL_instruments 63 = .ok (.iload_n 2, 1) := by decide +kernel
theorem dL_instruments_64 : decode cL_instruments 64 = .ok (.invokevirtual 142, 3) := by decide +kernel
theorem dL_instruments_67 : decode cL_instruments 67 = .ok (.invokevirtual 152, 3) := by decide +kernel
theorem dL_instruments_70 : decode cL_instruments 70 = .ok (.istore 5, 2) := by decide +kernel
theorem dL_instruments_72 : decode cL_instruments 72 = .ok (.aload_n 0, 1) := by decide +kernel
theorem dL_instruments_73 : decode cL_instruments 73 = .ok (.invokevirtual 112, 3) := by decide +kernel
theorem dL_instruments_76 : decode cL_instruments 76 = .ok (.bipush 10, 2) := by decide +kernel
theorem dL_instruments_78 : decode cL_instruments 78 = .ok (.iadd, 1) := by decide +kernel
theorem dL_instruments_79 : decode cL_instruments 79 = .ok (.istore 6, 2) := by decide +kernel
theorem dL_instruments_81 : decode cL_instruments 81 = .ok (.aload_n 0, 1) := by decide +kernel
theorem dL_instruments_82 : decode cL_instruments 82 = .ok (.iload_n 2, 1) := by decide +kernel
theorem dL_instruments_83 : decode cL_instruments 83 = .ok (.invokevirtual 136, 3) := by decide +kernel
theorem dL_instruments_86 : decode cL_instruments 86 = .ok (.ifCond .le 17, 3) := by decide +kernel
theorem dL_instruments_89 : decode cL_instruments 89 = .ok (.bipush 100, 2) := by decide +kernel
theorem dL_instruments_91 : decode cL_instruments 91 = .ok (.iload 5, 2) := by decide +kernel
theorem dL_instruments_93 : decode cL_instruments 93 = .ok (.isub, 1) := by decide +kernel
theorem dL_instruments_94 : decode cL_instruments 94 = .ok (.iload 6, 2) := by decide +kernel
theorem dL_instruments_96 : decode cL_instruments 96 = .ok (.imul, 1) := by decide +kernel
theorem dL_instruments_97 : decode cL_instruments 97 = .ok (.bipush 100, 2) := by decide +kernel
theorem dL_instruments_99 : decode cL_instruments 99 = .ok (.idiv, 1) := by decide +kernel
theorem dL_instruments_100 : decode cL_instruments 100 = .ok (.goto 4, 3) := by decide +kernel
theorem dL_instruments_103 : decode cL_instruments 103 = .ok (.iconst 0, 1) := by decide +kernel
theorem dL_instruments_104 : decode cL_instruments 104 = .ok (.istore 7, 2) := by decide +kernel
theorem dL_instruments_106 : decode cL_instruments 106 = .ok (.iload_n 3, 1) := by decide +kernel
theorem dL_instruments_107 : decode cL_instruments 107 = .ok (.ifCond .eq 19, 3) := by decide +kernel
theorem dL_instruments_110 : decode cL_instruments 110 = .ok (.aload_n 0, 1) := by decide +kernel
theorem dL_instruments_111 : decode cL_instruments 111 = .ok (.iload_n 2, 1) := by decide +kernel
theorem dL_instruments_112 : decode cL_instruments 112 = .ok (.invokevirtual 130, 3) := by decide +kernel
theorem dL_instruments_115 : decode cL_instruments 115 = .ok (.aload_n 0, 1) := by decide +kernel
theorem dL_instruments_116 : decode cL_instruments 116 = .ok (.iload_n 2, 1) := by decide +kernel
theorem dL_instruments_117 : decode cL_instruments 117 = .ok (.invokevirtual 133, 3) := by decide +kernel
theorem dL_instruments_120 : decode cL_instruments 120 = .ok (.iconst 5, 1) := by decide +kernel
theorem dL_instruments_121 : decode cL_instruments 121 = .ok (.idiv, 1) := by decide +kernel
theorem dL_instruments_122 : decode cL_instruments 122 = .ok (.isub, 1) := by decide +kernel
theorem dL_instruments_123 : decode cL_instruments 123 = .ok (.goto 14, 3) := by decide +kernel
theorem dL_instruments_126 : decode cL_instruments 126 = .ok (.bipush 100, 2) := by decide +kernel
theorem dL_instruments_128 : decode cL_instruments 128 = .ok (.iload 7, 2) := by decide +kernel
theorem dL_instruments_130 : decode cL_instruments 130 = .ok (.bipush 100, 2) := by decide +kernel
theorem dL_instruments_132 : decode cL_instruments 132 = .ok (.imul, 1) := by decide +kernel
theorem dL_instruments_133 : decode cL_instruments 133 = .ok (.iload 6, 2) := by decide +kernel
theorem dL_instruments_135 : decode cL_instruments 135 = .ok (.idiv, 1) := by decide +kernel
theorem dL_instruments_136 : decode cL_instruments 136 = .ok (.isub, 1) := by decide +kernel
theorem dL_instruments_137 : decode cL_instruments 137 = .ok (.istore 8, 2) := by decide +kernel
theorem dL_instruments_139 : decode cL_instruments 139 = .ok (.iconst 0, 1) := by decide +kernel
theorem dL_instruments_140 : decode cL_instruments 140 = .ok (.bipush 100, 2) := by decide +kernel
theorem dL_instruments_142 : decode cL_instruments 142 = .ok (.iload 8, 2) := by decide +kernel
theorem dL_instruments_144 : decode cL_instruments 144 = .ok (.aload_n 0, 1) := by decide +kernel
theorem dL_instruments_145 : decode cL_instruments 145 = .ok (.iload_n 2, 1) := by decide +kernel
theorem dL_instruments_146 : decode cL_instruments 146 = .ok (.invokevirtual 139, 3) := by decide +kernel
theorem dL_instruments_149 : decode cL_instruments 149 = .ok (.iadd, 1) := by decide +kernel
theorem dL_instruments_150 : decode cL_instruments 150 = .ok (.invokestatic 155, 3) := by decide +kernel
theorem dL_instruments_153 : decode cL_instruments 153 = .ok (.invokestatic 160, 3) := by decide +kernel
theorem dL_instruments_156 : decode cL_instruments 156 = .ok (.istore 9, 2) := by decide +kernel
theorem dL_instruments_158 : decode cL_instruments 158 = .ok (.iload_n 3, 1) := by decide +kernel
theorem dL_instruments_159 : decode cL_instruments 159 = .ok (.ifCond .eq 21, 3) := by decide +kernel
theorem dL_instruments_162 : decode cL_instruments 162 = .ok (.aload_n 0, 1) := by decide +kernel
theorem dL_instruments_163 : decode cL_instruments 163 = .ok (.iload_n 2, 1) := by decide +kernel
theorem dL_instruments_164 : decode cL_instruments 164 = .ok (.invokevirtual 130, 3) := by decide +kernel
theorem dL_instruments_167 : decode cL_instruments 167 = .ok (.iload 5, 2) := by decide +kernel
theorem dL_instruments_169 : decode cL_instruments 169 = .ok (.if_icmp .ne 7, 3) := by decide +kernel
theorem dL_instruments_172 : decode cL_instruments 172 = .ok (.iconst 1, 1) := by decide +kernel
theorem dL_instruments_173 : decode cL_instruments 173 = .ok (.goto 20, 3) := by decide +kernel
theorem dL_instruments_176 : decode cL_instruments 176 = .ok (.iconst 0, 1) := by decide +kernel
theorem dL_instruments_177 : decode cL_instruments 177 = .ok (.goto 16, 3) := by decide +kernel
theorem dL_instruments_180 : decode cL_instruments 180 = .ok (.aload_n 0, 1) := by decide +kernel
theorem dL_instruments_181 : decode cL_instruments 181 = .ok (.iload_n 2, 1) := by decide +kernel
theorem dL_instruments_182 : decode cL_instruments 182 = .ok (.invokevirtual 136, 3) := by decide +kernel
theorem dL_instruments_185 : decode cL_instruments 185 = .ok (.ifCond .le 7, 3) := by decide +kernel
theorem dL_instruments_188 : decode cL_instruments 188 = .ok (.iconst 1, 1) := by decide +kernel
theorem dL_instruments_189 : decode cL_instruments 189 = .ok (.goto 4, 3) := by decide +kernel
theorem dL_instruments_192 : decode cL_instruments 192 = .ok (.iconst 0, 1) := by decide +kernel
theorem dL_instruments_193 : decode cL_instruments 193 = .ok (.istore 10, 2) := by decide +kernel
theorem dL_instruments_195 : decode cL_instruments 195 = .ok (.iload 4, 2) := by decide +kernel
theorem dL_instruments_197 : decode cL_instruments 197 = .ok (.ifCond .ne 7, 3) := by decide +kernel
theorem dL_instruments_200 : decode cL_instruments 200 = .ok (.iconst 1, 1) := by decide +kernel
theorem dL_instruments_201 : decode cL_instruments 201 = .ok (.goto 38, 3) := by decide +kernel
theorem dL_instruments_204 : decode cL_instruments 204 = .ok (.aload_n 0, 1) := by decide +kernel
theorem dL_instruments_205 : decode cL_instruments 205 = .ok (.iload_n 2, 1) := by decide +kernel
theorem dL_instruments_206 : decode cL_instruments 206 = .ok (.invokevirtual 124, 3) := by decide +kernel
theorem dL_instruments_209 : decode cL_instruments 209 = .ok (.ifCond .eq 11, 3) := by decide +kernel
theorem dL_instruments_212 : decode cL_instruments 212 = .ok (.aload_n 0, 1) := by decide +kernel
theorem dL_instruments_213 : decode cL_instruments 213 = .ok (.iload_n 2, 1) := by decide +kernel
theorem dL_instruments_214 : decode cL_instruments 214 = .ok (.invokevirtual 136, 3) := by decide +kernel
theorem dL_instruments_217 : decode cL_instruments 217 = .ok (.ifCond .ne 7, 3) := by decide +kernel
theorem dL_instruments_220 : decode cL_instruments 220 = .ok (.iconst 2, 1) := by decide +kernel
theorem dL_instruments_221 : decode cL_instruments 221 = .ok (.goto 18, 3) := by decide +kernel
theorem dL_instruments_224 : decode cL_instruments 224 = .ok (.aload_n 0, 1) := by decide +kernel
theorem dL_instruments_225 : decode cL_instruments 225 = .ok (.iload_n 2, 1) := by decide +kernel
theorem dL_instruments_226 : decode cL_instruments 226 = .ok (.invokevirtual 133, 3) := by decide +kernel
theorem dL_instruments_229 : decode cL_instruments 229 = .ok (.bipush 25, 2) := by decide +kernel
theorem dL_instruments_231 : decode cL_instruments 231 = .ok (.if_icmp .le 7, 3) := by decide +kernel
theorem dL_instruments_234 : decode cL_instruments 234 = .ok (.iconst 3, 1) := by decide +kernel
theorem dL_instruments_235 : decode cL_instruments 235 = .ok (.goto 4, 3) := by decide +kernel
theorem dL_instruments_238 : decode cL_instruments 238 = .ok (.iconst 0, 1) := by decide +kernel
theorem dL_instruments_239 : decode cL_instruments 239 = .ok (.istore 11, 2) := by decide +kernel
theorem dL_instruments_241 : decode cL_instruments 241 = .ok (.iload 11, 2) := by decide +kernel
theorem dL_instruments_243 : decode cL_instruments 243 = .ok (.ifCond .eq 7, 3) := by decide +kernel
theorem dL_instruments_246 : decode cL_instruments 246 = .ok (.iconst 0, 1) := by decide +kernel
theorem dL_instruments_247 : decode cL_instruments 247 = .ok (.goto 16, 3) := by decide +kernel
theorem dL_instruments_250 : decode cL_instruments 250 = .ok (.iload_n 3, 1) := by decide +kernel
theorem dL_instruments_251 : decode cL_instruments 251 = .ok (.ifCond .eq 11, 3) := by decide +kernel
theorem dL_instruments_254 : decode cL_instruments 254 = .ok (.aload_n 0, 1) := by decide +kernel
theorem dL_instruments_255 : decode cL_instruments 255 = .ok (.iload_n 2, 1) := by decide +kernel
theorem dL_instruments_256 : decode cL_instruments 256 = .ok (.invokevirtual 124, 3) := by decide +kernel
theorem dL_instruments_259 : decode cL_instruments 259 = .ok (.goto 4, 3) := by decide +kernel
theorem dL_instruments_262 : decode cL_instruments 262 = .ok (.iconst 5, 1) := by decide +kernel
theorem dL_instruments_263 : decode cL_instruments 263 = .ok (.istore 12, 2) := by decide +kernel
theorem dL_instruments_265 : decode cL_instruments 265 = .ok (.aload_n 0, 1) := by decide +kernel
theorem dL_instruments_266 : decode cL_instruments 266 = .ok (.iload_n 2, 1) := by decide +kernel
theorem dL_instruments_267 : decode cL_instruments 267 = .ok (.invokevirtual 163, 3) := by decide +kernel
theorem dL_instruments_270 : decode cL_instruments 270 = .ok (.istore 13, 2) := by decide +kernel
theorem dL_instruments_272 : decode cL_instruments 272 = .ok (.aload_n 0, 1) := by decide +kernel
theorem dL_instruments_273 : decode cL_instruments 273 = .ok (.iload_n 2, 1) := by decide +kernel
theorem dL_instruments_274 : decode cL_instruments 274 = .ok (.invokevirtual 166, 3) := by decide +kernel
theorem dL_instruments_277 : decode cL_instruments 277 = .ok (.iload 5, 2) := by decide +kernel
theorem dL_instruments_279 : decode cL_instruments 279 = .ok (.if_icmp .ne 164, 3) := by decide +kernel
theorem dL_instruments_282 : decode cL_instruments 282 = .ok (.aload_n 0, 1) := by decide +kernel
theorem dL_instruments_283 : decode cL_instruments 283 = .ok (.iload_n 2, 1) := by decide +kernel
theorem dL_instruments_284 : decode cL_instruments 284 = .ok (.invokevirtual 169, 3) := by decide +kernel
theorem dL_instruments_287 : decode cL_instruments 287 = .ok (.iload_n 3, 1) := by decide +kernel
theorem dL_instruments_288 : decode cL_instruments 288 = .ok (.ifCond .eq 7, 3) := by decide +kernel
theorem dL_instruments_291 : decode cL_instruments 291 = .ok (.iconst (-1), 1) := by decide +kernel
theorem dL_instruments_292 : decode cL_instruments 292 = .ok (.goto 5, 3) := by decide +kernel
theorem dL_instruments_295 : decode cL_instruments 295 = .ok (.iload 7, 2) := by decide +kernel
theorem dL_instruments_297 : decode cL_instruments 297 = .ok (.if_icmp .ne 146, 3) := by decide +kernel
theorem dL_instruments_300 : decode cL_instruments 300 = .ok (.aload_n 0, 1) := by decide +kernel
theorem dL_instruments_301 : decode cL_instruments 301 = .ok (.iload_n 2, 1) := by decide +kernel
theorem dL_instruments_302 : decode cL_instruments 302 = .ok (.invokevirtual 172, 3) := by decide +kernel
theorem dL_instruments_305 : decode cL_instruments 305 = .ok (.iload 8, 2) := by decide +kernel
theorem dL_instruments_307 : decode cL_instruments 307 = .ok (.if_icmp .ne 136, 3) := by decide +kernel
theorem dL_instruments_310 : decode cL_instruments 310 = .ok (.aload_n 0, 1) := by decide +kernel
theorem dL_instruments_311 : decode cL_instruments 311 = .ok (.iload_n 2, 1) := by decide +kernel
theorem dL_instruments_312 : decode cL_instruments 312 = .ok (.invokevirtual 175, 3) := by decide +kernel
theorem dL_instruments_315 : decode cL_instruments 315 = .ok (.iload 9, 2) := by decide +kernel
theorem dL_instruments_317 : decode cL_instruments 317 = .ok (.if_icmp .ne 126, 3) := by decide +kernel
theorem dL_instruments_320 : decode cL_instruments 320 = .ok (.aload_n 0, 1) := by decide +kernel
theorem dL_instruments_321 : decode cL_instruments 321 = .ok (.iload_n 2, 1) := by decide +kernel
theorem dL_instruments_322 : decode cL_instruments 322 = .ok (.invokevirtual 178, 3) := by decide +kernel
theorem dL_instruments_325 : decode cL_instruments 325 = .ok (.iload 9, 2) := by decide +kernel
theorem dL_instruments_327 : decode cL_instruments 327 = .ok (.iload 5, 2) := by decide +kernel
theorem dL_instruments_329 : decode cL_instruments 329 = .ok (.isub, 1) := by decide +kernel
theorem dL_instruments_330 : decode cL_instruments 330 = .ok (.if_icmp .ne 113, 3) := by decide +kernel
theorem dL_instruments_333 : decode cL_instruments 333 = .ok (.aload_n 0, 1) := by decide +kernel
theorem dL_instruments_334 : decode cL_instruments 334 = .ok (.iload_n 2, 1) := by decide +kernel
theorem dL_instruments_335 : decode cL_instruments 335 = .ok (.invokevirtual 181, 3) := by decide +kernel
theorem dL_instruments_338 : decode cL_instruments 338 = .ok (.iload 10, 2) := by decide +kernel
theorem dL_instruments_340 : decode cL_instruments 340 = .ok (.if_icmp .ne 103, 3) := by decide +kernel
theorem dL_instruments_343 : decode cL_instruments 343 = .ok (.aload_n 0, 1) := by decide +kernel
theorem dL_instruments_344 : decode cL_instruments 344 = .ok (.iload_n 2, 1) := by decide +kernel
theorem dL_instruments_345 : decode cL_instruments 345 = .ok (.invokevirtual 184, 3) := by decide +kernel
theorem dL_instruments_348 : decode cL_instruments 348 = .ok (.iload 11, 2) := by decide +kernel
theorem dL_instruments_350 : decode cL_instruments 350 = .ok (.if_icmp .ne 93, 3) := by decide +kernel
theorem dL_instruments_353 : decode cL_instruments 353 = .ok (.aload_n 0, 1) := by decide +kernel
theorem dL_instruments_354 : decode cL_instruments 354 = .ok (.iload_n 2, 1) := by decide +kernel
theorem dL_instruments_355 : decode cL_instruments 355 = .ok (.invokevirtual 187, 3) := by decide +kernel
theorem dL_instruments_358 : decode cL_instruments 358 = .ok (.iload 12, 2) := by decide +kernel
theorem dL_instruments_360 : decode cL_instruments 360 = .ok (.if_icmp .ne 83, 3) := by decide +kernel
theorem dL_instruments_363 : decode cL_instruments 363 = .ok (.aload_n 0, 1) := by decide +kernel
theorem dL_instruments_364 : decode cL_instruments 364 = .ok (.iload_n 2, 1) := by decide +kernel
theorem dL_instruments_365 : decode cL_instruments 365 = .ok (.invokevirtual 190, 3) := by decide +kernel
theorem dL_instruments_368 : decode cL_instruments 368 = .ok (.iload 4, 2) := by decide +kernel
theorem dL_instruments_370 : decode cL_instruments 370 = .ok (.ifCond .eq 7, 3) := by decide +kernel
theorem dL_instruments_373 : decode cL_instruments 373 = .ok (.iconst 1, 1) := by decide +kernel
theorem dL_instruments_374 : decode cL_instruments 374 = .ok (.goto 13, 3) := by decide +kernel
theorem dL_instruments_377 : decode cL_instruments 377 = .ok (.iload 10, 2) := by decide +kernel
theorem dL_instruments_379 : decode cL_instruments 379 = .ok (.ifCond .eq 7, 3) := by decide +kernel
theorem dL_instruments_382 : decode cL_instruments 382 = .ok (.iconst 0, 1) := by decide +kernel
theorem dL_instruments_383 : decode cL_instruments 383 = .ok (.goto 4, 3) := by decide +kernel
theorem dL_instruments_386 : decode cL_instruments 386 = .ok (.iconst 2, 1) := by decide +kernel
theorem dL_instruments_387 : decode cL_instruments 387 = .ok (.if_icmp .ne 56, 3) := by decide +kernel
theorem dL_instruments_390 : decode cL_instruments 390 = .ok (.iload 13, 2) := by decide +kernel
theorem dL_instruments_392 : decode cL_instruments 392 = .ok (.ifCond .ne 7, 3) := by decide +kernel
theorem dL_instruments_395 : decode cL_instruments 395 = .ok (.iconst 1, 1) := by decide +kernel
theorem dL_instruments_396 : decode cL_instruments 396 = .ok (.goto 4, 3) := by decide +kernel
theorem dL_instruments_399 : decode cL_instruments 399 = .ok (.iconst 0, 1) := by decide +kernel
theorem dL_instruments_400 : decode cL_instruments 400 = .ok (.iload_n 3, 1) := by decide +kernel
theorem dL_instruments_401 : decode cL_instruments 401 = .ok (.iload 10, 2) := by decide +kernel
theorem dL_instruments_403 : decode cL_instruments 403 = .ok (.if_icmp .ne 7, 3) := by decide +kernel
theorem dL_instruments_406 : decode cL_instruments 406 = .ok (.iconst 1, 1) := by decide +kernel
theorem dL_instruments_407 : decode cL_instruments 407 = .ok (.goto 4, 3) := by decide +kernel
theorem dL_instruments_410 : decode cL_instruments 410 = .ok (.iconst 0, 1) := by decide +kernel
theorem dL_instruments_411 : decode cL_instruments 411 = .ok (.if_icmp .ne 32, 3) := by decide +kernel
theorem dL_instruments_414 : decode cL_instruments 414 = .ok (.iload 13, 2) := by decide +kernel
theorem dL_instruments_416 : decode cL_instruments 416 = .ok (.iconst (-1), 1) := by decide +kernel
theorem dL_instruments_417 : decode cL_instruments 417 = .ok (.if_icmp .ne 11, 3) := by decide +kernel
theorem dL_instruments_420 : decode cL_instruments 420 = .ok (.aload_n 0, 1) := by decide +kernel
theorem dL_instruments_421 : decode cL_instruments 421 = .ok (.iload_n 2, 1) := by decide +kernel
theorem dL_instruments_422 : decode cL_instruments 422 = .ok (.invokevirtual 124, 3) := by decide +kernel
theorem dL_instruments_425 : decode cL_instruments 425 = .ok (.ifCond .ne 18, 3) := by decide +kernel
theorem dL_instruments_428 : decode cL_instruments 428 = .ok (.aload_n 0, 1) := by decide +kernel
theorem dL_instruments_429 : decode cL_instruments 429 = .ok (.iload_n 2, 1) := by decide +kernel
theorem dL_instruments_430 : decode cL_instruments 430 = .ok (.iconst 0, 1) := by decide +kernel
theorem dL_instruments_431 : decode cL_instruments 431 = .ok (.invokevirtual 193, 3) := by decide +kernel
theorem dL_instruments_434 : decode cL_instruments 434 = .ok (.iload 9, 2) := by decide +kernel
theorem dL_instruments_436 : decode cL_instruments 436 = .ok (.if_icmp .ne 7, 3) := by decide +kernel
theorem dL_instruments_439 : decode cL_instruments 439 = .ok (.iconst 1, 1) := by decide +kernel
theorem dL_instruments_440 : decode cL_instruments 440 = .ok (.goto 4, 3) := by decide +kernel
theorem dL_instruments_443 : decode cL_instruments 443 = .ok (.iconst 0, 1) := by decide +kernel
theorem dL_instruments_444 : decode cL_instruments 444 = .ok (.istore_n 1, 1) := by decide +kernel
theorem dL_instruments_445 : decode cL_instruments 445 = .ok (.iinc 2 1, 3) := by decide +kernel
theorem dL_instruments_448 : decode cL_instruments 448 = .ok (.goto (-433), 3) := by decide +kernel
theorem dL_instruments_451 : decode cL_instruments 451 = .ok (.iload_n 1, 1) := by decide +kernel
theorem dL_instruments_452 : decode cL_instruments 452 = .ok (.ireturn, 1) := by decide +kernel
theorem dL_comparisons_0 : decode cL_comparisons 0 = .ok (.iconst 0, 1) := by decide +kernel
theorem dL_comparisons_1 : decode cL_comparisons 1 = .ok (.istore_n 1, 1) := by decide +kernel
theorem dL_comparisons_2 : decode cL_comparisons 2 = .ok (.iconst 0, 1) := by decide +kernel
theorem dL_comparisons_3 : decode cL_comparisons 3 = .ok (.istore_n 2, 1) := by decide +kernel
theorem dL_comparisons_4 : decode cL_comparisons 4 = .ok (.iconst 0, 1) := by decide +kernel
theorem dL_comparisons_5 : decode cL_comparisons 5 = .ok (.istore_n 3, 1) := by decide +kernel
theorem dL_comparisons_6 : decode cL_comparisons 6 = .ok (.iconst 0, 1) := by decide +kernel
theorem dL_comparisons_7 : decode cL_comparisons 7 = .ok (.istore 4, 2) := by decide +kernel
theorem dL_comparisons_9 : decode cL_comparisons 9 = .ok (.iconst (-1), 1) := by decide +kernel
theorem dL_comparisons_10 : decode cL_comparisons 10 = .ok (.istore 5, 2) := by decide +kernel
theorem dL_comparisons_12 : decode cL_comparisons 12 = .ok (.iconst (-1), 1) := by decide +kernel
theorem dL_comparisons_13 : decode cL_comparisons 13 = .ok (.istore 6, 2) := by decide +kernel
theorem dL_comparisons_15 : decode cL_comparisons 15 = .ok (.iconst 0, 1) := by decide +kernel
theorem dL_comparisons_16 : decode cL_comparisons 16 = .ok (.istore 7, 2) := by decide +kernel
theorem dL_comparisons_18 : decode cL_comparisons 18 = .ok (.bipush 100, 2) := by decide +kernel
theorem dL_comparisons_20 : decode cL_comparisons 20 = .ok (.istore 8, 2) := by decide +kernel
theorem dL_comparisons_22 : decode cL_comparisons 22 = .ok (.iconst 0, 1) := by decide +kernel
theorem dL_comparisons_23 : decode cL_comparisons 23 = .ok (.istore 9, 2) := by decide +kernel
theorem dL_comparisons_25 : decode cL_comparisons 25 = .ok (.aload_n 0, 1) := by decide +kernel
theorem dL_comparisons_26 : decode cL_comparisons 26 = .ok (.invokevirtual 121, 3) := by decide +kernel
theorem dL_comparisons_29 : decode cL_comparisons 29 = .ok (.istore 10, 2) := by decide +kernel
theorem dL_comparisons_31 : decode cL_comparisons 31 = .ok (.iconst 0, 1) := by decide +kernel
theorem dL_comparisons_32 : decode cL_comparisons 32 = .ok (.istore 11, 2) := by decide +kernel
theorem dL_comparisons_34 : decode cL_comparisons 34 = .ok (.iload 11, 2) := by decide +kernel
theorem dL_comparisons_36 : decode cL_comparisons 36 = .ok (.iload 10, 2) := by decide +kernel
theorem dL_comparisons_38 : decode cL_comparisons 38 = .ok (.if_icmp .ge 233, 3) := by decide +kernel
theorem dL_comparisons_41 : decode cL_comparisons 41 = .ok (.aload_n 0, 1) := by decide +kernel
theorem dL_comparisons_42 : decode cL_comparisons 42 = .ok (.iload 11, 2) := by decide +kernel
theorem dL_comparisons_44 : decode cL_comparisons 44 = .ok (.invokevirtual 175, 3) := by decide +kernel
theorem dL_comparisons_47 : decode cL_comparisons 47 = .ok (.istore 12, 2) := by decide +kernel
theorem dL_comparisons_49 : decode cL_comparisons 49 = .ok (.aload_n 0, 1) := by decide +kernel
theorem dL_comparisons_50 : decode cL_comparisons 50 = .ok (.iload 11, 2) := by decide +kernel
theorem dL_comparisons_52 : decode cL_comparisons 52 = .ok (.invokevirtual 184, 3) := by decide +kernel
theorem dL_comparisons_55 : decode cL_comparisons 55 = .ok (.ifCond .ne 7, 3) := by decide +kernel
theorem dL_comparisons_58 : decode cL_comparisons 58 = .ok (.iconst 1, 1) := by decide +kernel
theorem dL_comparisons_59 : decode cL_comparisons 59 = .ok (.goto 4, 3) := by decide +kernel
theorem dL_comparisons_62 : decode cL_comparisons 62 = .ok (.iconst 0, 1) := by decide +kernel
theorem dL_comparisons_63 : decode cL_comparisons 63 = .ok (.istore 13, 2) := by decide +kernel
theorem dL_comparisons_65 : decode cL_comparisons 65 = .ok (.iload_n 1, 1) := by decide +kernel
theorem dL_comparisons_66 : decode cL_comparisons 66 = .ok (.iload 13, 2) := by decide +kernel
theorem dL_comparisons_68 : decode cL_comparisons 68 = .ok (.ifCond .eq 7, 3) := by decide +kernel
theorem dL_comparisons_71 : decode cL_comparisons 71 = .ok (.iconst 1, 1) := by decide +kernel
theorem dL_comparisons_72 : decode cL_comparisons 72 = .ok (.goto 4, 3) := by decide +kernel
theorem dL_comparisons_75 : decode cL_comparisons 75 = .ok (.iconst 0, 1) := by decide +kernel
theorem dL_comparisons_76 : decode cL_comparisons 76 = .ok (.iadd, 1) := by decide +kernel
theorem dL_comparisons_77 : decode cL_comparisons 77 = .ok (.istore_n 1, 1) := by decide +kernel
theorem dL_comparisons_78 : decode cL_comparisons 78 = .ok (.iload_n 2, 1) := by decide +kernel
theorem dL_comparisons_79 : decode cL_comparisons 79 = .ok (.iload 12, 2) := by decide +kernel
theorem dL_comparisons_81 : decode cL_comparisons 81 = .ok (.aload_n 0, 1) := by decide +kernel
theorem dL_comparisons_82 : decode cL_comparisons 82 = .ok (.iload 11, 2) := by decide +kernel
theorem dL_comparisons_84 : decode cL_comparisons 84 = .ok (.invokevirtual 187, 3) := by decide +kernel
theorem dL_comparisons_87 : decode cL_comparisons 87 = .ok (.imul, 1) := by decide +kernel
theorem dL_comparisons_88 : decode cL_comparisons 88 = .ok (.iadd, 1) := by decide +kernel
theorem dL_comparisons_89 : decode cL_comparisons 89 = .ok (.istore_n 2, 1) := by decide +kernel
theorem dL_comparisons_90 : decode cL_comparisons 90 = .ok (.iload_n 3, 1) := by decide +kernel
theorem dL_comparisons_91 : decode cL_comparisons 91 = .ok (.aload_n 0, 1) := by decide +kernel
theorem dL_comparisons_92 : decode cL_comparisons 92 = .ok (.iload 11, 2) := by decide +kernel
theorem dL_comparisons_94 : decode cL_comparisons 94 = .ok (.invokevirtual 187, 3) := by decide +kernel
theorem dL_comparisons_97 : decode cL_comparisons 97 = .ok (.iadd, 1) := by decide +kernel
theorem dL_comparisons_98 : decode cL_comparisons 98 = .ok (.istore_n 3, 1) := by decide +kernel
theorem dL_comparisons_99 : decode cL_comparisons 99 = .ok (.iload 4, 2) := by decide +kernel
theorem dL_comparisons_101 : decode cL_comparisons 101 = .ok (.iload 12, 2) := by decide +kernel
theorem dL_comparisons_103 : decode cL_comparisons 103 = .ok (.iadd, 1) := by decide +kernel
theorem dL_comparisons_104 : decode cL_comparisons 104 = .ok (.istore 4, 2) := by decide +kernel
theorem dL_comparisons_106 : decode cL_comparisons 106 = .ok (.iload 13, 2) := by decide +kernel
theorem dL_comparisons_108 : decode cL_comparisons 108 = .ok (.ifCond .eq 40, 3) := by decide +kernel
theorem dL_comparisons_111 : decode cL_comparisons 111 = .ok (.iload 5, 2) := by decide +kernel
theorem dL_comparisons_113 : decode cL_comparisons 113 = .ok (.ifCond .lt 30, 3) := by decide +kernel
theorem dL_comparisons_116 : decode cL_comparisons 116 = .ok (.iload 12, 2) := by decide +kernel
theorem dL_comparisons_118 : decode cL_comparisons 118 = .ok (.aload_n 0, 1) := by decide +kernel
theorem dL_comparisons_119 : decode cL_comparisons 119 = .ok (.invokevirtual 109, 3) := by decide +kernel
theorem dL_comparisons_122 : decode cL_comparisons 122 = .ok (.isub, 1) := by decide +kernel
theorem dL_comparisons_123 : decode cL_comparisons 123 = .ok (.invokestatic 196, 3) := by decide +kernel
theorem dL_comparisons_126 : decode cL_comparisons 126 = .ok (.aload_n 0, 1) := by decide +kernel
theorem dL_comparisons_127 : decode cL_comparisons 127 = .ok (.iload 5, 2) := by decide +kernel
theorem dL_comparisons_129 : decode cL_comparisons 129 = .ok (.invokevirtual 175, 3) := by decide +kernel
theorem dL_comparisons_132 : decode cL_comparisons 132 = .ok (.aload_n 0, 1) := by decide +kernel
theorem dL_comparisons_133 : decode cL_comparisons 133 = .ok (.invokevirtual 109, 3) := by decide +kernel
theorem dL_comparisons_136 : decode cL_comparisons 136 = .ok (.isub, 1) := by decide +kernel
theorem dL_comparisons_137 : decode cL_comparisons 137 = .ok (.invokestatic 196, 3) := by decide +kernel
theorem dL_comparisons_140 : decode cL_comparisons 140 = .ok (.if_icmp .ge 8, 3) := by decide +kernel
theorem dL_comparisons_143 : decode cL_comparisons 143 = .ok (.iload 11, 2) := by decide +kernel
theorem dL_comparisons_145 : decode cL_comparisons 145 = .ok (.goto 5, 3) := by decide +kernel
theorem dL_comparisons_148 : decode cL_comparisons 148 = .ok (.iload 5, 2) := by decide +kernel
theorem dL_comparisons_150 : decode cL_comparisons 150 = .ok (.istore 5, 2) := by decide +kernel
theorem dL_comparisons_152 : decode cL_comparisons 152 = .ok (.aload_n 0, 1) := by decide +kernel
theorem dL_comparisons_153 : decode cL_comparisons 153 = .ok (.iload 11, 2) := by decide +kernel
theorem dL_comparisons_155 : decode cL_comparisons 155 = .ok (.invokevirtual 148, 3) := by decide +kernel
theorem dL_comparisons_158 : decode cL_comparisons 158 = .ok (.ifCond .eq 28, 3) := by decide +kernel
theorem dL_comparisons_161 : decode cL_comparisons 161 = .ok (.iload 6, 2) := by decide +kernel
theorem dL_comparisons_163 : decode cL_comparisons 163 = .ok (.ifCond .lt 18, 3) := by decide +kernel
theorem dL_comparisons_166 : decode cL_comparisons 166 = .ok (.aload_n 0, 1) := by decide +kernel
theorem dL_comparisons_167 : decode cL_comparisons 167 = .ok (.iload 11, 2) := by decide +kernel
theorem dL_comparisons_169 : decode cL_comparisons 169 = .ok (.invokevirtual 133, 3) := by decide +kernel
theorem dL_comparisons_172 : decode cL_comparisons 172 = .ok (.aload_n 0, 1) := by decide +kernel
theorem dL_comparisons_173 : decode cL_comparisons 173 = .ok (.iload 6, 2) := by decide +kernel
theorem dL_comparisons_175 : decode cL_comparisons 175 = .ok (.invokevirtual 133, 3) := by decide +kernel
theorem dL_comparisons_178 : decode cL_comparisons 178 = .ok (.if_icmp .le 8, 3) := by decide +kernel
theorem dL_comparisons_181 : decode cL_comparisons 181 = .ok (.iload 11, 2) := by decide +kernel
theorem dL_comparisons_183 : decode cL_comparisons 183 = .ok (.goto 5, 3) := by decide +kernel
theorem dL_comparisons_186 : decode cL_comparisons 186 = .ok (.iload 6, 2) := by decide +kernel
theorem dL_comparisons_188 : decode cL_comparisons 188 = .ok (.istore 6, 2) := by decide +kernel
theorem dL_comparisons_190 : decode cL_comparisons 190 = .ok (.iload 7, 2) := by decide +kernel
theorem dL_comparisons_192 : decode cL_comparisons 192 = .ok (.aload_n 0, 1) := by decide +kernel
theorem dL_comparisons_193 : decode cL_comparisons 193 = .ok (.iload 11, 2) := by decide +kernel
theorem dL_comparisons_195 : decode cL_comparisons 195 = .ok (.invokevirtual 142, 3) := by decide +kernel
theorem dL_comparisons_198 : decode cL_comparisons 198 = .ok (.ifCond .lt 25, 3) := by decide +kernel
theorem dL_comparisons_201 : decode cL_comparisons 201 = .ok (.aload_n 0, 1) := by decide +kernel
theorem dL_comparisons_202 : decode cL_comparisons 202 = .ok (.iload 11, 2) := by decide +kernel
theorem dL_comparisons_204 : decode cL_comparisons 204 = .ok (.invokevirtual 181, 3) := by decide +kernel
theorem dL_comparisons_207 : decode cL_comparisons 207 = .ok (.ifCond .eq 16, 3) := by decide +kernel
theorem dL_comparisons_210 : decode cL_comparisons 210 = .ok (.aload_n 0, 1) := by decide +kernel
theorem dL_comparisons_211 : decode cL_comparisons 211 = .ok (.iload 11, 2) := by decide +kernel
theorem dL_comparisons_213 : decode cL_comparisons 213 = .ok (.invokevirtual 178, 3) := by decide +kernel
theorem dL_comparisons_216 : decode cL_comparisons 216 = .ok (.ifCond .eq 7, 3) := by decide +kernel
theorem dL_comparisons_219 : decode cL_comparisons 219 = .ok (.iconst 1, 1) := by decide +kernel
theorem dL_comparisons_220 : decode cL_comparisons 220 = .ok (.goto 4, 3) := by decide +kernel
theorem dL_comparisons_223 : decode cL_comparisons 223 = .ok (.iconst 0, 1) := by decide +kernel
theorem dL_comparisons_224 : decode cL_comparisons 224 = .ok (.iadd, 1) := by decide +kernel
theorem dL_comparisons_225 : decode cL_comparisons 225 = .ok (.istore 7, 2) := by decide +kernel
theorem dL_comparisons_227 : decode cL_comparisons 227 = .ok (.iload 13, 2) := by decide +kernel
theorem dL_comparisons_229 : decode cL_comparisons 229 = .ok (.ifCond .eq 13, 3) := by decide +kernel
theorem dL_comparisons_232 : decode cL_comparisons 232 = .ok (.iload 8, 2) := by decide +kernel
theorem dL_comparisons_234 : decode cL_comparisons 234 = .ok (.iload 12, 2) := by decide +kernel
theorem dL_comparisons_236 : decode cL_comparisons 236 = .ok (.invokestatic 155, 3) := by decide +kernel
theorem dL_comparisons_239 : decode cL_comparisons 239 = .ok (.goto 5, 3) := by decide +kernel
theorem dL_comparisons_242 : decode cL_comparisons 242 = .ok (.iload 8, 2) := by decide +kernel
theorem dL_comparisons_244 : decode cL_comparisons 244 = .ok (.istore 8, 2) := by decide +kernel
theorem dL_comparisons_246 : decode cL_comparisons 246 = .ok (.iload 13, 2) := by decide +kernel
theorem dL_comparisons_248 : decode cL_comparisons 248 = .ok (.ifCond .eq 13, 3) := by decide +kernel
theorem dL_comparisons_251 : decode cL_comparisons 251 = .ok (.iload 9, 2) := by decide +kernel
theorem dL_comparisons_253 : decode cL_comparisons 253 = .ok (.iload 12, 2) := by decide +kernel
theorem dL_comparisons_255 : decode cL_comparisons 255 = .ok (.invokestatic 160, 3) := by decide +kernel
theorem dL_comparisons_258 : decode cL_comparisons 258 = .ok (.goto 5, 3) := by decide +kernel
theorem dL_comparisons_261 : decode cL_comparisons 261 = .ok (.iload 9, 2) := by decide +kernel
theorem dL_comparisons_263 : decode cL_comparisons 263 = .ok (.istore 9, 2) := by decide +kernel
theorem dL_comparisons_265 : decode cL_comparisons 265 = .ok (.iinc 11 1, 3) := by decide +kernel
theorem dL_comparisons_268 : decode cL_comparisons 268 = .ok (.goto (-234), 3) := by decide +kernel
theorem dL_comparisons_271 : decode cL_comparisons 271 = .ok (.aload_n 0, 1) := by decide +kernel
theorem dL_comparisons_272 : decode cL_comparisons 272 = .ok (.invokevirtual 199, 3) := by decide +kernel
theorem dL_comparisons_275 : decode cL_comparisons 275 = .ok (.iload_n 1, 1) := by decide +kernel
