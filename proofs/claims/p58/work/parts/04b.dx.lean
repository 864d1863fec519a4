theorem dX4_bringHairs_15 : decode cX4_bringHairs 15 = .ok (.aload_n 0, 1) := by decide +kernel
theorem dX4_bringHairs_16 : decode cX4_bringHairs 16 = .ok (.dup, 1) := by decide +kernel
theorem dX4_bringHairs_17 : decode cX4_bringHairs 17 = .ok (.getfield 34, 3) := by decide +kernel
theorem dX4_bringHairs_20 : decode cX4_bringHairs 20 = .ok (.iload_n 1, 1) := by decide +kernel
theorem dX4_bringHairs_21 : decode cX4_bringHairs 21 = .ok (.iadd, 1) := by decide +kernel
theorem dX4_bringHairs_22 : decode cX4_bringHairs 22 = .ok (.putfield 34, 3) := by decide +kernel
theorem dX4_bringHairs_25 : decode cX4_bringHairs 25 = .ok (.aload_n 0, 1) := by decide +kernel
theorem dX4_bringHairs_26 : decode cX4_bringHairs 26 = .ok (.dup, 1) := by decide +kernel
theorem dX4_bringHairs_27 : decode cX4_bringHairs 27 = .ok (.getfield 37, 3) := by decide +kernel
theorem dX4_bringHairs_30 : decode cX4_bringHairs 30 = .ok (.iload_n 1, 1) := by decide +kernel
theorem dX4_bringHairs_31 : decode cX4_bringHairs 31 = .ok (.iadd, 1) := by decide +kernel
theorem dX4_bringHairs_32 : decode cX4_bringHairs 32 = .ok (.putfield 37, 3) := by decide +kernel
theorem dX4_bringHairs_35 : decode cX4_bringHairs 35 = .ok (.return_, 1) := by decide +kernel
theorem dX4_surrounding_0 : decode cX4_surrounding 0 = .ok (.aload_n 1, 1) := by decide +kernel
theorem dX4_surrounding_1 : decode cX4_surrounding 1 = .ok (.getfield 68, 3) := by decide +kernel
theorem dX4_surrounding_4 : decode cX4_surrounding 4 = .ok (.aload_n 0, 1) := by decide +kernel
theorem dX4_surrounding_5 : decode cX4_surrounding 5 = .ok (.getfield 25, 3) := by decide +kernel
theorem dX4_surrounding_8 : decode cX4_surrounding 8 = .ok (.invokestatic 71, 3) := by decide +kernel
theorem dX4_surrounding_11 : decode cX4_surrounding 11 = .ok (.ireturn, 1) := by decide +kernel
theorem dX4_depression_0 : decode cX4_depression 0 = .ok (.aload_n 1, 1) := by decide +kernel
theorem dX4_depression_1 : decode cX4_depression 1 = .ok (.getfield 74, 3) := by decide +kernel
theorem dX4_depression_4 : decode cX4_depression 4 = .ok (.ifCond .ne 7, 3) := by decide +kernel
theorem dX4_depression_7 : decode cX4_depression 7 = .ok (.iconst 0, 1) := by decide +kernel
theorem dX4_depression_8 : decode cX4_depression 8 = .ok (.goto 22, 3) := by decide +kernel
theorem dX4_depression_11 : decode cX4_depression 11 = .ok (.bipush 100, 2) := by decide +kernel
theorem dX4_depression_13 : decode cX4_depression 13 = .ok (.aload_n 0, 1) := by decide +kernel
theorem dX4_depression_14 : decode cX4_depression 14 = .ok (.aload_n 1, 1) := by decide +kernel
theorem dX4_depression_15 : decode cX4_depression 15 = .ok (.invokevirtual 52, 3) := by decide +kernel
theorem dX4_depression_18 : decode cX4_depression 18 = .ok (.isub, 1) := by decide +kernel
theorem dX4_depression_19 : decode cX4_depression 19 = .ok (.aload_n 0, 1) := by decide +kernel
theorem dX4_depression_20 : decode cX4_depression 20 = .ok (.getfield 28, 3) := by decide +kernel
theorem dX4_depression_23 : decode cX4_depression 23 = .ok (.bipush 10, 2) := by decide +kernel
theorem dX4_depression_25 : decode cX4_depression 25 = .ok (.iadd, 1) := by decide +kernel
theorem dX4_depression_26 : decode cX4_depression 26 = .ok (.imul, 1) := by decide +kernel
theorem dX4_depression_27 : decode cX4_depression 27 = .ok (.bipush 100, 2) := by decide +kernel
theorem dX4_depression_29 : decode cX4_depression 29 = .ok (.idiv, 1) := by decide +kernel
theorem dX4_depression_30 : decode cX4_depression 30 = .ok (.ireturn, 1) := by decide +kernel
theorem dX4_raw_0 : decode cX4_raw 0 = .ok (.aload_n 1, 1) := by decide +kernel
theorem dX4_raw_1 : decode cX4_raw 1 = .ok (.getfield 77, 3) := by decide +kernel
theorem dX4_raw_4 : decode cX4_raw 4 = .ok (.ifCond .eq 15, 3) := by decide +kernel
theorem dX4_raw_7 : decode cX4_raw 7 = .ok (.aload_n 1, 1) := by decide +kernel
theorem dX4_raw_8 : decode cX4_raw 8 = .ok (.getfield 81, 3) := by decide +kernel
theorem dX4_raw_11 : decode cX4_raw 11 = .ok (.aload_n 1, 1) := by decide +kernel
theorem dX4_raw_12 : decode cX4_raw 12 = .ok (.getfield 84, 3) := by decide +kernel
theorem dX4_raw_15 : decode cX4_raw 15 = .ok (.iconst 5, 1) := by decide +kernel
theorem dX4_raw_16 : decode cX4_raw 16 = .ok (.idiv, 1) := by decide +kernel
theorem dX4_raw_17 : decode cX4_raw 17 = .ok (.isub, 1) := by decide +kernel
theorem dX4_raw_18 : decode cX4_raw 18 = .ok (.ireturn, 1) := by decide +kernel
theorem dX4_raw_19 : decode cX4_raw 19 = .ok (.bipush 100, 2) := by decide +kernel
theorem dX4_raw_21 : decode cX4_raw 21 = .ok (.aload_n 0, 1) := by decide +kernel
theorem dX4_raw_22 : decode cX4_raw 22 = .ok (.aload_n 1, 1) := by decide +kernel
theorem dX4_raw_23 : decode cX4_raw 23 = .ok (.invokevirtual 87, 3) := by decide +kernel
theorem dX4_raw_26 : decode cX4_raw 26 = .ok (.bipush 100, 2) := by decide +kernel
theorem dX4_raw_28 : decode cX4_raw 28 = .ok (.imul, 1) := by decide +kernel
theorem dX4_raw_29 : decode cX4_raw 29 = .ok (.aload_n 0, 1) := by decide +kernel
theorem dX4_raw_30 : decode cX4_raw 30 = .ok (.getfield 28, 3) := by decide +kernel
theorem dX4_raw_33 : decode cX4_raw 33 = .ok (.bipush 10, 2) := by decide +kernel
theorem dX4_raw_35 : decode cX4_raw 35 = .ok (.iadd, 1) := by decide +kernel
theorem dX4_raw_36 : decode cX4_raw 36 = .ok (.invokestatic 90, 3) := by decide +kernel
theorem dX4_raw_39 : decode cX4_raw 39 = .ok (.isub, 1) := by decide +kernel
theorem dX4_raw_40 : decode cX4_raw 40 = .ok (.ireturn, 1) := by decide +kernel
theorem dX4_reading_0 : decode cX4_reading 0 = .ok (.iconst 0, 1) := by decide +kernel
theorem dX4_reading_1 : decode cX4_reading 1 = .ok (.bipush 100, 2) := by decide +kernel
theorem dX4_reading_3 : decode cX4_reading 3 = .ok (.aload_n 0, 1) := by decide +kernel
theorem dX4_reading_4 : decode cX4_reading 4 = .ok (.aload_n 1, 1) := by decide +kernel
theorem dX4_reading_5 : decode cX4_reading 5 = .ok (.invokevirtual 93, 3) := by decide +kernel
theorem dX4_reading_8 : decode cX4_reading 8 = .ok (.aload_n 1, 1) := by decide +kernel
theorem dX4_reading_9 : decode cX4_reading 9 = .ok (.getfield 96, 3) := by decide +kernel
theorem dX4_reading_12 : decode cX4_reading 12 = .ok (.iadd, 1) := by decide +kernel
theorem dX4_reading_13 : decode cX4_reading 13 = .ok (.invokestatic 62, 3) := by decide +kernel
theorem dX4_reading_16 : decode cX4_reading 16 = .ok (.invokestatic 99, 3) := by decide +kernel
theorem dX4_reading_19 : decode cX4_reading 19 = .ok (.ireturn, 1) := by decide +kernel
theorem dX4_settled_0 : decode cX4_settled 0 = .ok (.aload_n 1, 1) := by decide +kernel
theorem dX4_settled_1 : decode cX4_settled 1 = .ok (.getfield 77, 3) := by decide +kernel
theorem dX4_settled_4 : decode cX4_settled 4 = .ok (.ifCond .eq 23, 3) := by decide +kernel
theorem dX4_settled_7 : decode cX4_settled 7 = .ok (.aload_n 1, 1) := by decide +kernel
theorem dX4_settled_8 : decode cX4_settled 8 = .ok (.getfield 81, 3) := by decide +kernel
theorem dX4_settled_11 : decode cX4_settled 11 = .ok (.aload_n 0, 1) := by decide +kernel
theorem dX4_settled_12 : decode cX4_settled 12 = .ok (.aload_n 1, 1) := by decide +kernel
theorem dX4_settled_13 : decode cX4_settled 13 = .ok (.invokevirtual 52, 3) := by decide +kernel
theorem dX4_settled_16 : decode cX4_settled 16 = .ok (.if_icmp .ne 7, 3) := by decide +kernel
theorem dX4_settled_19 : decode cX4_settled 19 = .ok (.iconst 1, 1) := by decide +kernel
theorem dX4_settled_20 : decode cX4_settled 20 = .ok (.goto 19, 3) := by decide +kernel
theorem dX4_settled_23 : decode cX4_settled 23 = .ok (.iconst 0, 1) := by decide +kernel
theorem dX4_settled_24 : decode cX4_settled 24 = .ok (.goto 15, 3) := by decide +kernel
theorem dX4_settled_27 : decode cX4_settled 27 = .ok (.aload_n 1, 1) := by decide +kernel
theorem dX4_settled_28 : decode cX4_settled 28 = .ok (.getfield 74, 3) := by decide +kernel
theorem dX4_settled_31 : decode cX4_settled 31 = .ok (.ifCond .le 7, 3) := by decide +kernel
theorem dX4_settled_34 : decode cX4_settled 34 = .ok (.iconst 1, 1) := by decide +kernel
theorem dX4_settled_35 : decode cX4_settled 35 = .ok (.goto 4, 3) := by decide +kernel
theorem dX4_settled_38 : decode cX4_settled 38 = .ok (.iconst 0, 1) := by decide +kernel
theorem dX4_settled_39 : decode cX4_settled 39 = .ok (.ireturn, 1) := by decide +kernel
theorem dX4_still_0 : decode cX4_still 0 = .ok (.aload_n 1, 1) := by decide +kernel
theorem dX4_still_1 : decode cX4_still 1 = .ok (.getfield 77, 3) := by decide +kernel
theorem dX4_still_4 : decode cX4_still 4 = .ok (.ifCond .eq 11, 3) := by decide +kernel
theorem dX4_still_7 : decode cX4_still 7 = .ok (.aload_n 0, 1) := by decide +kernel
theorem dX4_still_8 : decode cX4_still 8 = .ok (.aload_n 1, 1) := by decide +kernel
theorem dX4_still_9 : decode cX4_still 9 = .ok (.invokevirtual 102, 3) := by decide +kernel
theorem dX4_still_12 : decode cX4_still 12 = .ok (.goto 16, 3) := by decide +kernel
theorem dX4_still_15 : decode cX4_still 15 = .ok (.aload_n 0, 1) := by decide +kernel
theorem dX4_still_16 : decode cX4_still 16 = .ok (.aload_n 1, 1) := by decide +kernel
theorem dX4_still_17 : decode cX4_still 17 = .ok (.invokevirtual 102, 3) := by decide +kernel
theorem dX4_still_20 : decode cX4_still 20 = .ok (.ifCond .ne 7, 3) := by decide +kernel
theorem dX4_still_23 : decode cX4_still 23 = .ok (.iconst 1, 1) := by decide +kernel
theorem dX4_still_24 : decode cX4_still 24 = .ok (.goto 4, 3) := by decide +kernel
theorem dX4_still_27 : decode cX4_still 27 = .ok (.iconst 0, 1) := by decide +kernel
theorem dX4_still_28 : decode cX4_still 28 = .ok (.ireturn, 1) := by decide +kernel
theorem dX4_obstacle_0 : decode cX4_obstacle 0 = .ok (.aload_n 1, 1) := by decide +kernel
theorem dX4_obstacle_1 : decode cX4_obstacle 1 = .ok (.invokevirtual 106, 3) := by decide +kernel
theorem dX4_obstacle_4 : decode cX4_obstacle 4 = .ok (.ifCond .ne 5, 3) := by decide +kernel
theorem dX4_obstacle_7 : decode cX4_obstacle 7 = .ok (.iconst 1, 1) := by decide +kernel
theorem dX4_obstacle_8 : decode cX4_obstacle 8 = .ok (.ireturn, 1) := by decide +kernel
theorem dX4_obstacle_9 : decode cX4_obstacle 9 = .ok (.aload_n 0, 1) := by decide +kernel
theorem dX4_obstacle_10 : decode cX4_obstacle 10 = .ok (.aload_n 1, 1) := by decide +kernel
theorem dX4_obstacle_11 : decode cX4_obstacle 11 = .ok (.invokevirtual 102, 3) := by decide +kernel
theorem dX4_obstacle_14 : decode cX4_obstacle 14 = .ok (.ifCond .eq 7, 3) := by decide +kernel
theorem dX4_obstacle_17 : decode cX4_obstacle 17 = .ok (.iconst 0, 1) := by decide +kernel
theorem dX4_obstacle_18 : decode cX4_obstacle 18 = .ok (.goto 4, 3) := by decide +kernel
theorem dX4_obstacle_21 : decode cX4_obstacle 21 = .ok (.iconst 2, 1) := by decide +kernel
theorem dX4_obstacle_22 : decode cX4_obstacle 22 = .ok (.ireturn, 1) := by decide +kernel
theorem dX4_countUsable_0 : decode cX4_countUsable 0 = .ok (.iconst 0, 1) := by decide +kernel
theorem dX4_countUsable_1 : decode cX4_countUsable 1 = .ok (.istore_n 1, 1) := by decide +kernel
theorem dX4_countUsable_2 : decode cX4_countUsable 2 = .ok (.iconst 0, 1) := by decide +kernel
theorem dX4_countUsable_3 : decode cX4_countUsable 3 = .ok (.istore_n 2, 1) := by decide +kernel
theorem dX4_countUsable_4 : decode cX4_countUsable 4 = .ok (.iload_n 2, 1) := by decide +kernel
theorem dX4_countUsable_5 : decode cX4_countUsable 5 = .ok (.aload_n 0, 1) := by decide +kernel
theorem dX4_countUsable_6 : decode cX4_countUsable 6 = .ok (.getfield 18, 3) := by decide +kernel
theorem dX4_countUsable_9 : decode cX4_countUsable 9 = .ok (.if_icmp .ge 24, 3) := by decide +kernel
theorem dX4_countUsable_12 : decode cX4_countUsable 12 = .ok (.aload_n 0, 1) := by decide +kernel
theorem dX4_countUsable_13 : decode cX4_countUsable 13 = .ok (.getfield 11, 3) := by decide +kernel
theorem dX4_countUsable_16 : decode cX4_countUsable 16 = .ok (.iload_n 2, 1) := by decide +kernel
theorem dX4_countUsable_17 : decode cX4_countUsable 17 = .ok (.aaload, 1) := by decide +kernel
theorem dX4_countUsable_18 : decode cX4_countUsable 18 = .ok (.invokevirtual 110, 3) := by decide +kernel
theorem dX4_countUsable_21 : decode cX4_countUsable 21 = .ok (.ifCond .ne 6, 3) := by decide +kernel
theorem dX4_countUsable_24 : decode cX4_countUsable 24 = .ok (.iinc 1 1, 3) := by decide +kernel
theorem dX4_countUsable_27 : decode cX4_countUsable 27 = .ok (.iinc 2 1, 3) := by decide +kernel
theorem dX4_countUsable_30 : decode cX4_countUsable 30 = .ok (.goto (-26), 3) := by decide +kernel
theorem dX4_countUsable_33 : decode cX4_countUsable 33 = .ok (.iload_n 1, 1) := by decide +kernel
theorem dX4_countUsable_34 : decode cX4_countUsable 34 = .ok (.ireturn, 1) := by decide +kernel
theorem dX4_blended_0 : decode cX4_blended 0 = .ok (.iconst 0, 1) := by decide +kernel
theorem dX4_blended_1 : decode cX4_blended 1 = .ok (.istore_n 1, 1) := by decide +kernel
theorem dX4_blended_2 : decode cX4_blended 2 = .ok (.iconst 0, 1) := by decide +kernel
theorem dX4_blended_3 : decode cX4_blended 3 = .ok (.istore_n 2, 1) := by decide +kernel
theorem dX4_blended_4 : decode cX4_blended 4 = .ok (.iconst 0, 1) := by decide +kernel
theorem dX4_blended_5 : decode cX4_blended 5 = .ok (.istore_n 3, 1) := by decide +kernel
theorem dX4_blended_6 : decode cX4_blended 6 = .ok (.iload_n 3, 1) := by decide +kernel
theorem dX4_blended_7 : decode cX4_blended 7 = .ok (.aload_n 0, 1) := by decide +kernel
theorem dX4_blended_8 : decode cX4_blended 8 = .ok (.getfield 18, 3) := by decide +kernel
theorem dX4_blended_11 : decode cX4_blended 11 = .ok (.if_icmp .ge 41, 3) := by decide +kernel
theorem dX4_blended_14 : decode cX4_blended 14 = .ok (.aload_n 0, 1) := by decide +kernel
theorem dX4_blended_15 : decode cX4_blended 15 = .ok (.getfield 11, 3) := by decide +kernel
theorem dX4_blended_18 : decode cX4_blended 18 = .ok (.iload_n 3, 1) := by decide +kernel
theorem dX4_blended_19 : decode cX4_blended 19 = .ok (.aaload, 1) := by decide +kernel
theorem dX4_blended_20 : decode cX4_blended 20 = .ok (.invokevirtual 114, 3) := by decide +kernel
theorem dX4_blended_23 : decode cX4_blended 23 = .ok (.istore 4, 2) := by decide +kernel
theorem dX4_blended_25 : decode cX4_blended 25 = .ok (.iload_n 1, 1) := by decide +kernel
theorem dX4_blended_26 : decode cX4_blended 26 = .ok (.aload_n 0, 1) := by decide +kernel
theorem dX4_blended_27 : decode cX4_blended 27 = .ok (.aload_n 0, 1) := by decide +kernel
theorem dX4_blended_28 : decode cX4_blended 28 = .ok (.getfield 11, 3) := by decide +kernel
theorem dX4_blended_31 : decode cX4_blended 31 = .ok (.iload_n 3, 1) := by decide +kernel
theorem dX4_blended_32 : decode cX4_blended 32 = .ok (.aaload, 1) := by decide +kernel
theorem dX4_blended_33 : decode cX4_blended 33 = .ok (.invokevirtual 117, 3) := by decide +kernel
theorem dX4_blended_36 : decode cX4_blended 36 = .ok (.iload 4, 2) := by decide +kernel
theorem dX4_blended_38 : decode cX4_blended 38 = .ok (.imul, 1) := by decide +kernel
theorem dX4_blended_39 : decode cX4_blended 39 = .ok (.iadd, 1) := by decide +kernel
theorem dX4_blended_40 : decode cX4_blended 40 = .ok (.istore_n 1, 1) := by decide +kernel
theorem dX4_blended_41 : decode cX4_blended 41 = .ok (.iload_n 2, 1) := by decide +kernel
theorem dX4_blended_42 : decode cX4_blended 42 = .ok (.iload 4, 2) := by decide +kernel
theorem dX4_blended_44 : decode cX4_blended 44 = .ok (.iadd, 1) := by decide +kernel
theorem dX4_blended_45 : decode cX4_blended 45 = .ok (.istore_n 2, 1) := by decide +kernel
theorem dX4_blended_46 : decode cX4_blended 46 = .ok (.iinc 3 1, 3) := by decide +kernel
theorem dX4_blended_49 : decode cX4_blended 49 = .ok (.goto (-43), 3) := by decide +kernel
theorem dX4_blended_52 : decode cX4_blended 52 = .ok (.iload_n 2, 1) := by decide +kernel
theorem dX4_blended_53 : decode cX4_blended 53 = .ok (.ifCond .ne 7, 3) := by decide +kernel
theorem dX4_blended_56 : decode cX4_blended 56 = .ok (.iconst (-1), 1) := by decide +kernel
theorem dX4_blended_57 : decode cX4_blended 57 = .ok (.goto 8, 3) := by decide +kernel
theorem dX4_blended_60 : decode cX4_blended 60 = .ok (.iload_n 1, 1) := by decide +kernel
theorem dX4_blended_61 : decode cX4_blended 61 = .ok (.iload_n 2, 1) := by decide +kernel
theorem dX4_blended_62 : decode cX4_blended 62 = .ok (.invokestatic 90, 3) := by decide +kernel
theorem dX4_blended_65 : decode cX4_blended 65 = .ok (.ireturn, 1) := by decide +kernel
theorem dX4_nearest_0 : decode cX4_nearest 0 = .ok (.iconst (-1), 1) := by decide +kernel
theorem dX4_nearest_1 : decode cX4_nearest 1 = .ok (.istore_n 1, 1) := by decide +kernel
theorem dX4_nearest_2 : decode cX4_nearest 2 = .ok (.iconst 0, 1) := by decide +kernel
theorem dX4_nearest_3 : decode cX4_nearest 3 = .ok (.istore_n 2, 1) := by decide +kernel
theorem dX4_nearest_4 : decode cX4_nearest 4 = .ok (.iconst 0, 1) := by decide +kernel
theorem dX4_nearest_5 : decode cX4_nearest 5 = .ok (.istore_n 3, 1) := by decide +kernel
theorem dX4_nearest_6 : decode cX4_nearest 6 = .ok (.iload_n 3, 1) := by decide +kernel
theorem dX4_nearest_7 : decode cX4_nearest 7 = .ok (.aload_n 0, 1) := by decide +kernel
theorem dX4_nearest_8 : decode cX4_nearest 8 = .ok (.getfield 18, 3) := by decide +kernel
theorem dX4_nearest_11 : decode cX4_nearest 11 = .ok (.if_icmp .ge 57, 3) := by decide +kernel
theorem dX4_nearest_14 : decode cX4_nearest 14 = .ok (.aload_n 0, 1) := by decide +kernel
theorem dX4_nearest_15 : decode cX4_nearest 15 = .ok (.aload_n 0, 1) := by decide +kernel
theorem dX4_nearest_16 : decode cX4_nearest 16 = .ok (.getfield 11, 3) := by decide +kernel
theorem dX4_nearest_19 : decode cX4_nearest 19 = .ok (.iload_n 3, 1) := by decide +kernel
theorem dX4_nearest_20 : decode cX4_nearest 20 = .ok (.aaload, 1) := by decide +kernel
theorem dX4_nearest_21 : decode cX4_nearest 21 = .ok (.invokevirtual 117, 3) := by decide +kernel
theorem dX4_nearest_24 : decode cX4_nearest 24 = .ok (.aload_n 0, 1) := by decide +kernel
theorem dX4_nearest_25 : decode cX4_nearest 25 = .ok (.getfield 25, 3) := by decide +kernel
theorem dX4_nearest_28 : decode cX4_nearest 28 = .ok (.isub, 1) := by decide +kernel
theorem dX4_nearest_29 : decode cX4_nearest 29 = .ok (.invokestatic 120, 3) := by decide +kernel
theorem dX4_nearest_32 : decode cX4_nearest 32 = .ok (.istore 4, 2) := by decide +kernel
theorem dX4_nearest_34 : decode cX4_nearest 34 = .ok (.aload_n 0, 1) := by decide +kernel
theorem dX4_nearest_35 : decode cX4_nearest 35 = .ok (.getfield 11, 3) := by decide +kernel
theorem dX4_nearest_38 : decode cX4_nearest 38 = .ok (.iload_n 3, 1) := by decide +kernel
theorem dX4_nearest_39 : decode cX4_nearest 39 = .ok (.aaload, 1) := by decide +kernel
theorem dX4_nearest_40 : decode cX4_nearest 40 = .ok (.invokevirtual 110, 3) := by decide +kernel
theorem dX4_nearest_43 : decode cX4_nearest 43 = .ok (.ifCond .ne 19, 3) := by decide +kernel
theorem dX4_nearest_46 : decode cX4_nearest 46 = .ok (.iload_n 1, 1) := by decide +kernel
theorem dX4_nearest_47 : decode cX4_nearest 47 = .ok (.iconst (-1), 1) := by decide +kernel
theorem dX4_nearest_48 : decode cX4_nearest 48 = .ok (.if_icmp .eq 9, 3) := by decide +kernel
theorem dX4_nearest_51 : decode cX4_nearest 51 = .ok (.iload 4, 2) := by decide +kernel
theorem dX4_nearest_53 : decode cX4_nearest 53 = .ok (.iload_n 2, 1) := by decide +kernel
theorem dX4_nearest_54 : decode cX4_nearest 54 = .ok (.if_icmp .ge 8, 3) := by decide +kernel
theorem dX4_nearest_57 : decode cX4_nearest 57 = .ok (.iload_n 3, 1) := by decide +kernel
theorem dX4_nearest_58 : decode cX4_nearest 58 = .ok (.istore_n 1, 1) := by decide +kernel
theorem dX4_nearest_59 : decode cX4_nearest 59 = .ok (.iload 4, 2) := by decide +kernel
theorem dX4_nearest_61 : decode cX4_nearest 61 = .ok (.istore_n 2, 1) := by decide +kernel
theorem dX4_nearest_62 : decode cX4_nearest 62 = .ok (.iinc 3 1, 3) := by decide +kernel
theorem dX4_nearest_65 : decode cX4_nearest 65 = .ok (.goto (-59), 3) := by decide +kernel
theorem dX4_nearest_68 : decode cX4_nearest 68 = .ok (.iload_n 1, 1) := by decide +kernel
theorem dX4_nearest_69 : decode cX4_nearest 69 = .ok (.ireturn, 1) := by decide +kernel
theorem dX4_slackest_0 : decode cX4_slackest 0 = .ok (.iconst (-1), 1) := by decide +kernel
theorem dX4_slackest_1 : decode cX4_slackest 1 = .ok (.istore_n 1, 1) := by decide +kernel
theorem dX4_slackest_2 : decode cX4_slackest 2 = .ok (.iconst 0, 1) := by decide +kernel
theorem dX4_slackest_3 : decode cX4_slackest 3 = .ok (.istore_n 2, 1) := by decide +kernel
theorem dX4_slackest_4 : decode cX4_slackest 4 = .ok (.iconst 0, 1) := by decide +kernel
theorem dX4_slackest_5 : decode cX4_slackest 5 = .ok (.istore_n 3, 1) := by decide +kernel
theorem dX4_slackest_6 : decode cX4_slackest 6 = .ok (.iload_n 3, 1) := by decide +kernel
theorem dX4_slackest_7 : decode cX4_slackest 7 = .ok (.aload_n 0, 1) := by decide +kernel
theorem dX4_slackest_8 : decode cX4_slackest 8 = .ok (.getfield 18, 3) := by decide +kernel
theorem dX4_slackest_11 : decode cX4_slackest 11 = .ok (.if_icmp .ge 47, 3) := by decide +kernel
theorem dX4_slackest_14 : decode cX4_slackest 14 = .ok (.aload_n 0, 1) := by decide +kernel
theorem dX4_slackest_15 : decode cX4_slackest 15 = .ok (.getfield 11, 3) := by decide +kernel
theorem dX4_slackest_18 : decode cX4_slackest 18 = .ok (.iload_n 3, 1) := by decide +kernel
theorem dX4_slackest_19 : decode cX4_slackest 19 = .ok (.aaload, 1) := by decide +kernel
theorem dX4_slackest_20 : decode cX4_slackest 20 = .ok (.astore 4, 2) := by decide +kernel
theorem dX4_slackest_22 : decode cX4_slackest 22 = .ok (.aload 4, 2) := by decide +kernel
theorem dX4_slackest_24 : decode cX4_slackest 24 = .ok (.getfield 77, 3) := by decide +kernel
theorem dX4_slackest_27 : decode cX4_slackest 27 = .ok (.ifCond .eq 25, 3) := by decide +kernel
theorem dX4_slackest_30 : decode cX4_slackest 30 = .ok (.iload_n 1, 1) := by decide +kernel
theorem dX4_slackest_31 : decode cX4_slackest 31 = .ok (.iconst (-1), 1) := by decide +kernel
theorem dX4_slackest_32 : decode cX4_slackest 32 = .ok (.if_icmp .eq 12, 3) := by decide +kernel
theorem dX4_slackest_35 : decode cX4_slackest 35 = .ok (.aload 4, 2) := by decide +kernel
theorem dX4_slackest_37 : decode cX4_slackest 37 = .ok (.getfield 84, 3) := by decide +kernel
theorem dX4_slackest_40 : decode cX4_slackest 40 = .ok (.iload_n 2, 1) := by decide +kernel
theorem dX4_slackest_41 : decode cX4_slackest 41 = .ok (.if_icmp .le 11, 3) := by decide +kernel
theorem dX4_slackest_44 : decode cX4_slackest 44 = .ok (.iload_n 3, 1) := by decide +kernel
theorem dX4_slackest_45 : decode cX4_slackest 45 = .ok (.istore_n 1, 1) := by decide +kernel
theorem dX4_slackest_46 : decode cX4_slackest 46 = .ok (.aload 4, 2) := by decide +kernel
theorem dX4_slackest_48 : decode cX4_slackest 48 = .ok (.getfield 84, 3) := by decide +kernel
theorem dX4_slackest_51 : decode cX4_slackest 51 = .ok (.istore_n 2, 1) := by decide +kernel
theorem dX4_slackest_52 : decode cX4_slackest 52 = .ok (.iinc 3 1, 3) := by decide +kernel
theorem dX4_slackest_55 : decode cX4_slackest 55 = .ok (.goto (-49), 3) := by decide +kernel
theorem dX4_slackest_58 : decode cX4_slackest 58 = .ok (.iload_n 1, 1) := by decide +kernel
theorem dX4_slackest_59 : decode cX4_slackest 59 = .ok (.ireturn, 1) := by decide +kernel
theorem dX4_countDisagreeing_0 : decode cX4_countDisagreeing 0 = .ok (.iconst 0, 1) := by decide +kernel
theorem dX4_countDisagreeing_1 : decode cX4_countDisagreeing 1 = .ok (.istore_n 1, 1) := by decide +kernel
theorem dX4_countDisagreeing_2 : decode cX4_countDisagreeing 2 = .ok (.iconst 0, 1) := by decide +kernel
theorem dX4_countDisagreeing_3 : decode cX4_countDisagreeing 3 = .ok (.istore_n 2, 1) := by decide +kernel
theorem dX4_countDisagreeing_4 : decode cX4_countDisagreeing 4 = .ok (.iload_n 2, 1) := by decide +kernel
theorem dX4_countDisagreeing_5 : decode cX4_countDisagreeing 5 = .ok (.aload_n 0, 1) := by decide +kernel
theorem dX4_countDisagreeing_6 : decode cX4_countDisagreeing 6 = .ok (.getfield 18, 3) := by decide +kernel
theorem dX4_countDisagreeing_9 : decode cX4_countDisagreeing 9 = .ok (.if_icmp .ge 47, 3) := by decide +kernel
theorem dX4_countDisagreeing_12 : decode cX4_countDisagreeing 12 = .ok (.aload_n 0, 1) := by decide +kernel
theorem dX4_countDisagreeing_13 : decode cX4_countDisagreeing 13 = .ok (.getfield 11, 3) := by decide +kernel
theorem dX4_countDisagreeing_16 : decode cX4_countDisagreeing 16 = .ok (.iload_n 2, 1) := by decide +kernel
theorem dX4_countDisagreeing_17 : decode cX4_countDisagreeing 17 = .ok (.aaload, 1) := by decide +kernel
theorem dX4_countDisagreeing_18 : decode cX4_countDisagreeing 18 = .ok (.astore_n 3, 1) := by decide +kernel
theorem dX4_countDisagreeing_19 : decode cX4_countDisagreeing 19 = .ok (.aload_n 3, 1) := by decide +kernel
theorem dX4_countDisagreeing_20 : decode cX4_countDisagreeing 20 = .ok (.invokevirtual 106, 3) := by decide +kernel
theorem dX4_countDisagreeing_23 : decode cX4_countDisagreeing 23 = .ok (.ifCond .eq 27, 3) := by decide +kernel
theorem dX4_countDisagreeing_26 : decode cX4_countDisagreeing 26 = .ok (.aload_n 0, 1) := by decide +kernel
theorem dX4_countDisagreeing_27 : decode cX4_countDisagreeing 27 = .ok (.aload_n 3, 1) := by decide +kernel
theorem dX4_countDisagreeing_28 : decode cX4_countDisagreeing 28 = .ok (.invokevirtual 102, 3) := by decide +kernel
theorem dX4_countDisagreeing_31 : decode cX4_countDisagreeing 31 = .ok (.ifCond .eq 19, 3) := by decide +kernel
theorem dX4_countDisagreeing_34 : decode cX4_countDisagreeing 34 = .ok (.aload_n 0, 1) := by decide +kernel
theorem dX4_countDisagreeing_35 : decode cX4_countDisagreeing 35 = .ok (.aload_n 3, 1) := by decide +kernel
theorem dX4_countDisagreeing_36 : decode cX4_countDisagreeing 36 = .ok (.invokevirtual 117, 3) := by decide +kernel
theorem dX4_countDisagreeing_39 : decode cX4_countDisagreeing 39 = .ok (.aload_n 0, 1) := by decide +kernel
theorem dX4_countDisagreeing_40 : decode cX4_countDisagreeing 40 = .ok (.aload_n 3, 1) := by decide +kernel
theorem dX4_countDisagreeing_41 : decode cX4_countDisagreeing 41 = .ok (.invokevirtual 52, 3) := by decide +kernel
theorem dX4_countDisagreeing_44 : decode cX4_countDisagreeing 44 = .ok (.if_icmp .eq 6, 3) := by decide +kernel
theorem dX4_countDisagreeing_47 : decode cX4_countDisagreeing 47 = .ok (.iinc 1 1, 3) := by decide +kernel
theorem dX4_countDisagreeing_50 : decode cX4_countDisagreeing 50 = .ok (.iinc 2 1, 3) := by decide +kernel
theorem dX4_countDisagreeing_53 : decode cX4_countDisagreeing 53 = .ok (.goto (-49), 3) := by decide +kernel
theorem dX4_countDisagreeing_56 : decode cX4_countDisagreeing 56 = .ok (.iload_n 1, 1) := by decide +kernel
theorem dX4_countDisagreeing_57 : decode cX4_countDisagreeing 57 = .ok (.ireturn, 1) := by decide +kernel
theorem dX4_readingSpan_0 : decode cX4_readingSpan 0 = .ok (.bipush 100, 2) := by decide +kernel
theorem dX4_readingSpan_2 : decode cX4_readingSpan 2 = .ok (.istore_n 1, 1) := by decide +kernel
theorem dX4_readingSpan_3 : decode cX4_readingSpan 3 = .ok (.iconst 0, 1) := by decide +kernel
theorem dX4_readingSpan_4 : decode cX4_readingSpan 4 = .ok (.istore_n 2, 1) := by decide +kernel
theorem dX4_readingSpan_5 : decode cX4_readingSpan 5 = .ok (.iconst 0, 1) := by decide +kernel
theorem dX4_readingSpan_6 : decode cX4_readingSpan 6 = .ok (.istore_n 3, 1) := by decide +kernel
theorem dX4_readingSpan_7 : decode cX4_readingSpan 7 = .ok (.iload_n 3, 1) := by decide +kernel
theorem dX4_readingSpan_8 : decode cX4_readingSpan 8 = .ok (.aload_n 0, 1) := by decide +kernel
theorem dX4_readingSpan_9 : decode cX4_readingSpan 9 = .ok (.getfield 18, 3) := by decide +kernel
theorem dX4_readingSpan_12 : decode cX4_readingSpan 12 = .ok (.if_icmp .ge 51, 3) := by decide +kernel
theorem dX4_readingSpan_15 : decode cX4_readingSpan 15 = .ok (.aload_n 0, 1) := by decide +kernel
theorem dX4_readingSpan_16 : decode cX4_readingSpan 16 = .ok (.getfield 11, 3) := by decide +kernel
theorem dX4_readingSpan_19 : decode cX4_readingSpan 19 = .ok (.iload_n 3, 1) := by decide +kernel
theorem dX4_readingSpan_20 : decode cX4_readingSpan 20 = .ok (.aaload, 1) := by decide +kernel
theorem dX4_readingSpan_21 : decode cX4_readingSpan 21 = .ok (.invokevirtual 110, 3) := by decide +kernel
theorem dX4_readingSpan_24 : decode cX4_readingSpan 24 = .ok (.ifCond .ne 33, 3) := by decide +kernel
theorem dX4_readingSpan_27 : decode cX4_readingSpan 27 = .ok (.iload_n 1, 1) := by decide +kernel
theorem dX4_readingSpan_28 : decode cX4_readingSpan 28 = .ok (.aload_n 0, 1) := by decide +kernel
theorem dX4_readingSpan_29 : decode cX4_readingSpan 29 = .ok (.aload_n 0, 1) := by decide +kernel
theorem dX4_readingSpan_30 : decode cX4_readingSpan 30 = .ok (.getfield 11, 3) := by decide +kernel
theorem dX4_readingSpan_33 : decode cX4_readingSpan 33 = .ok (.iload_n 3, 1) := by decide +kernel
theorem dX4_readingSpan_34 : decode cX4_readingSpan 34 = .ok (.aaload, 1) := by decide +kernel
theorem dX4_readingSpan_35 : decode cX4_readingSpan 35 = .ok (.invokevirtual 117, 3) := by decide +kernel
theorem dX4_readingSpan_38 : decode cX4_readingSpan 38 = .ok (.invokestatic 62, 3) := by decide +kernel
theorem dX4_readingSpan_41 : decode cX4_readingSpan 41 = .ok (.istore_n 1, 1) := by decide +kernel
theorem dX4_readingSpan_42 : decode cX4_readingSpan 42 = .ok (.iload_n 2, 1) := by decide +kernel
theorem dX4_readingSpan_43 : decode cX4_readingSpan 43 = .ok (.aload_n 0, 1) := by decide +kernel
theorem dX4_readingSpan_44 : decode cX4_readingSpan 44 = .ok (.aload_n 0, 1) := by decide +kernel
theorem dX4_readingSpan_45 : decode cX4_readingSpan 45 = .ok (.getfield 11, 3) := by decide +kernel
theorem dX4_readingSpan_48 : decode cX4_readingSpan 48 = .ok (.iload_n 3, 1) := by decide +kernel
theorem dX4_readingSpan_49 : decode cX4_readingSpan 49 = .ok (.aaload, 1) := by decide +kernel
theorem dX4_readingSpan_50 : decode cX4_readingSpan 50 = .ok (.invokevirtual 117, 3) := by decide +kernel
theorem dX4_readingSpan_53 : decode cX4_readingSpan 53 = .ok (.invokestatic 99, 3) := by decide +kernel
theorem dX4_readingSpan_56 : decode cX4_readingSpan 56 = .ok (.istore_n 2, 1) := by decide +kernel
theorem dX4_readingSpan_57 : decode cX4_readingSpan 57 = .ok (.iinc 3 1, 3) := by decide +kernel
theorem dX4_readingSpan_60 : decode cX4_readingSpan 60 = .ok (.goto (-53), 3) := by decide +kernel
theorem dX4_readingSpan_63 : decode cX4_readingSpan 63 = .ok (.iconst 0, 1) := by decide +kernel
theorem dX4_readingSpan_64 : decode cX4_readingSpan 64 = .ok (.iload_n 2, 1) := by decide +kernel
theorem dX4_readingSpan_65 : decode cX4_readingSpan 65 = .ok (.iload_n 1, 1) := by decide +kernel
theorem dX4_readingSpan_66 : decode cX4_readingSpan 66 = .ok (.isub, 1) := by decide +kernel
theorem dX4_readingSpan_67 : decode cX4_readingSpan 67 = .ok (.invokestatic 99, 3) := by decide +kernel
theorem dX4_readingSpan_70 : decode cX4_readingSpan 70 = .ok (.ireturn, 1) := by decide +kernel
theorem dX4_sumOfReadings_0 : decode cX4_sumOfReadings 0 = .ok (.iconst 0, 1) := by decide +kernel
theorem dX4_sumOfReadings_1 : decode cX4_sumOfReadings 1 = .ok (.istore_n 1, 1) := by decide +kernel
theorem dX4_sumOfReadings_2 : decode cX4_sumOfReadings 2 = .ok (.iconst 0, 1) := by decide +kernel
theorem dX4_sumOfReadings_3 : decode cX4_sumOfReadings 3 = .ok (.istore_n 2, 1) := by decide +kernel
theorem dX4_sumOfReadings_4 : decode cX4_sumOfReadings 4 = .ok (.iload_n 2, 1) := by decide +kernel
theorem dX4_sumOfReadings_5 : decode cX4_sumOfReadings 5 = .ok (.aload_n 0, 1) := by decide +kernel
theorem dX4_sumOfReadings_6 : decode cX4_sumOfReadings 6 = .ok (.getfield 18, 3) := by decide +kernel
theorem dX4_sumOfReadings_9 : decode cX4_sumOfReadings 9 = .ok (.if_icmp .ge 22, 3) := by decide +kernel
theorem dX4_sumOfReadings_12 : decode cX4_sumOfReadings 12 = .ok (.iload_n 1, 1) := by decide +kernel
theorem dX4_sumOfReadings_13 : decode cX4_sumOfReadings 13 = .ok (.aload_n 0, 1) := by decide +kernel
theorem dX4_sumOfReadings_14 : decode cX4_sumOfReadings 14 = .ok (.aload_n 0, 1) := by decide +kernel
theorem dX4_sumOfReadings_15 : decode cX4_sumOfReadings 15 = .ok (.getfield 11, 3) := by decide +kernel
theorem dX4_sumOfReadings_18 : decode cX4_sumOfReadings 18 = .ok (.iload_n 2, 1) := by decide +kernel
theorem dX4_sumOfReadings_19 : decode cX4_sumOfReadings 19 = .ok (.aaload, 1) := by decide +kernel
theorem dX4_sumOfReadings_20 : decode cX4_sumOfReadings 20 = .ok (.invokevirtual 117, 3) := by decide +kernel
theorem dX4_sumOfReadings_23 : decode cX4_sumOfReadings 23 = .ok (.iadd, 1) := by decide +kernel
theorem dX4_sumOfReadings_24 : decode cX4_sumOfReadings 24 = .ok (.istore_n 1, 1) := by decide +kernel
theorem dX4_sumOfReadings_25 : decode cX4_sumOfReadings 25 = .ok (.iinc 2 1, 3) := by decide +kernel
theorem dX4_sumOfReadings_28 : decode cX4_sumOfReadings 28 = .ok (.goto (-24), 3) := by decide +kernel
theorem dX4_sumOfReadings_31 : decode cX4_sumOfReadings 31 = .ok (.iload_n 1, 1) := by decide +kernel
theorem dX4_sumOfReadings_32 : decode cX4_sumOfReadings 32 = .ok (.ireturn, 1) := by decide +kernel
theorem dX4_hairsHere_0 : decode cX4_hairsHere 0 = .ok (.aload_n 0, 1) := by decide +kernel
theorem dX4_hairsHere_1 : decode cX4_hairsHere 1 = .ok (.getfield 34, 3) := by decide +kernel
theorem dX4_hairsHere_4 : decode cX4_hairsHere 4 = .ok (.istore_n 1, 1) := by decide +kernel
theorem dX4_hairsHere_5 : decode cX4_hairsHere 5 = .ok (.iconst 0, 1) := by decide +kernel
theorem dX4_hairsHere_6 : decode cX4_hairsHere 6 = .ok (.istore_n 2, 1) := by decide +kernel
theorem dX4_hairsHere_7 : decode cX4_hairsHere 7 = .ok (.iload_n 2, 1) := by decide +kernel
theorem dX4_hairsHere_8 : decode cX4_hairsHere 8 = .ok (.aload_n 0, 1) := by decide +kernel
theorem dX4_hairsHere_9 : decode cX4_hairsHere 9 = .ok (.getfield 18, 3) := by decide +kernel
theorem dX4_hairsHere_12 : decode cX4_hairsHere 12 = .ok (.if_icmp .ge 31, 3) := by decide +kernel
theorem dX4_hairsHere_15 : decode cX4_hairsHere 15 = .ok (.iload_n 1, 1) := by decide +kernel
theorem dX4_hairsHere_16 : decode cX4_hairsHere 16 = .ok (.aload_n 0, 1) := by decide +kernel
theorem dX4_hairsHere_17 : decode cX4_hairsHere 17 = .ok (.getfield 11, 3) := by decide +kernel
theorem dX4_hairsHere_20 : decode cX4_hairsHere 20 = .ok (.iload_n 2, 1) := by decide +kernel
theorem dX4_hairsHere_21 : decode cX4_hairsHere 21 = .ok (.aaload, 1) := by decide +kernel
theorem dX4_hairsHere_22 : decode cX4_hairsHere 22 = .ok (.getfield 124, 3) := by decide +kernel
theorem dX4_hairsHere_25 : decode cX4_hairsHere 25 = .ok (.aload_n 0, 1) := by decide +kernel
theorem dX4_hairsHere_26 : decode cX4_hairsHere 26 = .ok (.getfield 11, 3) := by decide +kernel
theorem dX4_hairsHere_29 : decode cX4_hairsHere 29 = .ok (.iload_n 2, 1) := by decide +kernel
theorem dX4_hairsHere_30 : decode cX4_hairsHere 30 = .ok (.aaload, 1) := by decide +kernel
theorem dX4_hairsHere_31 : decode cX4_hairsHere 31 = .ok (.getfield 127, 3) := by decide +kernel
theorem dX4_hairsHere_34 : decode cX4_hairsHere 34 = .ok (.iadd, 1) := by decide +kernel
theorem dX4_hairsHere_35 : decode cX4_hairsHere 35 = .ok (.iadd, 1) := by decide +kernel
theorem dX4_hairsHere_36 : decode cX4_hairsHere 36 = .ok (.istore_n 1, 1) := by decide +kernel
theorem dX4_hairsHere_37 : decode cX4_hairsHere 37 = .ok (.iinc 2 1, 3) := by decide +kernel
theorem dX4_hairsHere_40 : decode cX4_hairsHere 40 = .ok (.goto (-33), 3) := by decide +kernel
theorem dX4_hairsHere_43 : decode cX4_hairsHere 43 = .ok (.iload_n 1, 1) := by decide +kernel
theorem dX4_hairsHere_44 : decode cX4_hairsHere 44 = .ok (.ireturn, 1) := by decide +kernel
theorem dX4_hairsThatCame_0 : decode cX4_hairsThatCame 0 = .ok (.aload_n 0, 1) := by decide +kernel
theorem dX4_hairsThatCame_1 : decode cX4_hairsThatCame 1 = .ok (.getfield 37, 3) := by decide +kernel
theorem dX4_hairsThatCame_4 : decode cX4_hairsThatCame 4 = .ok (.istore_n 1, 1) := by decide +kernel
theorem dX4_hairsThatCame_5 : decode cX4_hairsThatCame 5 = .ok (.iconst 0, 1) := by decide +kernel
theorem dX4_hairsThatCame_6 : decode cX4_hairsThatCame 6 = .ok (.istore_n 2, 1) := by decide +kernel
theorem dX4_hairsThatCame_7 : decode cX4_hairsThatCame 7 = .ok (.iload_n 2, 1) := by decide +kernel
theorem dX4_hairsThatCame_8 : decode cX4_hairsThatCame 8 = .ok (.aload_n 0, 1) := by decide +kernel
theorem dX4_hairsThatCame_9 : decode cX4_hairsThatCame 9 = .ok (.getfield 18, 3) := by decide +kernel
theorem dX4_hairsThatCame_12 : decode cX4_hairsThatCame 12 = .ok (.if_icmp .ge 21, 3) := by decide +kernel
theorem dX4_hairsThatCame_15 : decode cX4_hairsThatCame 15 = .ok (.iload_n 1, 1) := by decide +kernel
theorem dX4_hairsThatCame_16 : decode cX4_hairsThatCame 16 = .ok (.aload_n 0, 1) := by decide +kernel
theorem dX4_hairsThatCame_17 : decode cX4_hairsThatCame 17 = .ok (.getfield 11, 3) := by decide +kernel
theorem dX4_hairsThatCame_20 : decode cX4_hairsThatCame 20 = .ok (.iload_n 2, 1) := by decide +kernel
theorem dX4_hairsThatCame_21 : decode cX4_hairsThatCame 21 = .ok (.aaload, 1) := by decide +kernel
theorem dX4_hairsThatCame_22 : decode cX4_hairsThatCame 22 = .ok (.getfield 130, 3) := by decide +kernel
theorem dX4_hairsThatCame_25 : decode cX4_hairsThatCame 25 = .ok (.iadd, 1) := by decide +kernel
theorem dX4_hairsThatCame_26 : decode cX4_hairsThatCame 26 = .ok (.istore_n 1, 1) := by decide +kernel
theorem dX4_hairsThatCame_27 : decode cX4_hairsThatCame 27 = .ok (.iinc 2 1, 3) := by decide +kernel
theorem dX4_hairsThatCame_30 : decode cX4_hairsThatCame 30 = .ok (.goto (-23), 3) := by decide +kernel
theorem dX4_hairsThatCame_33 : decode cX4_hairsThatCame 33 = .ok (.iload_n 1, 1) := by decide +kernel
theorem dX4_hairsThatCame_34 : decode cX4_hairsThatCame 34 = .ok (.ireturn, 1) := by decide +kernel
theorem dX5_init_0 : decode cX5_init 0 = .ok (.aload_n 0, 1) := by decide +kernel
theorem dX5_init_1 : decode cX5_init 1 = .ok (.invokespecial 3, 3) := by decide +kernel
theorem dX5_init_4 : decode cX5_init 4 = .ok (.aload_n 0, 1) := by decide +kernel
theorem dX5_init_5 : decode cX5_init 5 = .ok (.iconst 2, 1) := by decide +kernel
theorem dX5_init_6 : decode cX5_init 6 = .ok (.anewarray 9, 3) := by decide +kernel
theorem dX5_init_9 : decode cX5_init 9 = .ok (.putfield 11, 3) := by decide +kernel
theorem dX5_init_12 : decode cX5_init 12 = .ok (.aload_n 0, 1) := by decide +kernel
theorem dX5_init_13 : decode cX5_init 13 = .ok (.iconst 2, 1) := by decide +kernel
theorem dX5_init_14 : decode cX5_init 14 = .ok (.newarray .boolean, 2) := by decide +kernel
theorem dX5_init_16 : decode cX5_init 16 = .ok (.putfield 17, 3) := by decide +kernel
theorem dX5_init_19 : decode cX5_init 19 = .ok (.iconst 0, 1) := by decide +kernel
theorem dX5_init_20 : decode cX5_init 20 = .ok (.istore_n 1, 1) := by decide +kernel
theorem dX5_init_21 : decode cX5_init 21 = .ok (.iload_n 1, 1) := by decide +kernel
theorem dX5_init_22 : decode cX5_init 22 = .ok (.aload_n 0, 1) := by decide +kernel
theorem dX5_init_23 : decode cX5_init 23 = .ok (.getfield 11, 3) := by decide +kernel
theorem dX5_init_26 : decode cX5_init 26 = .ok (.arraylength, 1) := by decide +kernel
theorem dX5_init_27 : decode cX5_init 27 = .ok (.if_icmp .ge 22, 3) := by decide +kernel
theorem dX5_init_30 : decode cX5_init 30 = .ok (.aload_n 0, 1) := by decide +kernel
theorem dX5_init_31 : decode cX5_init 31 = .ok (.getfield 11, 3) := by decide +kernel
theorem dX5_init_34 : decode cX5_init 34 = .ok (.iload_n 1, 1) := by decide +kernel
theorem dX5_init_35 : decode cX5_init 35 = .ok (.new 9, 3) := by decide +kernel
theorem dX5_init_38 : decode cX5_init 38 = .ok (.dup, 1) := by decide +kernel
theorem dX5_init_39 : decode cX5_init 39 = .ok (.invokespecial 21, 3) := by decide +kernel
theorem dX5_init_42 : decode cX5_init 42 = .ok (.aastore, 1) := by decide +kernel
theorem dX5_init_43 : decode cX5_init 43 = .ok (.iinc 1 1, 3) := by decide +kernel
theorem dX5_init_46 : decode cX5_init 46 = .ok (.goto (-25), 3) := by decide +kernel
theorem dX5_init_49 : decode cX5_init 49 = .ok (.return_, 1) := by decide +kernel
theorem dX5_forget_0 : decode cX5_forget 0 = .ok (.iconst 0, 1) := by decide +kernel
theorem dX5_forget_1 : decode cX5_forget 1 = .ok (.istore_n 1, 1) := by decide +kernel
theorem dX5_forget_2 : decode cX5_forget 2 = .ok (.iload_n 1, 1) := by decide +kernel
theorem dX5_forget_3 : decode cX5_forget 3 = .ok (.aload_n 0, 1) := by decide +kernel
theorem dX5_forget_4 : decode cX5_forget 4 = .ok (.getfield 17, 3) := by decide +kernel
theorem dX5_forget_7 : decode cX5_forget 7 = .ok (.arraylength, 1) := by decide +kernel
theorem dX5_forget_8 : decode cX5_forget 8 = .ok (.if_icmp .ge 16, 3) := by decide +kernel
theorem dX5_forget_11 : decode cX5_forget 11 = .ok (.aload_n 0, 1) := by decide +kernel
theorem dX5_forget_12 : decode cX5_forget 12 = .ok (.getfield 17, 3) := by decide +kernel
theorem dX5_forget_15 : decode cX5_forget 15 = .ok (.iload_n 1, 1) := by decide +kernel
theorem dX5_forget_16 : decode cX5_forget 16 = .ok (.iconst 0, 1) := by decide +kernel
theorem dX5_forget_17 : decode cX5_forget 17 = .ok (.bastore, 1) := by decide +kernel
theorem dX5_forget_18 : decode cX5_forget 18 = .ok (.iinc 1 1, 3) := by decide +kernel
theorem dX5_forget_21 : decode cX5_forget 21 = .ok (.goto (-19), 3) := by decide +kernel
theorem dX5_forget_24 : decode cX5_forget 24 = .ok (.return_, 1) := by decide +kernel
theorem dX5_find_0 : decode cX5_find 0 = .ok (.iload_n 1, 1) := by decide +kernel
theorem dX5_find_1 : decode cX5_find 1 = .ok (.invokestatic 22, 3) := by decide +kernel
theorem dX5_find_4 : decode cX5_find 4 = .ok (.ifCond .eq 21, 3) := by decide +kernel
theorem dX5_find_7 : decode cX5_find 7 = .ok (.aload_n 0, 1) := by decide +kernel
theorem dX5_find_8 : decode cX5_find 8 = .ok (.getfield 17, 3) := by decide +kernel
theorem dX5_find_11 : decode cX5_find 11 = .ok (.iload_n 1, 1) := by decide +kernel
theorem dX5_find_12 : decode cX5_find 12 = .ok (.baload, 1) := by decide +kernel
theorem dX5_find_13 : decode cX5_find 13 = .ok (.ifCond .eq 12, 3) := by decide +kernel
theorem dX5_find_16 : decode cX5_find 16 = .ok (.aload_n 0, 1) := by decide +kernel
theorem dX5_find_17 : decode cX5_find 17 = .ok (.getfield 11, 3) := by decide +kernel
theorem dX5_find_20 : decode cX5_find 20 = .ok (.iload_n 1, 1) := by decide +kernel
theorem dX5_find_21 : decode cX5_find 21 = .ok (.aaload, 1) := by decide +kernel
theorem dX5_find_22 : decode cX5_find 22 = .ok (.goto 4, 3) := by decide +kernel
theorem dX5_find_25 : decode cX5_find 25 = .ok (.aconst_null, 1) := by decide +kernel
theorem dX5_find_26 : decode cX5_find 26 = .ok (.areturn, 1) := by decide +kernel
theorem dX5_keep_0 : decode cX5_keep 0 = .ok (.iload_n 1, 1) := by decide +kernel
theorem dX5_keep_1 : decode cX5_keep 1 = .ok (.invokestatic 22, 3) := by decide +kernel
theorem dX5_keep_4 : decode cX5_keep 4 = .ok (.ifCond .eq 20, 3) := by decide +kernel
theorem dX5_keep_7 : decode cX5_keep 7 = .ok (.aload_n 0, 1) := by decide +kernel
theorem dX5_keep_8 : decode cX5_keep 8 = .ok (.getfield 11, 3) := by decide +kernel
theorem dX5_keep_11 : decode cX5_keep 11 = .ok (.iload_n 1, 1) := by decide +kernel
theorem dX5_keep_12 : decode cX5_keep 12 = .ok (.aaload, 1) := by decide +kernel
theorem dX5_keep_13 : decode cX5_keep 13 = .ok (.aload_n 2, 1) := by decide +kernel
theorem dX5_keep_14 : decode cX5_keep 14 = .ok (.invokevirtual 26, 3) := by decide +kernel
theorem dX5_keep_17 : decode cX5_keep 17 = .ok (.aload_n 0, 1) := by decide +kernel
theorem dX5_keep_18 : decode cX5_keep 18 = .ok (.getfield 17, 3) := by decide +kernel
theorem dX5_keep_21 : decode cX5_keep 21 = .ok (.iload_n 1, 1) := by decide +kernel
theorem dX5_keep_22 : decode cX5_keep 22 = .ok (.iconst 1, 1) := by decide +kernel
theorem dX5_keep_23 : decode cX5_keep 23 = .ok (.bastore, 1) := by decide +kernel
theorem dX5_keep_24 : decode cX5_keep 24 = .ok (.return_, 1) := by decide +kernel
theorem dX6_init_0 : decode cX6_init 0 = .ok (.aload_n 0, 1) := by decide +kernel
theorem dX6_init_1 : decode cX6_init 1 = .ok (.invokespecial 3, 3) := by decide +kernel
theorem dX6_init_4 : decode cX6_init 4 = .ok (.aload_n 0, 1) := by decide +kernel
theorem dX6_init_5 : decode cX6_init 5 = .ok (.sipush 600, 3) := by decide +kernel
theorem dX6_init_8 : decode cX6_init 8 = .ok (.newarray .byte, 2) := by decide +kernel
theorem dX6_init_10 : decode cX6_init 10 = .ok (.putfield 9, 3) := by decide +kernel
theorem dX6_init_13 : decode cX6_init 13 = .ok (.return_, 1) := by decide +kernel
theorem dX6_put_0 : decode cX6_put 0 = .ok (.bipush 24, 2) := by decide +kernel
theorem dX6_put_2 : decode cX6_put 2 = .ok (.istore_n 2, 1) := by decide +kernel
theorem dX6_put_3 : decode cX6_put 3 = .ok (.iload_n 2, 1) := by decide +kernel
theorem dX6_put_4 : decode cX6_put 4 = .ok (.ifCond .lt 44, 3) := by decide +kernel
theorem dX6_put_7 : decode cX6_put 7 = .ok (.aload_n 0, 1) := by decide +kernel
theorem dX6_put_8 : decode cX6_put 8 = .ok (.getfield 15, 3) := by decide +kernel
theorem dX6_put_11 : decode cX6_put 11 = .ok (.aload_n 0, 1) := by decide +kernel
theorem dX6_put_12 : decode cX6_put 12 = .ok (.getfield 9, 3) := by decide +kernel
theorem dX6_put_15 : decode cX6_put 15 = .ok (.arraylength, 1) := by decide +kernel
theorem dX6_put_16 : decode cX6_put 16 = .ok (.if_icmp .ge 32, 3) := by decide +kernel
theorem dX6_put_19 : decode cX6_put 19 = .ok (.aload_n 0, 1) := by decide +kernel
theorem dX6_put_20 : decode cX6_put 20 = .ok (.getfield 9, 3) := by decide +kernel
theorem dX6_put_23 : decode cX6_put 23 = .ok (.aload_n 0, 1) := by decide +kernel
theorem dX6_put_24 : decode cX6_put 24 = .ok (.getfield 15, 3) := by decide +kernel
theorem dX6_put_27 : decode cX6_put 27 = .ok (.iload_n 1, 1) := by decide +kernel
theorem dX6_put_28 : decode cX6_put 28 = .ok (.iload_n 2, 1) := by decide +kernel
theorem dX6_put_29 : decode cX6_put 29 = .ok (.ishr, 1) := by decide +kernel
theorem dX6_put_30 : decode cX6_put 30 = .ok (.i2b, 1) := by decide +kernel
theorem dX6_put_31 : decode cX6_put 31 = .ok (.bastore, 1) := by decide +kernel
theorem dX6_put_32 : decode cX6_put 32 = .ok (.aload_n 0, 1) := by decide +kernel
theorem dX6_put_33 : decode cX6_put 33 = .ok (.dup, 1) := by decide +kernel
theorem dX6_put_34 : decode cX6_put 34 = .ok (.getfield 15, 3) := by decide +kernel
theorem dX6_put_37 : decode cX6_put 37 = .ok (.iconst 1, 1) := by decide +kernel
theorem dX6_put_38 : decode cX6_put 38 = .ok (.iadd, 1) := by decide +kernel
theorem dX6_put_39 : decode cX6_put 39 = .ok (.putfield 15, 3) := by decide +kernel
theorem dX6_put_42 : decode cX6_put 42 = .ok (.iinc 2 (-8), 3) := by decide +kernel
theorem dX6_put_45 : decode cX6_put 45 = .ok (.goto (-42), 3) := by decide +kernel
theorem dX6_put_48 : decode cX6_put 48 = .ok (.return_, 1) := by decide +kernel
theorem dX6_begin_0 : decode cX6_begin 0 = .ok (.aload_n 0, 1) := by decide +kernel
theorem dX6_begin_1 : decode cX6_begin 1 = .ok (.iload_n 1, 1) := by decide +kernel
theorem dX6_begin_2 : decode cX6_begin 2 = .ok (.aload_n 0, 1) := by decide +kernel
theorem dX6_begin_3 : decode cX6_begin 3 = .ok (.getfield 15, 3) := by decide +kernel
theorem dX6_begin_6 : decode cX6_begin 6 = .ok (.invokestatic 19, 3) := by decide +kernel
theorem dX6_begin_9 : decode cX6_begin 9 = .ok (.putfield 25, 3) := by decide +kernel
theorem dX6_begin_12 : decode cX6_begin 12 = .ok (.aload_n 0, 1) := by decide +kernel
theorem dX6_begin_13 : decode cX6_begin 13 = .ok (.iconst 0, 1) := by decide +kernel
theorem dX6_begin_14 : decode cX6_begin 14 = .ok (.putfield 28, 3) := by decide +kernel
theorem dX6_begin_17 : decode cX6_begin 17 = .ok (.aload_n 0, 1) := by decide +kernel
theorem dX6_begin_18 : decode cX6_begin 18 = .ok (.iconst 0, 1) := by decide +kernel
theorem dX6_begin_19 : decode cX6_begin 19 = .ok (.putfield 31, 3) := by decide +kernel
theorem dX6_begin_22 : decode cX6_begin 22 = .ok (.aload_n 0, 1) := by decide +kernel
theorem dX6_begin_23 : decode cX6_begin 23 = .ok (.iconst 0, 1) := by decide +kernel
theorem dX6_begin_24 : decode cX6_begin 24 = .ok (.putfield 34, 3) := by decide +kernel
theorem dX6_begin_27 : decode cX6_begin 27 = .ok (.return_, 1) := by decide +kernel
theorem dX6_next_0 : decode cX6_next 0 = .ok (.aload_n 0, 1) := by decide +kernel
theorem dX6_next_1 : decode cX6_next 1 = .ok (.getfield 31, 3) := by decide +kernel
theorem dX6_next_4 : decode cX6_next 4 = .ok (.istore_n 1, 1) := by decide +kernel
theorem dX6_next_5 : decode cX6_next 5 = .ok (.aload_n 0, 1) := by decide +kernel
theorem dX6_next_6 : decode cX6_next 6 = .ok (.invokevirtual 37, 3) := by decide +kernel
theorem dX6_next_9 : decode cX6_next 9 = .ok (.istore_n 2, 1) := by decide +kernel
theorem dX6_next_10 : decode cX6_next 10 = .ok (.aload_n 0, 1) := by decide +kernel
theorem dX6_next_11 : decode cX6_next 11 = .ok (.getfield 31, 3) := by decide +kernel
theorem dX6_next_14 : decode cX6_next 14 = .ok (.aload_n 0, 1) := by decide +kernel
theorem dX6_next_15 : decode cX6_next 15 = .ok (.getfield 25, 3) := by decide +kernel
theorem dX6_next_18 : decode cX6_next 18 = .ok (.if_icmp .ge 32, 3) := by decide +kernel
theorem dX6_next_21 : decode cX6_next 21 = .ok (.aload_n 0, 1) := by decide +kernel
theorem dX6_next_22 : decode cX6_next 22 = .ok (.getfield 9, 3) := by decide +kernel
theorem dX6_next_25 : decode cX6_next 25 = .ok (.aload_n 0, 1) := by decide +kernel
theorem dX6_next_26 : decode cX6_next 26 = .ok (.getfield 31, 3) := by decide +kernel
theorem dX6_next_29 : decode cX6_next 29 = .ok (.baload, 1) := by decide +kernel
theorem dX6_next_30 : decode cX6_next 30 = .ok (.invokestatic 41, 3) := by decide +kernel
theorem dX6_next_33 : decode cX6_next 33 = .ok (.iconst 4, 1) := by decide +kernel
theorem dX6_next_34 : decode cX6_next 34 = .ok (.if_icmp .ne 16, 3) := by decide +kernel
theorem dX6_next_37 : decode cX6_next 37 = .ok (.aload_n 0, 1) := by decide +kernel
theorem dX6_next_38 : decode cX6_next 38 = .ok (.dup, 1) := by decide +kernel
theorem dX6_next_39 : decode cX6_next 39 = .ok (.getfield 31, 3) := by decide +kernel
theorem dX6_next_42 : decode cX6_next 42 = .ok (.iconst 1, 1) := by decide +kernel
theorem dX6_next_43 : decode cX6_next 43 = .ok (.iadd, 1) := by decide +kernel
theorem dX6_next_44 : decode cX6_next 44 = .ok (.putfield 31, 3) := by decide +kernel
theorem dX6_next_47 : decode cX6_next 47 = .ok (.goto (-37), 3) := by decide +kernel
theorem dX6_next_50 : decode cX6_next 50 = .ok (.aload_n 0, 1) := by decide +kernel
theorem dX6_next_51 : decode cX6_next 51 = .ok (.aload_n 0, 1) := by decide +kernel
theorem dX6_next_52 : decode cX6_next 52 = .ok (.getfield 31, 3) := by decide +kernel
theorem dX6_next_55 : decode cX6_next 55 = .ok (.putfield 28, 3) := by decide +kernel
theorem dX6_next_58 : decode cX6_next 58 = .ok (.aload_n 0, 1) := by decide +kernel
theorem dX6_next_59 : decode cX6_next 59 = .ok (.aload_n 0, 1) := by decide +kernel
theorem dX6_next_60 : decode cX6_next 60 = .ok (.getfield 28, 3) := by decide +kernel
theorem dX6_next_63 : decode cX6_next 63 = .ok (.aload_n 0, 1) := by decide +kernel
theorem dX6_next_64 : decode cX6_next 64 = .ok (.getfield 25, 3) := by decide +kernel
theorem dX6_next_67 : decode cX6_next 67 = .ok (.if_icmp .ge 18, 3) := by decide +kernel
theorem dX6_next_70 : decode cX6_next 70 = .ok (.aload_n 0, 1) := by decide +kernel
theorem dX6_next_71 : decode cX6_next 71 = .ok (.getfield 9, 3) := by decide +kernel
theorem dX6_next_74 : decode cX6_next 74 = .ok (.aload_n 0, 1) := by decide +kernel
theorem dX6_next_75 : decode cX6_next 75 = .ok (.getfield 28, 3) := by decide +kernel
theorem dX6_next_78 : decode cX6_next 78 = .ok (.baload, 1) := by decide +kernel
theorem dX6_next_79 : decode cX6_next 79 = .ok (.invokestatic 41, 3) := by decide +kernel
theorem dX6_next_82 : decode cX6_next 82 = .ok (.goto 4, 3) := by decide +kernel
theorem dX6_next_85 : decode cX6_next 85 = .ok (.iconst 0, 1) := by decide +kernel
theorem dX6_next_86 : decode cX6_next 86 = .ok (.putfield 34, 3) := by decide +kernel
theorem dX6_next_89 : decode cX6_next 89 = .ok (.aload_n 0, 1) := by decide +kernel
theorem dX6_next_90 : decode cX6_next 90 = .ok (.getfield 34, 3) := by decide +kernel
theorem dX6_next_93 : decode cX6_next 93 = .ok (.ifCond .eq 13, 3) := by decide +kernel
theorem dX6_next_96 : decode cX6_next 96 = .ok (.aload_n 0, 1) := by decide +kernel
theorem dX6_next_97 : decode cX6_next 97 = .ok (.dup, 1) := by decide +kernel
theorem dX6_next_98 : decode cX6_next 98 = .ok (.getfield 31, 3) := by decide +kernel
theorem dX6_next_101 : decode cX6_next 101 = .ok (.iconst 1, 1) := by decide +kernel
theorem dX6_next_102 : decode cX6_next 102 = .ok (.iadd, 1) := by decide +kernel
theorem dX6_next_103 : decode cX6_next 103 = .ok (.putfield 31, 3) := by decide +kernel
theorem dX6_next_106 : decode cX6_next 106 = .ok (.aload_n 0, 1) := by decide +kernel
theorem dX6_next_107 : decode cX6_next 107 = .ok (.invokevirtual 37, 3) := by decide +kernel
theorem dX6_next_110 : decode cX6_next 110 = .ok (.ifCond .eq 46, 3) := by decide +kernel
theorem dX6_next_113 : decode cX6_next 113 = .ok (.aload_n 0, 1) := by decide +kernel
theorem dX6_next_114 : decode cX6_next 114 = .ok (.getfield 31, 3) := by decide +kernel
theorem dX6_next_117 : decode cX6_next 117 = .ok (.aload_n 0, 1) := by decide +kernel
theorem dX6_next_118 : decode cX6_next 118 = .ok (.getfield 25, 3) := by decide +kernel
theorem dX6_next_121 : decode cX6_next 121 = .ok (.if_icmp .ge 35, 3) := by decide +kernel
theorem dX6_next_124 : decode cX6_next 124 = .ok (.aload_n 0, 1) := by decide +kernel
theorem dX6_next_125 : decode cX6_next 125 = .ok (.getfield 9, 3) := by decide +kernel
theorem dX6_next_128 : decode cX6_next 128 = .ok (.aload_n 0, 1) := by decide +kernel
theorem dX6_next_129 : decode cX6_next 129 = .ok (.getfield 31, 3) := by decide +kernel
theorem dX6_next_132 : decode cX6_next 132 = .ok (.baload, 1) := by decide +kernel
theorem dX6_next_133 : decode cX6_next 133 = .ok (.invokestatic 41, 3) := by decide +kernel
theorem dX6_next_136 : decode cX6_next 136 = .ok (.aload_n 0, 1) := by decide +kernel
theorem dX6_next_137 : decode cX6_next 137 = .ok (.getfield 34, 3) := by decide +kernel
theorem dX6_next_140 : decode cX6_next 140 = .ok (.if_icmp .ne 16, 3) := by decide +kernel
theorem dX6_next_143 : decode cX6_next 143 = .ok (.aload_n 0, 1) := by decide +kernel
theorem dX6_next_144 : decode cX6_next 144 = .ok (.dup, 1) := by decide +kernel
theorem dX6_next_145 : decode cX6_next 145 = .ok (.getfield 31, 3) := by decide +kernel
theorem dX6_next_148 : decode cX6_next 148 = .ok (.iconst 1, 1) := by decide +kernel
theorem dX6_next_149 : decode cX6_next 149 = .ok (.iadd, 1) := by decide +kernel
theorem dX6_next_150 : decode cX6_next 150 = .ok (.putfield 31, 3) := by decide +kernel
theorem dX6_next_153 : decode cX6_next 153 = .ok (.goto (-47), 3) := by decide +kernel
theorem dX6_next_156 : decode cX6_next 156 = .ok (.aload_n 0, 1) := by decide +kernel
theorem dX6_next_157 : decode cX6_next 157 = .ok (.invokevirtual 37, 3) := by decide +kernel
theorem dX6_next_160 : decode cX6_next 160 = .ok (.ifCond .eq 19, 3) := by decide +kernel
theorem dX6_next_163 : decode cX6_next 163 = .ok (.iload_n 2, 1) := by decide +kernel
theorem dX6_next_164 : decode cX6_next 164 = .ok (.ifCond .eq 15, 3) := by decide +kernel
theorem dX6_next_167 : decode cX6_next 167 = .ok (.aload_n 0, 1) := by decide +kernel
theorem dX6_next_168 : decode cX6_next 168 = .ok (.getfield 28, 3) := by decide +kernel
theorem dX6_next_171 : decode cX6_next 171 = .ok (.iload_n 1, 1) := by decide +kernel
theorem dX6_next_172 : decode cX6_next 172 = .ok (.if_icmp .ne 7, 3) := by decide +kernel
theorem dX6_next_175 : decode cX6_next 175 = .ok (.iconst 1, 1) := by decide +kernel
theorem dX6_next_176 : decode cX6_next 176 = .ok (.goto 4, 3) := by decide +kernel
theorem dX6_next_179 : decode cX6_next 179 = .ok (.iconst 0, 1) := by decide +kernel
theorem dX6_next_180 : decode cX6_next 180 = .ok (.istore_n 3, 1) := by decide +kernel
theorem dX6_next_181 : decode cX6_next 181 = .ok (.iload_n 3, 1) := by decide +kernel
theorem dX6_next_182 : decode cX6_next 182 = .ok (.ifCond .ne 24, 3) := by decide +kernel
theorem dX6_next_185 : decode cX6_next 185 = .ok (.aload_n 0, 1) := by decide +kernel
theorem dX6_next_186 : decode cX6_next 186 = .ok (.getfield 34, 3) := by decide +kernel
theorem dX6_next_189 : decode cX6_next 189 = .ok (.iconst 2, 1) := by decide +kernel
theorem dX6_next_190 : decode cX6_next 190 = .ok (.if_icmp .ne 21, 3) := by decide +kernel
theorem dX6_next_193 : decode cX6_next 193 = .ok (.aload_n 0, 1) := by decide +kernel
theorem dX6_next_194 : decode cX6_next 194 = .ok (.getfield 31, 3) := by decide +kernel
theorem dX6_next_197 : decode cX6_next 197 = .ok (.aload_n 0, 1) := by decide +kernel
theorem dX6_next_198 : decode cX6_next 198 = .ok (.getfield 28, 3) := by decide +kernel
theorem dX6_next_201 : decode cX6_next 201 = .ok (.isub, 1) := by decide +kernel
theorem dX6_next_202 : decode cX6_next 202 = .ok (.iconst 3, 1) := by decide +kernel
theorem dX6_next_203 : decode cX6_next 203 = .ok (.if_icmp .le 8, 3) := by decide +kernel
theorem dX6_next_206 : decode cX6_next 206 = .ok (.aload_n 0, 1) := by decide +kernel
theorem dX6_next_207 : decode cX6_next 207 = .ok (.iconst 5, 1) := by decide +kernel
theorem dX6_next_208 : decode cX6_next 208 = .ok (.putfield 34, 3) := by decide +kernel
theorem dX6_next_211 : decode cX6_next 211 = .ok (.return_, 1) := by decide +kernel
theorem dX6_isRun_0 : decode cX6_isRun 0 = .ok (.aload_n 0, 1) := by decide +kernel
theorem dX6_isRun_1 : decode cX6_isRun 1 = .ok (.getfield 34, 3) := by decide +kernel
theorem dX6_isRun_4 : decode cX6_isRun 4 = .ok (.iconst 1, 1) := by decide +kernel
theorem dX6_isRun_5 : decode cX6_isRun 5 = .ok (.if_icmp .eq 11, 3) := by decide +kernel
theorem dX6_isRun_8 : decode cX6_isRun 8 = .ok (.aload_n 0, 1) := by decide +kernel
theorem dX6_isRun_9 : decode cX6_isRun 9 = .ok (.getfield 34, 3) := by decide +kernel
theorem dX6_isRun_12 : decode cX6_isRun 12 = .ok (.iconst 2, 1) := by decide +kernel
theorem dX6_isRun_13 : decode cX6_isRun 13 = .ok (.if_icmp .ne 7, 3) := by decide +kernel
theorem dX6_isRun_16 : decode cX6_isRun 16 = .ok (.iconst 1, 1) := by decide +kernel
theorem dX6_isRun_17 : decode cX6_isRun 17 = .ok (.goto 4, 3) := by decide +kernel
theorem dX6_isRun_20 : decode cX6_isRun 20 = .ok (.iconst 0, 1) := by decide +kernel
theorem dX6_isRun_21 : decode cX6_isRun 21 = .ok (.ireturn, 1) := by decide +kernel
theorem dX6_kindOf_0 : decode cX6_kindOf 0 = .ok (.iload_n 0, 1) := by decide +kernel
theorem dX6_kindOf_1 : decode cX6_kindOf 1 = .ok (.bipush 97, 2) := by decide +kernel
theorem dX6_kindOf_3 : decode cX6_kindOf 3 = .ok (.if_icmp .lt 11, 3) := by decide +kernel
theorem dX6_kindOf_6 : decode cX6_kindOf 6 = .ok (.iload_n 0, 1) := by decide +kernel
theorem dX6_kindOf_7 : decode cX6_kindOf 7 = .ok (.bipush 122, 2) := by decide +kernel
theorem dX6_kindOf_9 : decode cX6_kindOf 9 = .ok (.if_icmp .gt 5, 3) := by decide +kernel
theorem dX6_kindOf_12 : decode cX6_kindOf 12 = .ok (.iconst 1, 1) := by decide +kernel
theorem dX6_kindOf_13 : decode cX6_kindOf 13 = .ok (.ireturn, 1) := by decide +kernel
theorem dX6_kindOf_14 : decode cX6_kindOf 14 = .ok (.iload_n 0, 1) := by decide +kernel
theorem dX6_kindOf_15 : decode cX6_kindOf 15 = .ok (.bipush 48, 2) := by decide +kernel
theorem dX6_kindOf_17 : decode cX6_kindOf 17 = .ok (.if_icmp .lt 11, 3) := by decide +kernel
theorem dX6_kindOf_20 : decode cX6_kindOf 20 = .ok (.iload_n 0, 1) := by decide +kernel
theorem dX6_kindOf_21 : decode cX6_kindOf 21 = .ok (.bipush 57, 2) := by decide +kernel
theorem dX6_kindOf_23 : decode cX6_kindOf 23 = .ok (.if_icmp .gt 5, 3) := by decide +kernel
theorem dX6_kindOf_26 : decode cX6_kindOf 26 = .ok (.iconst 2, 1) := by decide +kernel
theorem dX6_kindOf_27 : decode cX6_kindOf 27 = .ok (.ireturn, 1) := by decide +kernel
theorem dX6_kindOf_28 : decode cX6_kindOf 28 = .ok (.iload_n 0, 1) := by decide +kernel
theorem dX6_kindOf_29 : decode cX6_kindOf 29 = .ok (.bipush 59, 2) := by decide +kernel
theorem dX6_kindOf_31 : decode cX6_kindOf 31 = .ok (.if_icmp .ne 5, 3) := by decide +kernel
theorem dX6_kindOf_34 : decode cX6_kindOf 34 = .ok (.iconst 3, 1) := by decide +kernel
theorem dX6_kindOf_35 : decode cX6_kindOf 35 = .ok (.ireturn, 1) := by decide +kernel
theorem dX6_kindOf_36 : decode cX6_kindOf 36 = .ok (.iload_n 0, 1) := by decide +kernel
theorem dX6_kindOf_37 : decode cX6_kindOf 37 = .ok (.bipush 32, 2) := by decide +kernel
theorem dX6_kindOf_39 : decode cX6_kindOf 39 = .ok (.if_icmp .eq 9, 3) := by decide +kernel
theorem dX6_kindOf_42 : decode cX6_kindOf 42 = .ok (.iload_n 0, 1) := by decide +kernel
theorem dX6_kindOf_43 : decode cX6_kindOf 43 = .ok (.bipush 10, 2) := by decide +kernel
theorem dX6_kindOf_45 : decode cX6_kindOf 45 = .ok (.if_icmp .ne 7, 3) := by decide +kernel
theorem dX6_kindOf_48 : decode cX6_kindOf 48 = .ok (.iconst 4, 1) := by decide +kernel
theorem dX6_kindOf_49 : decode cX6_kindOf 49 = .ok (.goto 4, 3) := by decide +kernel
theorem dX6_kindOf_52 : decode cX6_kindOf 52 = .ok (.iconst 5, 1) := by decide +kernel
theorem dX6_kindOf_53 : decode cX6_kindOf 53 = .ok (.ireturn, 1) := by decide +kernel
theorem dX6_isWord_0 : decode cX6_isWord 0 = .ok (.aload_n 0, 1) := by decide +kernel
theorem dX6_isWord_1 : decode cX6_isWord 1 = .ok (.getfield 34, 3) := by decide +kernel
theorem dX6_isWord_4 : decode cX6_isWord 4 = .ok (.iconst 1, 1) := by decide +kernel
theorem dX6_isWord_5 : decode cX6_isWord 5 = .ok (.if_icmp .ne 19, 3) := by decide +kernel
theorem dX6_isWord_8 : decode cX6_isWord 8 = .ok (.aload_n 0, 1) := by decide +kernel
theorem dX6_isWord_9 : decode cX6_isWord 9 = .ok (.getfield 31, 3) := by decide +kernel
theorem dX6_isWord_12 : decode cX6_isWord 12 = .ok (.aload_n 0, 1) := by decide +kernel
theorem dX6_isWord_13 : decode cX6_isWord 13 = .ok (.getfield 28, 3) := by decide +kernel
theorem dX6_isWord_16 : decode cX6_isWord 16 = .ok (.isub, 1) := by decide +kernel
theorem dX6_isWord_17 : decode cX6_isWord 17 = .ok (.aload_n 1, 1) := by decide +kernel
theorem dX6_isWord_18 : decode cX6_isWord 18 = .ok (.invokevirtual 45, 3) := by decide +kernel
theorem dX6_isWord_21 : decode cX6_isWord 21 = .ok (.if_icmp .eq 5, 3) := by decide +kernel
theorem dX6_isWord_24 : decode cX6_isWord 24 = .ok (.iconst 0, 1) := by decide +kernel
theorem dX6_isWord_25 : decode cX6_isWord 25 = .ok (.ireturn, 1) := by decide +kernel
theorem dX6_isWord_26 : decode cX6_isWord 26 = .ok (.iconst 0, 1) := by decide +kernel
theorem dX6_isWord_27 : decode cX6_isWord 27 = .ok (.istore_n 2, 1) := by decide +kernel
theorem dX6_isWord_28 : decode cX6_isWord 28 = .ok (.iload_n 2, 1) := by decide +kernel
theorem dX6_isWord_29 : decode cX6_isWord 29 = .ok (.aload_n 1, 1) := by decide +kernel
theorem dX6_isWord_30 : decode cX6_isWord 30 = .ok (.invokevirtual 45, 3) := by decide +kernel
theorem dX6_isWord_33 : decode cX6_isWord 33 = .ok (.if_icmp .ge 30, 3) := by decide +kernel
theorem dX6_isWord_36 : decode cX6_isWord 36 = .ok (.aload_n 0, 1) := by decide +kernel
theorem dX6_isWord_37 : decode cX6_isWord 37 = .ok (.getfield 9, 3) := by decide +kernel
theorem dX6_isWord_40 : decode cX6_isWord 40 = .ok (.aload_n 0, 1) := by decide +kernel
theorem dX6_isWord_41 : decode cX6_isWord 41 = .ok (.getfield 28, 3) := by decide +kernel
theorem dX6_isWord_44 : decode cX6_isWord 44 = .ok (.iload_n 2, 1) := by decide +kernel
theorem dX6_isWord_45 : decode cX6_isWord 45 = .ok (.iadd, 1) := by decide +kernel
theorem dX6_isWord_46 : decode cX6_isWord 46 = .ok (.baload, 1) := by decide +kernel
theorem dX6_isWord_47 : decode cX6_isWord 47 = .ok (.aload_n 1, 1) := by decide +kernel
theorem dX6_isWord_48 : decode cX6_isWord 48 = .ok (.iload_n 2, 1) := by decide +kernel
theorem dX6_isWord_49 : decode cX6_isWord 49 = .ok (.invokevirtual 50, 3) := by decide +kernel
theorem dX6_isWord_52 : decode cX6_isWord 52 = .ok (.if_icmp .eq 5, 3) := by decide +kernel
theorem dX6_isWord_55 : decode cX6_isWord 55 = .ok (.iconst 0, 1) := by decide +kernel
theorem dX6_isWord_56 : decode cX6_isWord 56 = .ok (.ireturn, 1) := by decide +kernel
theorem dX6_isWord_57 : decode cX6_isWord 57 = .ok (.iinc 2 1, 3) := by decide +kernel
theorem dX6_isWord_60 : decode cX6_isWord 60 = .ok (.goto (-32), 3) := by decide +kernel
theorem dX6_isWord_63 : decode cX6_isWord 63 = .ok (.iconst 1, 1) := by decide +kernel
theorem dX6_isWord_64 : decode cX6_isWord 64 = .ok (.ireturn, 1) := by decide +kernel
theorem dX6_value_0 : decode cX6_value 0 = .ok (.iconst 0, 1) := by decide +kernel
theorem dX6_value_1 : decode cX6_value 1 = .ok (.istore_n 1, 1) := by decide +kernel
theorem dX6_value_2 : decode cX6_value 2 = .ok (.aload_n 0, 1) := by decide +kernel
theorem dX6_value_3 : decode cX6_value 3 = .ok (.getfield 28, 3) := by decide +kernel
theorem dX6_value_6 : decode cX6_value 6 = .ok (.istore_n 2, 1) := by decide +kernel
theorem dX6_value_7 : decode cX6_value 7 = .ok (.iload_n 2, 1) := by decide +kernel
theorem dX6_value_8 : decode cX6_value 8 = .ok (.aload_n 0, 1) := by decide +kernel
theorem dX6_value_9 : decode cX6_value 9 = .ok (.getfield 31, 3) := by decide +kernel
theorem dX6_value_12 : decode cX6_value 12 = .ok (.if_icmp .ge 24, 3) := by decide +kernel
theorem dX6_value_15 : decode cX6_value 15 = .ok (.iload_n 1, 1) := by decide +kernel
theorem dX6_value_16 : decode cX6_value 16 = .ok (.bipush 10, 2) := by decide +kernel
theorem dX6_value_18 : decode cX6_value 18 = .ok (.imul, 1) := by decide +kernel
theorem dX6_value_19 : decode cX6_value 19 = .ok (.aload_n 0, 1) := by decide +kernel
theorem dX6_value_20 : decode cX6_value 20 = .ok (.getfield 9, 3) := by decide +kernel
theorem dX6_value_23 : decode cX6_value 23 = .ok (.iload_n 2, 1) := by decide +kernel
theorem dX6_value_24 : decode cX6_value 24 = .ok (.baload, 1) := by decide +kernel
theorem dX6_value_25 : decode cX6_value 25 = .ok (.bipush 48, 2) := by decide +kernel
theorem dX6_value_27 : decode cX6_value 27 = .ok (.isub, 1) := by decide +kernel
theorem dX6_value_28 : decode cX6_value 28 = .ok (.iadd, 1) := by decide +kernel
theorem dX6_value_29 : decode cX6_value 29 = .ok (.istore_n 1, 1) := by decide +kernel
theorem dX6_value_30 : decode cX6_value 30 = .ok (.iinc 2 1, 3) := by decide +kernel
theorem dX6_value_33 : decode cX6_value 33 = .ok (.goto (-26), 3) := by decide +kernel
theorem dX6_value_36 : decode cX6_value 36 = .ok (.iload_n 1, 1) := by decide +kernel
theorem dX6_value_37 : decode cX6_value 37 = .ok (.ireturn, 1) := by decide +kernel
theorem dX7_init_0 : decode cX7_init 0 = .ok (.aload_n 0, 1) := by decide +kernel
theorem dX7_init_1 : decode cX7_init 1 = .ok (.invokespecial 1, 3) := by decide +kernel
theorem dX7_init_4 : decode cX7_init 4 = .ok (.aload_n 0, 1) := by decide +kernel
theorem dX7_init_5 : decode cX7_init 5 = .ok (.new 7, 3) := by decide +kernel
theorem dX7_init_8 : decode cX7_init 8 = .ok (.dup, 1) := by decide +kernel
theorem dX7_init_9 : decode cX7_init 9 = .ok (.invokespecial 9, 3) := by decide +kernel
theorem dX7_init_12 : decode cX7_init 12 = .ok (.putfield 10, 3) := by decide +kernel
theorem dX7_init_15 : decode cX7_init 15 = .ok (.aload_n 0, 1) := by decide +kernel
theorem dX7_init_16 : decode cX7_init 16 = .ok (.new 16, 3) := by decide +kernel
theorem dX7_init_19 : decode cX7_init 19 = .ok (.dup, 1) := by decide +kernel
theorem dX7_init_20 : decode cX7_init 20 = .ok (.invokespecial 18, 3) := by decide +kernel
theorem dX7_init_23 : decode cX7_init 23 = .ok (.putfield 19, 3) := by decide +kernel
theorem dX7_init_26 : decode cX7_init 26 = .ok (.aload_n 0, 1) := by decide +kernel
theorem dX7_init_27 : decode cX7_init 27 = .ok (.new 23, 3) := by decide +kernel
theorem dX7_init_30 : decode cX7_init 30 = .ok (.dup, 1) := by decide +kernel
theorem dX7_init_31 : decode cX7_init 31 = .ok (.invokespecial 25, 3) := by decide +kernel
theorem dX7_init_34 : decode cX7_init 34 = .ok (.putfield 26, 3) := by decide +kernel
theorem dX7_init_37 : decode cX7_init 37 = .ok (.aload_n 0, 1) := by decide +kernel
theorem dX7_init_38 : decode cX7_init 38 = .ok (.new 30, 3) := by decide +kernel
theorem dX7_init_41 : decode cX7_init 41 = .ok (.dup, 1) := by decide +kernel
theorem dX7_init_42 : decode cX7_init 42 = .ok (.invokespecial 32, 3) := by decide +kernel
theorem dX7_init_45 : decode cX7_init 45 = .ok (.putfield 33, 3) := by decide +kernel
theorem dX7_init_48 : decode cX7_init 48 = .ok (.aload_n 0, 1) := by decide +kernel
theorem dX7_init_49 : decode cX7_init 49 = .ok (.new 37, 3) := by decide +kernel
theorem dX7_init_52 : decode cX7_init 52 = .ok (.dup, 1) := by decide +kernel
theorem dX7_init_53 : decode cX7_init 53 = .ok (.invokespecial 39, 3) := by decide +kernel
theorem dX7_init_56 : decode cX7_init 56 = .ok (.putfield 40, 3) := by decide +kernel
theorem dX7_init_59 : decode cX7_init 59 = .ok (.aload_n 0, 1) := by decide +kernel
theorem dX7_init_60 : decode cX7_init 60 = .ok (.new 44, 3) := by decide +kernel
theorem dX7_init_63 : decode cX7_init 63 = .ok (.dup, 1) := by decide +kernel
theorem dX7_init_64 : decode cX7_init 64 = .ok (.invokespecial 46, 3) := by decide +kernel
theorem dX7_init_67 : decode cX7_init 67 = .ok (.putfield 47, 3) := by decide +kernel
theorem dX7_init_70 : decode cX7_init 70 = .ok (.aload_n 0, 1) := by decide +kernel
theorem dX7_init_71 : decode cX7_init 71 = .ok (.getfield 10, 3) := by decide +kernel
theorem dX7_init_74 : decode cX7_init 74 = .ok (.bipush 60, 2) := by decide +kernel
theorem dX7_init_76 : decode cX7_init 76 = .ok (.bipush 20, 2) := by decide +kernel
theorem dX7_init_78 : decode cX7_init 78 = .ok (.iconst 2, 1) := by decide +kernel
theorem dX7_init_79 : decode cX7_init 79 = .ok (.invokevirtual 51, 3) := by decide +kernel
theorem dX7_init_82 : decode cX7_init 82 = .ok (.aload_n 0, 1) := by decide +kernel
theorem dX7_init_83 : decode cX7_init 83 = .ok (.getfield 10, 3) := by decide +kernel
theorem dX7_init_86 : decode cX7_init 86 = .ok (.bipush 10, 2) := by decide +kernel
theorem dX7_init_88 : decode cX7_init 88 = .ok (.invokevirtual 55, 3) := by decide +kernel
theorem dX7_init_91 : decode cX7_init 91 = .ok (.aload_n 0, 1) := by decide +kernel
theorem dX7_init_92 : decode cX7_init 92 = .ok (.getfield 10, 3) := by decide +kernel
theorem dX7_init_95 : decode cX7_init 95 = .ok (.iconst 4, 1) := by decide +kernel
theorem dX7_init_96 : decode cX7_init 96 = .ok (.invokevirtual 55, 3) := by decide +kernel
theorem dX7_init_99 : decode cX7_init 99 = .ok (.aload_n 0, 1) := by decide +kernel
theorem dX7_init_100 : decode cX7_init 100 = .ok (.getfield 10, 3) := by decide +kernel
theorem dX7_init_103 : decode cX7_init 103 = .ok (.bipush 30, 2) := by decide +kernel
theorem dX7_init_105 : decode cX7_init 105 = .ok (.invokevirtual 59, 3) := by decide +kernel
theorem dX7_init_108 : decode cX7_init 108 = .ok (.aload_n 0, 1) := by decide +kernel
theorem dX7_init_109 : decode cX7_init 109 = .ok (.getfield 10, 3) := by decide +kernel
theorem dX7_init_112 : decode cX7_init 112 = .ok (.iconst 3, 1) := by decide +kernel
theorem dX7_init_113 : decode cX7_init 113 = .ok (.invokevirtual 59, 3) := by decide +kernel
theorem dX7_init_116 : decode cX7_init 116 = .ok (.aload_n 0, 1) := by decide +kernel
theorem dX7_init_117 : decode cX7_init 117 = .ok (.getfield 10, 3) := by decide +kernel
theorem dX7_init_120 : decode cX7_init 120 = .ok (.bipush 50, 2) := by decide +kernel
theorem dX7_init_122 : decode cX7_init 122 = .ok (.putfield 62, 3) := by decide +kernel
theorem dX7_init_125 : decode cX7_init 125 = .ok (.aload_n 0, 1) := by decide +kernel
theorem dX7_init_126 : decode cX7_init 126 = .ok (.getfield 10, 3) := by decide +kernel
theorem dX7_init_129 : decode cX7_init 129 = .ok (.iconst 3, 1) := by decide +kernel
theorem dX7_init_130 : decode cX7_init 130 = .ok (.invokevirtual 66, 3) := by decide +kernel
theorem dX7_init_133 : decode cX7_init 133 = .ok (.pop, 1) := by decide +kernel
theorem dX7_init_134 : decode cX7_init 134 = .ok (.aload_n 0, 1) := by decide +kernel
theorem dX7_init_135 : decode cX7_init 135 = .ok (.getfield 10, 3) := by decide +kernel
theorem dX7_init_138 : decode cX7_init 138 = .ok (.getfield 70, 3) := by decide +kernel
theorem dX7_init_141 : decode cX7_init 141 = .ok (.iconst 1, 1) := by decide +kernel
theorem dX7_init_142 : decode cX7_init 142 = .ok (.aaload, 1) := by decide +kernel
theorem dX7_init_143 : decode cX7_init 143 = .ok (.iconst 2, 1) := by decide +kernel
theorem dX7_init_144 : decode cX7_init 144 = .ok (.putfield 74, 3) := by decide +kernel
theorem dX7_init_147 : decode cX7_init 147 = .ok (.aload_n 0, 1) := by decide +kernel
theorem dX7_init_148 : decode cX7_init 148 = .ok (.getfield 10, 3) := by decide +kernel
theorem dX7_init_151 : decode cX7_init 151 = .ok (.iconst 2, 1) := by decide +kernel
theorem dX7_init_152 : decode cX7_init 152 = .ok (.invokevirtual 66, 3) := by decide +kernel
theorem dX7_init_155 : decode cX7_init 155 = .ok (.pop, 1) := by decide +kernel
theorem dX7_init_156 : decode cX7_init 156 = .ok (.return_, 1) := by decide +kernel
theorem dX7_append_0 : decode cX7_append 0 = .ok (.aload_n 0, 1) := by decide +kernel
theorem dX7_append_1 : decode cX7_append 1 = .ok (.getfield 19, 3) := by decide +kernel
theorem dX7_append_4 : decode cX7_append 4 = .ok (.getfield 77, 3) := by decide +kernel
theorem dX7_append_7 : decode cX7_append 7 = .ok (.getfield 81, 3) := by decide +kernel
theorem dX7_append_10 : decode cX7_append 10 = .ok (.sipush 580, 3) := by decide +kernel
theorem dX7_append_13 : decode cX7_append 13 = .ok (.if_icmp .le 13, 3) := by decide +kernel
theorem dX7_append_16 : decode cX7_append 16 = .ok (.new 86, 3) := by decide +kernel
theorem dX7_append_19 : decode cX7_append 19 = .ok (.dup, 1) := by decide +kernel
theorem dX7_append_20 : decode cX7_append 20 = .ok (.ldc 88, 2) := by decide +kernel
theorem dX7_append_22 : decode cX7_append 22 = .ok (.invokespecial 90, 3) := by decide +kernel
theorem dX7_append_25 : decode cX7_append 25 = .ok (.athrow, 1) := by decide +kernel
theorem dX7_append_26 : decode cX7_append 26 = .ok (.aload_n 0, 1) := by decide +kernel
theorem dX7_append_27 : decode cX7_append 27 = .ok (.getfield 19, 3) := by decide +kernel
theorem dX7_append_30 : decode cX7_append 30 = .ok (.getfield 77, 3) := by decide +kernel
theorem dX7_append_33 : decode cX7_append 33 = .ok (.iload_n 1, 1) := by decide +kernel
theorem dX7_append_34 : decode cX7_append 34 = .ok (.invokevirtual 93, 3) := by decide +kernel
theorem dX7_append_37 : decode cX7_append 37 = .ok (.aload_n 0, 1) := by decide +kernel
theorem dX7_append_38 : decode cX7_append 38 = .ok (.getfield 19, 3) := by decide +kernel
theorem dX7_append_41 : decode cX7_append 41 = .ok (.getfield 77, 3) := by decide +kernel
theorem dX7_append_44 : decode cX7_append 44 = .ok (.iload_n 2, 1) := by decide +kernel
theorem dX7_append_45 : decode cX7_append 45 = .ok (.invokevirtual 93, 3) := by decide +kernel
theorem dX7_append_48 : decode cX7_append 48 = .ok (.aload_n 0, 1) := by decide +kernel
theorem dX7_append_49 : decode cX7_append 49 = .ok (.getfield 19, 3) := by decide +kernel
theorem dX7_append_52 : decode cX7_append 52 = .ok (.getfield 77, 3) := by decide +kernel
theorem dX7_append_55 : decode cX7_append 55 = .ok (.iload_n 3, 1) := by decide +kernel
theorem dX7_append_56 : decode cX7_append 56 = .ok (.invokevirtual 93, 3) := by decide +kernel
theorem dX7_append_59 : decode cX7_append 59 = .ok (.aload_n 0, 1) := by decide +kernel
theorem dX7_append_60 : decode cX7_append 60 = .ok (.getfield 19, 3) := by decide +kernel
theorem dX7_append_63 : decode cX7_append 63 = .ok (.getfield 77, 3) := by decide +kernel
theorem dX7_append_66 : decode cX7_append 66 = .ok (.iload 4, 2) := by decide +kernel
theorem dX7_append_68 : decode cX7_append 68 = .ok (.invokevirtual 93, 3) := by decide +kernel
theorem dX7_append_71 : decode cX7_append 71 = .ok (.aload_n 0, 1) := by decide +kernel
theorem dX7_append_72 : decode cX7_append 72 = .ok (.getfield 19, 3) := by decide +kernel
theorem dX7_append_75 : decode cX7_append 75 = .ok (.getfield 77, 3) := by decide +kernel
theorem dX7_append_78 : decode cX7_append 78 = .ok (.iload 5, 2) := by decide +kernel
theorem dX7_append_80 : decode cX7_append 80 = .ok (.invokevirtual 93, 3) := by decide +kernel
theorem dX7_append_83 : decode cX7_append 83 = .ok (.aload_n 0, 1) := by decide +kernel
theorem dX7_append_84 : decode cX7_append 84 = .ok (.getfield 19, 3) := by decide +kernel
theorem dX7_append_87 : decode cX7_append 87 = .ok (.getfield 77, 3) := by decide +kernel
theorem dX7_append_90 : decode cX7_append 90 = .ok (.getfield 81, 3) := by decide +kernel
theorem dX7_append_93 : decode cX7_append 93 = .ok (.ireturn, 1) := by decide +kernel
theorem dX7_load_0 : decode cX7_load 0 = .ok (.iload_n 1, 1) := by decide +kernel
theorem dX7_load_1 : decode cX7_load 1 = .ok (.ifCond .lt 17, 3) := by decide +kernel
theorem dX7_load_4 : decode cX7_load 4 = .ok (.iload_n 1, 1) := by decide +kernel
theorem dX7_load_5 : decode cX7_load 5 = .ok (.aload_n 0, 1) := by decide +kernel
theorem dX7_load_6 : decode cX7_load 6 = .ok (.getfield 19, 3) := by decide +kernel
theorem dX7_load_9 : decode cX7_load 9 = .ok (.getfield 77, 3) := by decide +kernel
theorem dX7_load_12 : decode cX7_load 12 = .ok (.getfield 81, 3) := by decide +kernel
theorem dX7_load_15 : decode cX7_load 15 = .ok (.if_icmp .le 13, 3) := by decide +kernel
theorem dX7_load_18 : decode cX7_load 18 = .ok (.new 96, 3) := by decide +kernel
theorem dX7_load_21 : decode cX7_load 21 = .ok (.dup, 1) := by decide +kernel
theorem dX7_load_22 : decode cX7_load 22 = .ok (.ldc 98, 2) := by decide +kernel
theorem dX7_load_24 : decode cX7_load 24 = .ok (.invokespecial 100, 3) := by decide +kernel
theorem dX7_load_27 : decode cX7_load 27 = .ok (.athrow, 1) := by decide +kernel
theorem dX7_load_28 : decode cX7_load 28 = .ok (.aload_n 0, 1) := by decide +kernel
theorem dX7_load_29 : decode cX7_load 29 = .ok (.getfield 19, 3) := by decide +kernel
theorem dX7_load_32 : decode cX7_load 32 = .ok (.iload_n 1, 1) := by decide +kernel
theorem dX7_load_33 : decode cX7_load 33 = .ok (.invokevirtual 101, 3) := by decide +kernel
theorem dX7_load_36 : decode cX7_load 36 = .ok (.aload_n 0, 1) := by decide +kernel
theorem dX7_load_37 : decode cX7_load 37 = .ok (.getfield 19, 3) := by decide +kernel
theorem dX7_load_40 : decode cX7_load 40 = .ok (.getfield 104, 3) := by decide +kernel
theorem dX7_load_43 : decode cX7_load 43 = .ok (.ifCond .eq 13, 3) := by decide +kernel
theorem dX7_load_46 : decode cX7_load 46 = .ok (.new 107, 3) := by decide +kernel
theorem dX7_load_49 : decode cX7_load 49 = .ok (.dup, 1) := by decide +kernel
theorem dX7_load_50 : decode cX7_load 50 = .ok (.ldc 109, 2) := by decide +kernel
theorem dX7_load_52 : decode cX7_load 52 = .ok (.invokespecial 111, 3) := by decide +kernel
theorem dX7_load_55 : decode cX7_load 55 = .ok (.athrow, 1) := by decide +kernel
theorem dX7_load_56 : decode cX7_load 56 = .ok (.aload_n 0, 1) := by decide +kernel
theorem dX7_load_57 : decode cX7_load 57 = .ok (.getfield 10, 3) := by decide +kernel
theorem dX7_load_60 : decode cX7_load 60 = .ok (.aload_n 0, 1) := by decide +kernel
theorem dX7_load_61 : decode cX7_load 61 = .ok (.getfield 19, 3) := by decide +kernel
theorem dX7_load_64 : decode cX7_load 64 = .ok (.getfield 112, 3) := by decide +kernel
theorem dX7_load_67 : decode cX7_load 67 = .ok (.invokevirtual 115, 3) := by decide +kernel
theorem dX7_load_70 : decode cX7_load 70 = .ok (.aload_n 0, 1) := by decide +kernel
theorem dX7_load_71 : decode cX7_load 71 = .ok (.getfield 26, 3) := by decide +kernel
theorem dX7_load_74 : decode cX7_load 74 = .ok (.invokevirtual 119, 3) := by decide +kernel
theorem dX7_load_77 : decode cX7_load 77 = .ok (.aload_n 0, 1) := by decide +kernel
theorem dX7_load_78 : decode cX7_load 78 = .ok (.getfield 33, 3) := by decide +kernel
theorem dX7_load_81 : decode cX7_load 81 = .ok (.invokevirtual 122, 3) := by decide +kernel
theorem dX7_load_84 : decode cX7_load 84 = .ok (.aload_n 0, 1) := by decide +kernel
theorem dX7_load_85 : decode cX7_load 85 = .ok (.getfield 10, 3) := by decide +kernel
theorem dX7_load_88 : decode cX7_load 88 = .ok (.getfield 123, 3) := by decide +kernel
theorem dX7_load_91 : decode cX7_load 91 = .ok (.ireturn, 1) := by decide +kernel
theorem dX7_minute_0 : decode cX7_minute 0 = .ok (.aload_n 0, 1) := by decide +kernel
theorem dX7_minute_1 : decode cX7_minute 1 = .ok (.getfield 10, 3) := by decide +kernel
theorem dX7_minute_4 : decode cX7_minute 4 = .ok (.getfield 129, 3) := by decide +kernel
theorem dX7_minute_7 : decode cX7_minute 7 = .ok (.ireturn, 1) := by decide +kernel
theorem dX7_humidity_0 : decode cX7_humidity 0 = .ok (.aload_n 0, 1) := by decide +kernel
theorem dX7_humidity_1 : decode cX7_humidity 1 = .ok (.getfield 10, 3) := by decide +kernel
theorem dX7_humidity_4 : decode cX7_humidity 4 = .ok (.getfield 62, 3) := by decide +kernel
theorem dX7_humidity_7 : decode cX7_humidity 7 = .ok (.ireturn, 1) := by decide +kernel
