theorem dX0_init_0 : decode cX0_init 0 = .ok (.aload_n 0, 1) := by decide +kernel
theorem dX0_init_1 : decode cX0_init 1 = .ok (.invokespecial 3, 3) := by decide +kernel
theorem dX0_init_4 : decode cX0_init 4 = .ok (.aload_n 0, 1) := by decide +kernel
theorem dX0_init_5 : decode cX0_init 5 = .ok (.bipush 10, 2) := by decide +kernel
theorem dX0_init_7 : decode cX0_init 7 = .ok (.anewarray 9, 3) := by decide +kernel
theorem dX0_init_10 : decode cX0_init 10 = .ok (.putfield 11, 3) := by decide +kernel
theorem dX0_init_13 : decode cX0_init 13 = .ok (.iconst 0, 1) := by decide +kernel
theorem dX0_init_14 : decode cX0_init 14 = .ok (.istore_n 1, 1) := by decide +kernel
theorem dX0_init_15 : decode cX0_init 15 = .ok (.iload_n 1, 1) := by decide +kernel
theorem dX0_init_16 : decode cX0_init 16 = .ok (.aload_n 0, 1) := by decide +kernel
theorem dX0_init_17 : decode cX0_init 17 = .ok (.getfield 11, 3) := by decide +kernel
theorem dX0_init_20 : decode cX0_init 20 = .ok (.arraylength, 1) := by decide +kernel
theorem dX0_init_21 : decode cX0_init 21 = .ok (.if_icmp .ge 22, 3) := by decide +kernel
theorem dX0_init_24 : decode cX0_init 24 = .ok (.aload_n 0, 1) := by decide +kernel
theorem dX0_init_25 : decode cX0_init 25 = .ok (.getfield 11, 3) := by decide +kernel
theorem dX0_init_28 : decode cX0_init 28 = .ok (.iload_n 1, 1) := by decide +kernel
theorem dX0_init_29 : decode cX0_init 29 = .ok (.new 9, 3) := by decide +kernel
theorem dX0_init_32 : decode cX0_init 32 = .ok (.dup, 1) := by decide +kernel
theorem dX0_init_33 : decode cX0_init 33 = .ok (.invokespecial 17, 3) := by decide +kernel
theorem dX0_init_36 : decode cX0_init 36 = .ok (.aastore, 1) := by decide +kernel
theorem dX0_init_37 : decode cX0_init 37 = .ok (.iinc 1 1, 3) := by decide +kernel
theorem dX0_init_40 : decode cX0_init 40 = .ok (.goto (-25), 3) := by decide +kernel
theorem dX0_init_43 : decode cX0_init 43 = .ok (.return_, 1) := by decide +kernel
theorem dX0_forget_0 : decode cX0_forget 0 = .ok (.aload_n 0, 1) := by decide +kernel
theorem dX0_forget_1 : decode cX0_forget 1 = .ok (.iconst 0, 1) := by decide +kernel
theorem dX0_forget_2 : decode cX0_forget 2 = .ok (.putfield 18, 3) := by decide +kernel
theorem dX0_forget_5 : decode cX0_forget 5 = .ok (.aload_n 0, 1) := by decide +kernel
theorem dX0_forget_6 : decode cX0_forget 6 = .ok (.iconst 0, 1) := by decide +kernel
theorem dX0_forget_7 : decode cX0_forget 7 = .ok (.putfield 22, 3) := by decide +kernel
theorem dX0_forget_10 : decode cX0_forget 10 = .ok (.return_, 1) := by decide +kernel
theorem dX0_record_0 : decode cX0_record 0 = .ok (.aload_n 0, 1) := by decide +kernel
theorem dX0_record_1 : decode cX0_record 1 = .ok (.getfield 11, 3) := by decide +kernel
theorem dX0_record_4 : decode cX0_record 4 = .ok (.aload_n 0, 1) := by decide +kernel
theorem dX0_record_5 : decode cX0_record 5 = .ok (.getfield 18, 3) := by decide +kernel
theorem dX0_record_8 : decode cX0_record 8 = .ok (.aaload, 1) := by decide +kernel
theorem dX0_record_9 : decode cX0_record 9 = .ok (.aload_n 1, 1) := by decide +kernel
theorem dX0_record_10 : decode cX0_record 10 = .ok (.invokevirtual 25, 3) := by decide +kernel
theorem dX0_record_13 : decode cX0_record 13 = .ok (.aload_n 0, 1) := by decide +kernel
theorem dX0_record_14 : decode cX0_record 14 = .ok (.aload_n 0, 1) := by decide +kernel
theorem dX0_record_15 : decode cX0_record 15 = .ok (.getfield 18, 3) := by decide +kernel
theorem dX0_record_18 : decode cX0_record 18 = .ok (.iconst 1, 1) := by decide +kernel
theorem dX0_record_19 : decode cX0_record 19 = .ok (.iadd, 1) := by decide +kernel
theorem dX0_record_20 : decode cX0_record 20 = .ok (.aload_n 0, 1) := by decide +kernel
theorem dX0_record_21 : decode cX0_record 21 = .ok (.getfield 11, 3) := by decide +kernel
theorem dX0_record_24 : decode cX0_record 24 = .ok (.arraylength, 1) := by decide +kernel
theorem dX0_record_25 : decode cX0_record 25 = .ok (.if_icmp .ge 12, 3) := by decide +kernel
theorem dX0_record_28 : decode cX0_record 28 = .ok (.aload_n 0, 1) := by decide +kernel
theorem dX0_record_29 : decode cX0_record 29 = .ok (.getfield 18, 3) := by decide +kernel
theorem dX0_record_32 : decode cX0_record 32 = .ok (.iconst 1, 1) := by decide +kernel
theorem dX0_record_33 : decode cX0_record 33 = .ok (.iadd, 1) := by decide +kernel
theorem dX0_record_34 : decode cX0_record 34 = .ok (.goto 4, 3) := by decide +kernel
theorem dX0_record_37 : decode cX0_record 37 = .ok (.iconst 0, 1) := by decide +kernel
theorem dX0_record_38 : decode cX0_record 38 = .ok (.putfield 18, 3) := by decide +kernel
theorem dX0_record_41 : decode cX0_record 41 = .ok (.aload_n 0, 1) := by decide +kernel
theorem dX0_record_42 : decode cX0_record 42 = .ok (.aload_n 0, 1) := by decide +kernel
theorem dX0_record_43 : decode cX0_record 43 = .ok (.getfield 11, 3) := by decide +kernel
theorem dX0_record_46 : decode cX0_record 46 = .ok (.arraylength, 1) := by decide +kernel
theorem dX0_record_47 : decode cX0_record 47 = .ok (.aload_n 0, 1) := by decide +kernel
theorem dX0_record_48 : decode cX0_record 48 = .ok (.getfield 22, 3) := by decide +kernel
theorem dX0_record_51 : decode cX0_record 51 = .ok (.iconst 1, 1) := by decide +kernel
theorem dX0_record_52 : decode cX0_record 52 = .ok (.iadd, 1) := by decide +kernel
theorem dX0_record_53 : decode cX0_record 53 = .ok (.invokestatic 29, 3) := by decide +kernel
theorem dX0_record_56 : decode cX0_record 56 = .ok (.putfield 22, 3) := by decide +kernel
theorem dX0_record_59 : decode cX0_record 59 = .ok (.return_, 1) := by decide +kernel
theorem dX0_takeBack_0 : decode cX0_takeBack 0 = .ok (.aload_n 0, 1) := by decide +kernel
theorem dX0_takeBack_1 : decode cX0_takeBack 1 = .ok (.aload_n 0, 1) := by decide +kernel
theorem dX0_takeBack_2 : decode cX0_takeBack 2 = .ok (.getfield 18, 3) := by decide +kernel
theorem dX0_takeBack_5 : decode cX0_takeBack 5 = .ok (.ifCond .le 12, 3) := by decide +kernel
theorem dX0_takeBack_8 : decode cX0_takeBack 8 = .ok (.aload_n 0, 1) := by decide +kernel
theorem dX0_takeBack_9 : decode cX0_takeBack 9 = .ok (.getfield 18, 3) := by decide +kernel
theorem dX0_takeBack_12 : decode cX0_takeBack 12 = .ok (.iconst 1, 1) := by decide +kernel
theorem dX0_takeBack_13 : decode cX0_takeBack 13 = .ok (.isub, 1) := by decide +kernel
theorem dX0_takeBack_14 : decode cX0_takeBack 14 = .ok (.goto 10, 3) := by decide +kernel
theorem dX0_takeBack_17 : decode cX0_takeBack 17 = .ok (.aload_n 0, 1) := by decide +kernel
theorem dX0_takeBack_18 : decode cX0_takeBack 18 = .ok (.getfield 11, 3) := by decide +kernel
theorem dX0_takeBack_21 : decode cX0_takeBack 21 = .ok (.arraylength, 1) := by decide +kernel
theorem dX0_takeBack_22 : decode cX0_takeBack 22 = .ok (.iconst 1, 1) := by decide +kernel
theorem dX0_takeBack_23 : decode cX0_takeBack 23 = .ok (.isub, 1) := by decide +kernel
theorem dX0_takeBack_24 : decode cX0_takeBack 24 = .ok (.putfield 18, 3) := by decide +kernel
theorem dX0_takeBack_27 : decode cX0_takeBack 27 = .ok (.aload_n 0, 1) := by decide +kernel
theorem dX0_takeBack_28 : decode cX0_takeBack 28 = .ok (.dup, 1) := by decide +kernel
theorem dX0_takeBack_29 : decode cX0_takeBack 29 = .ok (.getfield 22, 3) := by decide +kernel
theorem dX0_takeBack_32 : decode cX0_takeBack 32 = .ok (.iconst 1, 1) := by decide +kernel
theorem dX0_takeBack_33 : decode cX0_takeBack 33 = .ok (.isub, 1) := by decide +kernel
theorem dX0_takeBack_34 : decode cX0_takeBack 34 = .ok (.putfield 22, 3) := by decide +kernel
theorem dX0_takeBack_37 : decode cX0_takeBack 37 = .ok (.aload_n 1, 1) := by decide +kernel
theorem dX0_takeBack_38 : decode cX0_takeBack 38 = .ok (.aload_n 0, 1) := by decide +kernel
theorem dX0_takeBack_39 : decode cX0_takeBack 39 = .ok (.getfield 11, 3) := by decide +kernel
theorem dX0_takeBack_42 : decode cX0_takeBack 42 = .ok (.aload_n 0, 1) := by decide +kernel
theorem dX0_takeBack_43 : decode cX0_takeBack 43 = .ok (.getfield 18, 3) := by decide +kernel
theorem dX0_takeBack_46 : decode cX0_takeBack 46 = .ok (.aaload, 1) := by decide +kernel
theorem dX0_takeBack_47 : decode cX0_takeBack 47 = .ok (.invokevirtual 25, 3) := by decide +kernel
theorem dX0_takeBack_50 : decode cX0_takeBack 50 = .ok (.return_, 1) := by decide +kernel
theorem dX1_init_0 : decode cX1_init 0 = .ok (.aload_n 0, 1) := by decide +kernel
theorem dX1_init_1 : decode cX1_init 1 = .ok (.invokespecial 3, 3) := by decide +kernel
theorem dX1_init_4 : decode cX1_init 4 = .ok (.aload_n 0, 1) := by decide +kernel
theorem dX1_init_5 : decode cX1_init 5 = .ok (.iconst (-1), 1) := by decide +kernel
theorem dX1_init_6 : decode cX1_init 6 = .ok (.putfield 9, 3) := by decide +kernel
theorem dX1_init_9 : decode cX1_init 9 = .ok (.return_, 1) := by decide +kernel
theorem dX1_becomeHair_0 : decode cX1_becomeHair 0 = .ok (.aload_n 0, 1) := by decide +kernel
theorem dX1_becomeHair_1 : decode cX1_becomeHair 1 = .ok (.invokevirtual 15, 3) := by decide +kernel
theorem dX1_becomeHair_4 : decode cX1_becomeHair 4 = .ok (.aload_n 0, 1) := by decide +kernel
theorem dX1_becomeHair_5 : decode cX1_becomeHair 5 = .ok (.iconst 1, 1) := by decide +kernel
theorem dX1_becomeHair_6 : decode cX1_becomeHair 6 = .ok (.putfield 18, 3) := by decide +kernel
theorem dX1_becomeHair_9 : decode cX1_becomeHair 9 = .ok (.aload_n 0, 1) := by decide +kernel
theorem dX1_becomeHair_10 : decode cX1_becomeHair 10 = .ok (.iload_n 1, 1) := by decide +kernel
theorem dX1_becomeHair_11 : decode cX1_becomeHair 11 = .ok (.putfield 22, 3) := by decide +kernel
theorem dX1_becomeHair_14 : decode cX1_becomeHair 14 = .ok (.aload_n 0, 1) := by decide +kernel
theorem dX1_becomeHair_15 : decode cX1_becomeHair 15 = .ok (.iload_n 1, 1) := by decide +kernel
theorem dX1_becomeHair_16 : decode cX1_becomeHair 16 = .ok (.putfield 25, 3) := by decide +kernel
theorem dX1_becomeHair_19 : decode cX1_becomeHair 19 = .ok (.aload_n 0, 1) := by decide +kernel
theorem dX1_becomeHair_20 : decode cX1_becomeHair 20 = .ok (.iload_n 2, 1) := by decide +kernel
theorem dX1_becomeHair_21 : decode cX1_becomeHair 21 = .ok (.putfield 28, 3) := by decide +kernel
theorem dX1_becomeHair_24 : decode cX1_becomeHair 24 = .ok (.return_, 1) := by decide +kernel
theorem dX1_becomeBulb_0 : decode cX1_becomeBulb 0 = .ok (.aload_n 0, 1) := by decide +kernel
theorem dX1_becomeBulb_1 : decode cX1_becomeBulb 1 = .ok (.invokevirtual 15, 3) := by decide +kernel
theorem dX1_becomeBulb_4 : decode cX1_becomeBulb 4 = .ok (.aload_n 0, 1) := by decide +kernel
theorem dX1_becomeBulb_5 : decode cX1_becomeBulb 5 = .ok (.iload_n 1, 1) := by decide +kernel
theorem dX1_becomeBulb_6 : decode cX1_becomeBulb 6 = .ok (.putfield 31, 3) := by decide +kernel
theorem dX1_becomeBulb_9 : decode cX1_becomeBulb 9 = .ok (.return_, 1) := by decide +kernel
theorem dX1_clear_0 : decode cX1_clear 0 = .ok (.aload_n 0, 1) := by decide +kernel
theorem dX1_clear_1 : decode cX1_clear 1 = .ok (.iconst 0, 1) := by decide +kernel
theorem dX1_clear_2 : decode cX1_clear 2 = .ok (.putfield 18, 3) := by decide +kernel
theorem dX1_clear_5 : decode cX1_clear 5 = .ok (.aload_n 0, 1) := by decide +kernel
theorem dX1_clear_6 : decode cX1_clear 6 = .ok (.iconst 0, 1) := by decide +kernel
theorem dX1_clear_7 : decode cX1_clear 7 = .ok (.putfield 22, 3) := by decide +kernel
theorem dX1_clear_10 : decode cX1_clear 10 = .ok (.aload_n 0, 1) := by decide +kernel
theorem dX1_clear_11 : decode cX1_clear 11 = .ok (.iconst 0, 1) := by decide +kernel
theorem dX1_clear_12 : decode cX1_clear 12 = .ok (.putfield 25, 3) := by decide +kernel
theorem dX1_clear_15 : decode cX1_clear 15 = .ok (.aload_n 0, 1) := by decide +kernel
theorem dX1_clear_16 : decode cX1_clear 16 = .ok (.iconst 0, 1) := by decide +kernel
theorem dX1_clear_17 : decode cX1_clear 17 = .ok (.putfield 34, 3) := by decide +kernel
theorem dX1_clear_20 : decode cX1_clear 20 = .ok (.aload_n 0, 1) := by decide +kernel
theorem dX1_clear_21 : decode cX1_clear 21 = .ok (.iconst 0, 1) := by decide +kernel
theorem dX1_clear_22 : decode cX1_clear 22 = .ok (.putfield 28, 3) := by decide +kernel
theorem dX1_clear_25 : decode cX1_clear 25 = .ok (.aload_n 0, 1) := by decide +kernel
theorem dX1_clear_26 : decode cX1_clear 26 = .ok (.iconst 0, 1) := by decide +kernel
theorem dX1_clear_27 : decode cX1_clear 27 = .ok (.putfield 37, 3) := by decide +kernel
theorem dX1_clear_30 : decode cX1_clear 30 = .ok (.aload_n 0, 1) := by decide +kernel
theorem dX1_clear_31 : decode cX1_clear 31 = .ok (.iconst 0, 1) := by decide +kernel
theorem dX1_clear_32 : decode cX1_clear 32 = .ok (.putfield 31, 3) := by decide +kernel
theorem dX1_clear_35 : decode cX1_clear 35 = .ok (.aload_n 0, 1) := by decide +kernel
theorem dX1_clear_36 : decode cX1_clear 36 = .ok (.iconst 0, 1) := by decide +kernel
theorem dX1_clear_37 : decode cX1_clear 37 = .ok (.putfield 40, 3) := by decide +kernel
theorem dX1_clear_40 : decode cX1_clear 40 = .ok (.aload_n 0, 1) := by decide +kernel
theorem dX1_clear_41 : decode cX1_clear 41 = .ok (.iconst (-1), 1) := by decide +kernel
theorem dX1_clear_42 : decode cX1_clear 42 = .ok (.putfield 9, 3) := by decide +kernel
theorem dX1_clear_45 : decode cX1_clear 45 = .ok (.return_, 1) := by decide +kernel
theorem dX1_copyFrom_0 : decode cX1_copyFrom 0 = .ok (.aload_n 0, 1) := by decide +kernel
theorem dX1_copyFrom_1 : decode cX1_copyFrom 1 = .ok (.aload_n 1, 1) := by decide +kernel
theorem dX1_copyFrom_2 : decode cX1_copyFrom 2 = .ok (.getfield 18, 3) := by decide +kernel
theorem dX1_copyFrom_5 : decode cX1_copyFrom 5 = .ok (.putfield 18, 3) := by decide +kernel
theorem dX1_copyFrom_8 : decode cX1_copyFrom 8 = .ok (.aload_n 0, 1) := by decide +kernel
theorem dX1_copyFrom_9 : decode cX1_copyFrom 9 = .ok (.aload_n 1, 1) := by decide +kernel
theorem dX1_copyFrom_10 : decode cX1_copyFrom 10 = .ok (.getfield 22, 3) := by decide +kernel
theorem dX1_copyFrom_13 : decode cX1_copyFrom 13 = .ok (.putfield 22, 3) := by decide +kernel
theorem dX1_copyFrom_16 : decode cX1_copyFrom 16 = .ok (.aload_n 0, 1) := by decide +kernel
theorem dX1_copyFrom_17 : decode cX1_copyFrom 17 = .ok (.aload_n 1, 1) := by decide +kernel
theorem dX1_copyFrom_18 : decode cX1_copyFrom 18 = .ok (.getfield 25, 3) := by decide +kernel
theorem dX1_copyFrom_21 : decode cX1_copyFrom 21 = .ok (.putfield 25, 3) := by decide +kernel
theorem dX1_copyFrom_24 : decode cX1_copyFrom 24 = .ok (.aload_n 0, 1) := by decide +kernel
theorem dX1_copyFrom_25 : decode cX1_copyFrom 25 = .ok (.aload_n 1, 1) := by decide +kernel
theorem dX1_copyFrom_26 : decode cX1_copyFrom 26 = .ok (.getfield 34, 3) := by decide +kernel
theorem dX1_copyFrom_29 : decode cX1_copyFrom 29 = .ok (.putfield 34, 3) := by decide +kernel
theorem dX1_copyFrom_32 : decode cX1_copyFrom 32 = .ok (.aload_n 0, 1) := by decide +kernel
theorem dX1_copyFrom_33 : decode cX1_copyFrom 33 = .ok (.aload_n 1, 1) := by decide +kernel
theorem dX1_copyFrom_34 : decode cX1_copyFrom 34 = .ok (.getfield 28, 3) := by decide +kernel
theorem dX1_copyFrom_37 : decode cX1_copyFrom 37 = .ok (.putfield 28, 3) := by decide +kernel
theorem dX1_copyFrom_40 : decode cX1_copyFrom 40 = .ok (.aload_n 0, 1) := by decide +kernel
theorem dX1_copyFrom_41 : decode cX1_copyFrom 41 = .ok (.aload_n 1, 1) := by decide +kernel
theorem dX1_copyFrom_42 : decode cX1_copyFrom 42 = .ok (.getfield 37, 3) := by decide +kernel
theorem dX1_copyFrom_45 : decode cX1_copyFrom 45 = .ok (.putfield 37, 3) := by decide +kernel
theorem dX1_copyFrom_48 : decode cX1_copyFrom 48 = .ok (.aload_n 0, 1) := by decide +kernel
theorem dX1_copyFrom_49 : decode cX1_copyFrom 49 = .ok (.aload_n 1, 1) := by decide +kernel
theorem dX1_copyFrom_50 : decode cX1_copyFrom 50 = .ok (.getfield 31, 3) := by decide +kernel
theorem dX1_copyFrom_53 : decode cX1_copyFrom 53 = .ok (.putfield 31, 3) := by decide +kernel
theorem dX1_copyFrom_56 : decode cX1_copyFrom 56 = .ok (.aload_n 0, 1) := by decide +kernel
theorem dX1_copyFrom_57 : decode cX1_copyFrom 57 = .ok (.aload_n 1, 1) := by decide +kernel
theorem dX1_copyFrom_58 : decode cX1_copyFrom 58 = .ok (.getfield 40, 3) := by decide +kernel
theorem dX1_copyFrom_61 : decode cX1_copyFrom 61 = .ok (.putfield 40, 3) := by decide +kernel
theorem dX1_copyFrom_64 : decode cX1_copyFrom 64 = .ok (.aload_n 0, 1) := by decide +kernel
theorem dX1_copyFrom_65 : decode cX1_copyFrom 65 = .ok (.aload_n 1, 1) := by decide +kernel
theorem dX1_copyFrom_66 : decode cX1_copyFrom 66 = .ok (.getfield 9, 3) := by decide +kernel
theorem dX1_copyFrom_69 : decode cX1_copyFrom 69 = .ok (.putfield 9, 3) := by decide +kernel
theorem dX1_copyFrom_72 : decode cX1_copyFrom 72 = .ok (.return_, 1) := by decide +kernel
theorem dX1_isBoxed_0 : decode cX1_isBoxed 0 = .ok (.aload_n 0, 1) := by decide +kernel
theorem dX1_isBoxed_1 : decode cX1_isBoxed 1 = .ok (.getfield 9, 3) := by decide +kernel
theorem dX1_isBoxed_4 : decode cX1_isBoxed 4 = .ok (.iconst (-1), 1) := by decide +kernel
theorem dX1_isBoxed_5 : decode cX1_isBoxed 5 = .ok (.if_icmp .eq 7, 3) := by decide +kernel
theorem dX1_isBoxed_8 : decode cX1_isBoxed 8 = .ok (.iconst 1, 1) := by decide +kernel
theorem dX1_isBoxed_9 : decode cX1_isBoxed 9 = .ok (.goto 4, 3) := by decide +kernel
theorem dX1_isBoxed_12 : decode cX1_isBoxed 12 = .ok (.iconst 0, 1) := by decide +kernel
theorem dX1_isBoxed_13 : decode cX1_isBoxed 13 = .ok (.ireturn, 1) := by decide +kernel
theorem dX1_flaw_0 : decode cX1_flaw 0 = .ok (.aload_n 0, 1) := by decide +kernel
theorem dX1_flaw_1 : decode cX1_flaw 1 = .ok (.invokevirtual 43, 3) := by decide +kernel
theorem dX1_flaw_4 : decode cX1_flaw 4 = .ok (.ifCond .eq 5, 3) := by decide +kernel
theorem dX1_flaw_7 : decode cX1_flaw 7 = .ok (.iconst 1, 1) := by decide +kernel
theorem dX1_flaw_8 : decode cX1_flaw 8 = .ok (.ireturn, 1) := by decide +kernel
theorem dX1_flaw_9 : decode cX1_flaw 9 = .ok (.aload_n 0, 1) := by decide +kernel
theorem dX1_flaw_10 : decode cX1_flaw 10 = .ok (.getfield 18, 3) := by decide +kernel
theorem dX1_flaw_13 : decode cX1_flaw 13 = .ok (.ifCond .eq 13, 3) := by decide +kernel
theorem dX1_flaw_16 : decode cX1_flaw 16 = .ok (.aload_n 0, 1) := by decide +kernel
theorem dX1_flaw_17 : decode cX1_flaw 17 = .ok (.getfield 22, 3) := by decide +kernel
theorem dX1_flaw_20 : decode cX1_flaw 20 = .ok (.ifCond .ne 15, 3) := by decide +kernel
theorem dX1_flaw_23 : decode cX1_flaw 23 = .ok (.goto 10, 3) := by decide +kernel
theorem dX1_flaw_26 : decode cX1_flaw 26 = .ok (.aload_n 0, 1) := by decide +kernel
theorem dX1_flaw_27 : decode cX1_flaw 27 = .ok (.getfield 31, 3) := by decide +kernel
theorem dX1_flaw_30 : decode cX1_flaw 30 = .ok (.ifCond .ne 5, 3) := by decide +kernel
theorem dX1_flaw_33 : decode cX1_flaw 33 = .ok (.iconst 2, 1) := by decide +kernel
theorem dX1_flaw_34 : decode cX1_flaw 34 = .ok (.ireturn, 1) := by decide +kernel
theorem dX1_flaw_35 : decode cX1_flaw 35 = .ok (.aload_n 0, 1) := by decide +kernel
theorem dX1_flaw_36 : decode cX1_flaw 36 = .ok (.getfield 37, 3) := by decide +kernel
theorem dX1_flaw_39 : decode cX1_flaw 39 = .ok (.bipush 25, 2) := by decide +kernel
theorem dX1_flaw_41 : decode cX1_flaw 41 = .ok (.if_icmp .le 7, 3) := by decide +kernel
theorem dX1_flaw_44 : decode cX1_flaw 44 = .ok (.iconst 3, 1) := by decide +kernel
theorem dX1_flaw_45 : decode cX1_flaw 45 = .ok (.goto 4, 3) := by decide +kernel
theorem dX1_flaw_48 : decode cX1_flaw 48 = .ok (.iconst 0, 1) := by decide +kernel
theorem dX1_flaw_49 : decode cX1_flaw 49 = .ok (.ireturn, 1) := by decide +kernel
theorem dX1_weight_0 : decode cX1_weight 0 = .ok (.aload_n 0, 1) := by decide +kernel
theorem dX1_weight_1 : decode cX1_weight 1 = .ok (.invokevirtual 47, 3) := by decide +kernel
theorem dX1_weight_4 : decode cX1_weight 4 = .ok (.ifCond .eq 5, 3) := by decide +kernel
theorem dX1_weight_7 : decode cX1_weight 7 = .ok (.iconst 0, 1) := by decide +kernel
theorem dX1_weight_8 : decode cX1_weight 8 = .ok (.ireturn, 1) := by decide +kernel
theorem dX1_weight_9 : decode cX1_weight 9 = .ok (.aload_n 0, 1) := by decide +kernel
theorem dX1_weight_10 : decode cX1_weight 10 = .ok (.getfield 18, 3) := by decide +kernel
theorem dX1_weight_13 : decode cX1_weight 13 = .ok (.ifCond .eq 10, 3) := by decide +kernel
theorem dX1_weight_16 : decode cX1_weight 16 = .ok (.aload_n 0, 1) := by decide +kernel
theorem dX1_weight_17 : decode cX1_weight 17 = .ok (.getfield 22, 3) := by decide +kernel
theorem dX1_weight_20 : decode cX1_weight 20 = .ok (.goto 4, 3) := by decide +kernel
theorem dX1_weight_23 : decode cX1_weight 23 = .ok (.iconst 5, 1) := by decide +kernel
theorem dX1_weight_24 : decode cX1_weight 24 = .ok (.ireturn, 1) := by decide +kernel
theorem dX1_age_0 : decode cX1_age 0 = .ok (.aload_n 0, 1) := by decide +kernel
theorem dX1_age_1 : decode cX1_age 1 = .ok (.getfield 18, 3) := by decide +kernel
theorem dX1_age_4 : decode cX1_age 4 = .ok (.ifCond .ne 18, 3) := by decide +kernel
theorem dX1_age_7 : decode cX1_age 7 = .ok (.aload_n 0, 1) := by decide +kernel
theorem dX1_age_8 : decode cX1_age 8 = .ok (.iconst 0, 1) := by decide +kernel
theorem dX1_age_9 : decode cX1_age 9 = .ok (.aload_n 0, 1) := by decide +kernel
theorem dX1_age_10 : decode cX1_age 10 = .ok (.getfield 31, 3) := by decide +kernel
theorem dX1_age_13 : decode cX1_age 13 = .ok (.iconst 1, 1) := by decide +kernel
theorem dX1_age_14 : decode cX1_age 14 = .ok (.isub, 1) := by decide +kernel
theorem dX1_age_15 : decode cX1_age 15 = .ok (.invokestatic 51, 3) := by decide +kernel
theorem dX1_age_18 : decode cX1_age 18 = .ok (.putfield 31, 3) := by decide +kernel
theorem dX1_age_21 : decode cX1_age 21 = .ok (.return_, 1) := by decide +kernel
theorem dX1_age_22 : decode cX1_age 22 = .ok (.aload_n 0, 1) := by decide +kernel
theorem dX1_age_23 : decode cX1_age 23 = .ok (.getfield 22, 3) := by decide +kernel
theorem dX1_age_26 : decode cX1_age 26 = .ok (.ifCond .le 19, 3) := by decide +kernel
theorem dX1_age_29 : decode cX1_age 29 = .ok (.aload_n 0, 1) := by decide +kernel
theorem dX1_age_30 : decode cX1_age 30 = .ok (.iload_n 2, 1) := by decide +kernel
theorem dX1_age_31 : decode cX1_age 31 = .ok (.iconst 1, 1) := by decide +kernel
theorem dX1_age_32 : decode cX1_age 32 = .ok (.bipush 20, 2) := by decide +kernel
theorem dX1_age_34 : decode cX1_age 34 = .ok (.aload_n 0, 1) := by decide +kernel
theorem dX1_age_35 : decode cX1_age 35 = .ok (.getfield 22, 3) := by decide +kernel
theorem dX1_age_38 : decode cX1_age 38 = .ok (.invokestatic 57, 3) := by decide +kernel
theorem dX1_age_41 : decode cX1_age 41 = .ok (.iadd, 1) := by decide +kernel
theorem dX1_age_42 : decode cX1_age 42 = .ok (.invokevirtual 60, 3) := by decide +kernel
theorem dX1_age_45 : decode cX1_age 45 = .ok (.iload_n 1, 1) := by decide +kernel
theorem dX1_age_46 : decode cX1_age 46 = .ok (.bipush 10, 2) := by decide +kernel
theorem dX1_age_48 : decode cX1_age 48 = .ok (.irem, 1) := by decide +kernel
theorem dX1_age_49 : decode cX1_age 49 = .ok (.ifCond .ne 18, 3) := by decide +kernel
theorem dX1_age_52 : decode cX1_age 52 = .ok (.aload_n 0, 1) := by decide +kernel
theorem dX1_age_53 : decode cX1_age 53 = .ok (.bipush 50, 2) := by decide +kernel
theorem dX1_age_55 : decode cX1_age 55 = .ok (.aload_n 0, 1) := by decide +kernel
theorem dX1_age_56 : decode cX1_age 56 = .ok (.getfield 37, 3) := by decide +kernel
theorem dX1_age_59 : decode cX1_age 59 = .ok (.iconst 1, 1) := by decide +kernel
theorem dX1_age_60 : decode cX1_age 60 = .ok (.iadd, 1) := by decide +kernel
theorem dX1_age_61 : decode cX1_age 61 = .ok (.invokestatic 64, 3) := by decide +kernel
theorem dX1_age_64 : decode cX1_age 64 = .ok (.putfield 37, 3) := by decide +kernel
theorem dX1_age_67 : decode cX1_age 67 = .ok (.return_, 1) := by decide +kernel
theorem dX1_moveWetness_0 : decode cX1_moveWetness 0 = .ok (.aload_n 0, 1) := by decide +kernel
theorem dX1_moveWetness_1 : decode cX1_moveWetness 1 = .ok (.getfield 28, 3) := by decide +kernel
theorem dX1_moveWetness_4 : decode cX1_moveWetness 4 = .ok (.iload_n 1, 1) := by decide +kernel
theorem dX1_moveWetness_5 : decode cX1_moveWetness 5 = .ok (.if_icmp .ge 20, 3) := by decide +kernel
theorem dX1_moveWetness_8 : decode cX1_moveWetness 8 = .ok (.aload_n 0, 1) := by decide +kernel
theorem dX1_moveWetness_9 : decode cX1_moveWetness 9 = .ok (.iload_n 1, 1) := by decide +kernel
theorem dX1_moveWetness_10 : decode cX1_moveWetness 10 = .ok (.aload_n 0, 1) := by decide +kernel
theorem dX1_moveWetness_11 : decode cX1_moveWetness 11 = .ok (.getfield 28, 3) := by decide +kernel
theorem dX1_moveWetness_14 : decode cX1_moveWetness 14 = .ok (.iload_n 2, 1) := by decide +kernel
theorem dX1_moveWetness_15 : decode cX1_moveWetness 15 = .ok (.iadd, 1) := by decide +kernel
theorem dX1_moveWetness_16 : decode cX1_moveWetness 16 = .ok (.invokestatic 64, 3) := by decide +kernel
theorem dX1_moveWetness_19 : decode cX1_moveWetness 19 = .ok (.putfield 28, 3) := by decide +kernel
theorem dX1_moveWetness_22 : decode cX1_moveWetness 22 = .ok (.goto 17, 3) := by decide +kernel
theorem dX1_moveWetness_25 : decode cX1_moveWetness 25 = .ok (.aload_n 0, 1) := by decide +kernel
theorem dX1_moveWetness_26 : decode cX1_moveWetness 26 = .ok (.iload_n 1, 1) := by decide +kernel
theorem dX1_moveWetness_27 : decode cX1_moveWetness 27 = .ok (.aload_n 0, 1) := by decide +kernel
theorem dX1_moveWetness_28 : decode cX1_moveWetness 28 = .ok (.getfield 28, 3) := by decide +kernel
theorem dX1_moveWetness_31 : decode cX1_moveWetness 31 = .ok (.iload_n 2, 1) := by decide +kernel
theorem dX1_moveWetness_32 : decode cX1_moveWetness 32 = .ok (.isub, 1) := by decide +kernel
theorem dX1_moveWetness_33 : decode cX1_moveWetness 33 = .ok (.invokestatic 51, 3) := by decide +kernel
theorem dX1_moveWetness_36 : decode cX1_moveWetness 36 = .ok (.putfield 28, 3) := by decide +kernel
theorem dX1_moveWetness_39 : decode cX1_moveWetness 39 = .ok (.return_, 1) := by decide +kernel
theorem dX1_tightenSpring_0 : decode cX1_tightenSpring 0 = .ok (.aload_n 0, 1) := by decide +kernel
theorem dX1_tightenSpring_1 : decode cX1_tightenSpring 1 = .ok (.iconst 0, 1) := by decide +kernel
theorem dX1_tightenSpring_2 : decode cX1_tightenSpring 2 = .ok (.putfield 37, 3) := by decide +kernel
theorem dX1_tightenSpring_5 : decode cX1_tightenSpring 5 = .ok (.aload_n 0, 1) := by decide +kernel
theorem dX1_tightenSpring_6 : decode cX1_tightenSpring 6 = .ok (.getfield 28, 3) := by decide +kernel
theorem dX1_tightenSpring_9 : decode cX1_tightenSpring 9 = .ok (.bipush 20, 2) := by decide +kernel
theorem dX1_tightenSpring_11 : decode cX1_tightenSpring 11 = .ok (.if_icmp .ge 23, 3) := by decide +kernel
theorem dX1_tightenSpring_14 : decode cX1_tightenSpring 14 = .ok (.aload_n 0, 1) := by decide +kernel
theorem dX1_tightenSpring_15 : decode cX1_tightenSpring 15 = .ok (.dup, 1) := by decide +kernel
theorem dX1_tightenSpring_16 : decode cX1_tightenSpring 16 = .ok (.getfield 22, 3) := by decide +kernel
theorem dX1_tightenSpring_19 : decode cX1_tightenSpring 19 = .ok (.iconst 1, 1) := by decide +kernel
theorem dX1_tightenSpring_20 : decode cX1_tightenSpring 20 = .ok (.isub, 1) := by decide +kernel
theorem dX1_tightenSpring_21 : decode cX1_tightenSpring 21 = .ok (.putfield 22, 3) := by decide +kernel
theorem dX1_tightenSpring_24 : decode cX1_tightenSpring 24 = .ok (.aload_n 0, 1) := by decide +kernel
theorem dX1_tightenSpring_25 : decode cX1_tightenSpring 25 = .ok (.dup, 1) := by decide +kernel
theorem dX1_tightenSpring_26 : decode cX1_tightenSpring 26 = .ok (.getfield 34, 3) := by decide +kernel
theorem dX1_tightenSpring_29 : decode cX1_tightenSpring 29 = .ok (.iconst 1, 1) := by decide +kernel
theorem dX1_tightenSpring_30 : decode cX1_tightenSpring 30 = .ok (.iadd, 1) := by decide +kernel
theorem dX1_tightenSpring_31 : decode cX1_tightenSpring 31 = .ok (.putfield 34, 3) := by decide +kernel
theorem dX1_tightenSpring_34 : decode cX1_tightenSpring 34 = .ok (.return_, 1) := by decide +kernel
theorem dX2_init_0 : decode cX2_init 0 = .ok (.aload_n 0, 1) := by decide +kernel
theorem dX2_init_1 : decode cX2_init 1 = .ok (.invokespecial 3, 3) := by decide +kernel
theorem dX2_init_4 : decode cX2_init 4 = .ok (.aload_n 0, 1) := by decide +kernel
theorem dX2_init_5 : decode cX2_init 5 = .ok (.bipush 24, 2) := by decide +kernel
theorem dX2_init_7 : decode cX2_init 7 = .ok (.newarray .byte, 2) := by decide +kernel
theorem dX2_init_9 : decode cX2_init 9 = .ok (.putfield 9, 3) := by decide +kernel
theorem dX2_init_12 : decode cX2_init 12 = .ok (.return_, 1) := by decide +kernel
theorem dX3_init_0 : decode cX3_init 0 = .ok (.aload_n 0, 1) := by decide +kernel
theorem dX3_init_1 : decode cX3_init 1 = .ok (.invokespecial 3, 3) := by decide +kernel
theorem dX3_init_4 : decode cX3_init 4 = .ok (.aload_n 0, 1) := by decide +kernel
theorem dX3_init_5 : decode cX3_init 5 = .ok (.new 9, 3) := by decide +kernel
theorem dX3_init_8 : decode cX3_init 8 = .ok (.dup, 1) := by decide +kernel
theorem dX3_init_9 : decode cX3_init 9 = .ok (.invokespecial 11, 3) := by decide +kernel
theorem dX3_init_12 : decode cX3_init 12 = .ok (.putfield 12, 3) := by decide +kernel
theorem dX3_init_15 : decode cX3_init 15 = .ok (.aload_n 0, 1) := by decide +kernel
theorem dX3_init_16 : decode cX3_init 16 = .ok (.new 18, 3) := by decide +kernel
theorem dX3_init_19 : decode cX3_init 19 = .ok (.dup, 1) := by decide +kernel
theorem dX3_init_20 : decode cX3_init 20 = .ok (.invokespecial 20, 3) := by decide +kernel
theorem dX3_init_23 : decode cX3_init 23 = .ok (.putfield 21, 3) := by decide +kernel
theorem dX3_init_26 : decode cX3_init 26 = .ok (.aload_n 0, 1) := by decide +kernel
theorem dX3_init_27 : decode cX3_init 27 = .ok (.iconst (-1), 1) := by decide +kernel
theorem dX3_init_28 : decode cX3_init 28 = .ok (.putfield 25, 3) := by decide +kernel
theorem dX3_init_31 : decode cX3_init 31 = .ok (.return_, 1) := by decide +kernel
theorem dX3_parse_0 : decode cX3_parse 0 = .ok (.aload_n 0, 1) := by decide +kernel
theorem dX3_parse_1 : decode cX3_parse 1 = .ok (.iconst 0, 1) := by decide +kernel
theorem dX3_parse_2 : decode cX3_parse 2 = .ok (.putfield 29, 3) := by decide +kernel
theorem dX3_parse_5 : decode cX3_parse 5 = .ok (.aload_n 0, 1) := by decide +kernel
theorem dX3_parse_6 : decode cX3_parse 6 = .ok (.iconst (-1), 1) := by decide +kernel
theorem dX3_parse_7 : decode cX3_parse 7 = .ok (.putfield 25, 3) := by decide +kernel
theorem dX3_parse_10 : decode cX3_parse 10 = .ok (.aload_n 0, 1) := by decide +kernel
theorem dX3_parse_11 : decode cX3_parse 11 = .ok (.getfield 12, 3) := by decide +kernel
theorem dX3_parse_14 : decode cX3_parse 14 = .ok (.iload_n 1, 1) := by decide +kernel
theorem dX3_parse_15 : decode cX3_parse 15 = .ok (.invokevirtual 32, 3) := by decide +kernel
theorem dX3_parse_18 : decode cX3_parse 18 = .ok (.aload_n 0, 1) := by decide +kernel
theorem dX3_parse_19 : decode cX3_parse 19 = .ok (.invokevirtual 36, 3) := by decide +kernel
theorem dX3_parse_22 : decode cX3_parse 22 = .ok (.iconst 0, 1) := by decide +kernel
theorem dX3_parse_23 : decode cX3_parse 23 = .ok (.istore_n 2, 1) := by decide +kernel
theorem dX3_parse_24 : decode cX3_parse 24 = .ok (.iload_n 2, 1) := by decide +kernel
theorem dX3_parse_25 : decode cX3_parse 25 = .ok (.iload_n 1, 1) := by decide +kernel
theorem dX3_parse_26 : decode cX3_parse 26 = .ok (.if_icmp .gt 59, 3) := by decide +kernel
theorem dX3_parse_29 : decode cX3_parse 29 = .ok (.aload_n 0, 1) := by decide +kernel
theorem dX3_parse_30 : decode cX3_parse 30 = .ok (.getfield 29, 3) := by decide +kernel
theorem dX3_parse_33 : decode cX3_parse 33 = .ok (.ifCond .ne 52, 3) := by decide +kernel
theorem dX3_parse_36 : decode cX3_parse 36 = .ok (.aload_n 0, 1) := by decide +kernel
theorem dX3_parse_37 : decode cX3_parse 37 = .ok (.getfield 12, 3) := by decide +kernel
theorem dX3_parse_40 : decode cX3_parse 40 = .ok (.invokevirtual 39, 3) := by decide +kernel
theorem dX3_parse_43 : decode cX3_parse 43 = .ok (.aload_n 0, 1) := by decide +kernel
theorem dX3_parse_44 : decode cX3_parse 44 = .ok (.getfield 12, 3) := by decide +kernel
theorem dX3_parse_47 : decode cX3_parse 47 = .ok (.getfield 42, 3) := by decide +kernel
theorem dX3_parse_50 : decode cX3_parse 50 = .ok (.ifCond .ne 6, 3) := by decide +kernel
theorem dX3_parse_53 : decode cX3_parse 53 = .ok (.goto 32, 3) := by decide +kernel
theorem dX3_parse_56 : decode cX3_parse 56 = .ok (.aload_n 0, 1) := by decide +kernel
theorem dX3_parse_57 : decode cX3_parse 57 = .ok (.getfield 12, 3) := by decide +kernel
theorem dX3_parse_60 : decode cX3_parse 60 = .ok (.getfield 42, 3) := by decide +kernel
theorem dX3_parse_63 : decode cX3_parse 63 = .ok (.iconst 3, 1) := by decide +kernel
theorem dX3_parse_64 : decode cX3_parse 64 = .ok (.if_icmp .ne 10, 3) := by decide +kernel
theorem dX3_parse_67 : decode cX3_parse 67 = .ok (.aload_n 0, 1) := by decide +kernel
theorem dX3_parse_68 : decode cX3_parse 68 = .ok (.invokevirtual 45, 3) := by decide +kernel
theorem dX3_parse_71 : decode cX3_parse 71 = .ok (.goto 8, 3) := by decide +kernel
theorem dX3_parse_74 : decode cX3_parse 74 = .ok (.aload_n 0, 1) := by decide +kernel
theorem dX3_parse_75 : decode cX3_parse 75 = .ok (.iconst 1, 1) := by decide +kernel
theorem dX3_parse_76 : decode cX3_parse 76 = .ok (.invokevirtual 48, 3) := by decide +kernel
theorem dX3_parse_79 : decode cX3_parse 79 = .ok (.iinc 2 1, 3) := by decide +kernel
theorem dX3_parse_82 : decode cX3_parse 82 = .ok (.goto (-58), 3) := by decide +kernel
theorem dX3_parse_85 : decode cX3_parse 85 = .ok (.aload_n 0, 1) := by decide +kernel
theorem dX3_parse_86 : decode cX3_parse 86 = .ok (.getfield 12, 3) := by decide +kernel
theorem dX3_parse_89 : decode cX3_parse 89 = .ok (.iconst 0, 1) := by decide +kernel
theorem dX3_parse_90 : decode cX3_parse 90 = .ok (.putfield 51, 3) := by decide +kernel
theorem dX3_parse_93 : decode cX3_parse 93 = .ok (.return_, 1) := by decide +kernel
theorem dX3_readHead_0 : decode cX3_readHead 0 = .ok (.aload_n 0, 1) := by decide +kernel
theorem dX3_readHead_1 : decode cX3_readHead 1 = .ok (.getfield 12, 3) := by decide +kernel
theorem dX3_readHead_4 : decode cX3_readHead 4 = .ok (.invokevirtual 39, 3) := by decide +kernel
theorem dX3_readHead_7 : decode cX3_readHead 7 = .ok (.aload_n 0, 1) := by decide +kernel
theorem dX3_readHead_8 : decode cX3_readHead 8 = .ok (.getfield 12, 3) := by decide +kernel
theorem dX3_readHead_11 : decode cX3_readHead 11 = .ok (.ldc 54, 2) := by decide +kernel
theorem dX3_readHead_13 : decode cX3_readHead 13 = .ok (.invokevirtual 56, 3) := by decide +kernel
theorem dX3_readHead_16 : decode cX3_readHead 16 = .ok (.ifCond .ne 8, 3) := by decide +kernel
theorem dX3_readHead_19 : decode cX3_readHead 19 = .ok (.aload_n 0, 1) := by decide +kernel
theorem dX3_readHead_20 : decode cX3_readHead 20 = .ok (.iconst 1, 1) := by decide +kernel
theorem dX3_readHead_21 : decode cX3_readHead 21 = .ok (.invokevirtual 48, 3) := by decide +kernel
theorem dX3_readHead_24 : decode cX3_readHead 24 = .ok (.aload_n 0, 1) := by decide +kernel
theorem dX3_readHead_25 : decode cX3_readHead 25 = .ok (.iconst 0, 1) := by decide +kernel
theorem dX3_readHead_26 : decode cX3_readHead 26 = .ok (.bipush 100, 2) := by decide +kernel
theorem dX3_readHead_28 : decode cX3_readHead 28 = .ok (.invokevirtual 60, 3) := by decide +kernel
theorem dX3_readHead_31 : decode cX3_readHead 31 = .ok (.istore_n 1, 1) := by decide +kernel
theorem dX3_readHead_32 : decode cX3_readHead 32 = .ok (.aload_n 0, 1) := by decide +kernel
theorem dX3_readHead_33 : decode cX3_readHead 33 = .ok (.iconst 0, 1) := by decide +kernel
theorem dX3_readHead_34 : decode cX3_readHead 34 = .ok (.bipush 40, 2) := by decide +kernel
theorem dX3_readHead_36 : decode cX3_readHead 36 = .ok (.invokevirtual 60, 3) := by decide +kernel
theorem dX3_readHead_39 : decode cX3_readHead 39 = .ok (.istore_n 2, 1) := by decide +kernel
theorem dX3_readHead_40 : decode cX3_readHead 40 = .ok (.aload_n 0, 1) := by decide +kernel
theorem dX3_readHead_41 : decode cX3_readHead 41 = .ok (.iconst 0, 1) := by decide +kernel
theorem dX3_readHead_42 : decode cX3_readHead 42 = .ok (.iconst 5, 1) := by decide +kernel
theorem dX3_readHead_43 : decode cX3_readHead 43 = .ok (.invokevirtual 60, 3) := by decide +kernel
theorem dX3_readHead_46 : decode cX3_readHead 46 = .ok (.istore_n 3, 1) := by decide +kernel
theorem dX3_readHead_47 : decode cX3_readHead 47 = .ok (.aload_n 0, 1) := by decide +kernel
theorem dX3_readHead_48 : decode cX3_readHead 48 = .ok (.getfield 29, 3) := by decide +kernel
theorem dX3_readHead_51 : decode cX3_readHead 51 = .ok (.ifCond .ne 13, 3) := by decide +kernel
theorem dX3_readHead_54 : decode cX3_readHead 54 = .ok (.aload_n 0, 1) := by decide +kernel
theorem dX3_readHead_55 : decode cX3_readHead 55 = .ok (.getfield 21, 3) := by decide +kernel
theorem dX3_readHead_58 : decode cX3_readHead 58 = .ok (.iload_n 1, 1) := by decide +kernel
theorem dX3_readHead_59 : decode cX3_readHead 59 = .ok (.iload_n 2, 1) := by decide +kernel
theorem dX3_readHead_60 : decode cX3_readHead 60 = .ok (.iload_n 3, 1) := by decide +kernel
theorem dX3_readHead_61 : decode cX3_readHead 61 = .ok (.invokevirtual 64, 3) := by decide +kernel
theorem dX3_readHead_64 : decode cX3_readHead 64 = .ok (.return_, 1) := by decide +kernel
theorem dX3_readLine_0 : decode cX3_readLine 0 = .ok (.aload_n 0, 1) := by decide +kernel
theorem dX3_readLine_1 : decode cX3_readLine 1 = .ok (.getfield 12, 3) := by decide +kernel
theorem dX3_readLine_4 : decode cX3_readLine 4 = .ok (.invokevirtual 39, 3) := by decide +kernel
theorem dX3_readLine_7 : decode cX3_readLine 7 = .ok (.aload_n 0, 1) := by decide +kernel
theorem dX3_readLine_8 : decode cX3_readLine 8 = .ok (.getfield 12, 3) := by decide +kernel
theorem dX3_readLine_11 : decode cX3_readLine 11 = .ok (.ldc 67, 2) := by decide +kernel
theorem dX3_readLine_13 : decode cX3_readLine 13 = .ok (.invokevirtual 56, 3) := by decide +kernel
theorem dX3_readLine_16 : decode cX3_readLine 16 = .ok (.ifCond .eq 10, 3) := by decide +kernel
theorem dX3_readLine_19 : decode cX3_readLine 19 = .ok (.aload_n 0, 1) := by decide +kernel
theorem dX3_readLine_20 : decode cX3_readLine 20 = .ok (.invokevirtual 69, 3) := by decide +kernel
theorem dX3_readLine_23 : decode cX3_readLine 23 = .ok (.goto 157, 3) := by decide +kernel
theorem dX3_readLine_26 : decode cX3_readLine 26 = .ok (.aload_n 0, 1) := by decide +kernel
theorem dX3_readLine_27 : decode cX3_readLine 27 = .ok (.getfield 12, 3) := by decide +kernel
theorem dX3_readLine_30 : decode cX3_readLine 30 = .ok (.ldc 72, 2) := by decide +kernel
theorem dX3_readLine_32 : decode cX3_readLine 32 = .ok (.invokevirtual 56, 3) := by decide +kernel
theorem dX3_readLine_35 : decode cX3_readLine 35 = .ok (.ifCond .eq 10, 3) := by decide +kernel
theorem dX3_readLine_38 : decode cX3_readLine 38 = .ok (.aload_n 0, 1) := by decide +kernel
theorem dX3_readLine_39 : decode cX3_readLine 39 = .ok (.invokevirtual 74, 3) := by decide +kernel
theorem dX3_readLine_42 : decode cX3_readLine 42 = .ok (.goto 138, 3) := by decide +kernel
theorem dX3_readLine_45 : decode cX3_readLine 45 = .ok (.aload_n 0, 1) := by decide +kernel
theorem dX3_readLine_46 : decode cX3_readLine 46 = .ok (.getfield 12, 3) := by decide +kernel
theorem dX3_readLine_49 : decode cX3_readLine 49 = .ok (.ldc 77, 2) := by decide +kernel
theorem dX3_readLine_51 : decode cX3_readLine 51 = .ok (.invokevirtual 56, 3) := by decide +kernel
theorem dX3_readLine_54 : decode cX3_readLine 54 = .ok (.ifCond .eq 14, 3) := by decide +kernel
theorem dX3_readLine_57 : decode cX3_readLine 57 = .ok (.aload_n 0, 1) := by decide +kernel
theorem dX3_readLine_58 : decode cX3_readLine 58 = .ok (.aload_n 0, 1) := by decide +kernel
theorem dX3_readLine_59 : decode cX3_readLine 59 = .ok (.invokevirtual 79, 3) := by decide +kernel
theorem dX3_readLine_62 : decode cX3_readLine 62 = .ok (.invokevirtual 83, 3) := by decide +kernel
theorem dX3_readLine_65 : decode cX3_readLine 65 = .ok (.goto 115, 3) := by decide +kernel
theorem dX3_readLine_68 : decode cX3_readLine 68 = .ok (.aload_n 0, 1) := by decide +kernel
theorem dX3_readLine_69 : decode cX3_readLine 69 = .ok (.getfield 12, 3) := by decide +kernel
theorem dX3_readLine_72 : decode cX3_readLine 72 = .ok (.ldc 87, 2) := by decide +kernel
theorem dX3_readLine_74 : decode cX3_readLine 74 = .ok (.invokevirtual 56, 3) := by decide +kernel
theorem dX3_readLine_77 : decode cX3_readLine 77 = .ok (.ifCond .eq 14, 3) := by decide +kernel
theorem dX3_readLine_80 : decode cX3_readLine 80 = .ok (.aload_n 0, 1) := by decide +kernel
theorem dX3_readLine_81 : decode cX3_readLine 81 = .ok (.aload_n 0, 1) := by decide +kernel
theorem dX3_readLine_82 : decode cX3_readLine 82 = .ok (.invokevirtual 79, 3) := by decide +kernel
theorem dX3_readLine_85 : decode cX3_readLine 85 = .ok (.invokevirtual 89, 3) := by decide +kernel
theorem dX3_readLine_88 : decode cX3_readLine 88 = .ok (.goto 92, 3) := by decide +kernel
theorem dX3_readLine_91 : decode cX3_readLine 91 = .ok (.aload_n 0, 1) := by decide +kernel
theorem dX3_readLine_92 : decode cX3_readLine 92 = .ok (.getfield 12, 3) := by decide +kernel
theorem dX3_readLine_95 : decode cX3_readLine 95 = .ok (.ldc 92, 2) := by decide +kernel
theorem dX3_readLine_97 : decode cX3_readLine 97 = .ok (.invokevirtual 56, 3) := by decide +kernel
theorem dX3_readLine_100 : decode cX3_readLine 100 = .ok (.ifCond .eq 14, 3) := by decide +kernel
theorem dX3_readLine_103 : decode cX3_readLine 103 = .ok (.aload_n 0, 1) := by decide +kernel
theorem dX3_readLine_104 : decode cX3_readLine 104 = .ok (.aload_n 0, 1) := by decide +kernel
theorem dX3_readLine_105 : decode cX3_readLine 105 = .ok (.invokevirtual 79, 3) := by decide +kernel
theorem dX3_readLine_108 : decode cX3_readLine 108 = .ok (.invokevirtual 94, 3) := by decide +kernel
theorem dX3_readLine_111 : decode cX3_readLine 111 = .ok (.goto 69, 3) := by decide +kernel
theorem dX3_readLine_114 : decode cX3_readLine 114 = .ok (.aload_n 0, 1) := by decide +kernel
theorem dX3_readLine_115 : decode cX3_readLine 115 = .ok (.getfield 12, 3) := by decide +kernel
theorem dX3_readLine_118 : decode cX3_readLine 118 = .ok (.ldc 97, 2) := by decide +kernel
theorem dX3_readLine_120 : decode cX3_readLine 120 = .ok (.invokevirtual 56, 3) := by decide +kernel
theorem dX3_readLine_123 : decode cX3_readLine 123 = .ok (.ifCond .eq 14, 3) := by decide +kernel
theorem dX3_readLine_126 : decode cX3_readLine 126 = .ok (.aload_n 0, 1) := by decide +kernel
theorem dX3_readLine_127 : decode cX3_readLine 127 = .ok (.aload_n 0, 1) := by decide +kernel
theorem dX3_readLine_128 : decode cX3_readLine 128 = .ok (.invokevirtual 79, 3) := by decide +kernel
theorem dX3_readLine_131 : decode cX3_readLine 131 = .ok (.invokevirtual 99, 3) := by decide +kernel
theorem dX3_readLine_134 : decode cX3_readLine 134 = .ok (.goto 46, 3) := by decide +kernel
theorem dX3_readLine_137 : decode cX3_readLine 137 = .ok (.aload_n 0, 1) := by decide +kernel
theorem dX3_readLine_138 : decode cX3_readLine 138 = .ok (.getfield 12, 3) := by decide +kernel
theorem dX3_readLine_141 : decode cX3_readLine 141 = .ok (.ldc 102, 2) := by decide +kernel
theorem dX3_readLine_143 : decode cX3_readLine 143 = .ok (.invokevirtual 56, 3) := by decide +kernel
theorem dX3_readLine_146 : decode cX3_readLine 146 = .ok (.ifCond .eq 10, 3) := by decide +kernel
theorem dX3_readLine_149 : decode cX3_readLine 149 = .ok (.aload_n 0, 1) := by decide +kernel
theorem dX3_readLine_150 : decode cX3_readLine 150 = .ok (.invokevirtual 104, 3) := by decide +kernel
theorem dX3_readLine_153 : decode cX3_readLine 153 = .ok (.goto 27, 3) := by decide +kernel
theorem dX3_readLine_156 : decode cX3_readLine 156 = .ok (.aload_n 0, 1) := by decide +kernel
theorem dX3_readLine_157 : decode cX3_readLine 157 = .ok (.getfield 12, 3) := by decide +kernel
theorem dX3_readLine_160 : decode cX3_readLine 160 = .ok (.ldc 107, 2) := by decide +kernel
theorem dX3_readLine_162 : decode cX3_readLine 162 = .ok (.invokevirtual 56, 3) := by decide +kernel
theorem dX3_readLine_165 : decode cX3_readLine 165 = .ok (.ifCond .eq 10, 3) := by decide +kernel
theorem dX3_readLine_168 : decode cX3_readLine 168 = .ok (.aload_n 0, 1) := by decide +kernel
theorem dX3_readLine_169 : decode cX3_readLine 169 = .ok (.invokevirtual 109, 3) := by decide +kernel
theorem dX3_readLine_172 : decode cX3_readLine 172 = .ok (.goto 8, 3) := by decide +kernel
theorem dX3_readLine_175 : decode cX3_readLine 175 = .ok (.aload_n 0, 1) := by decide +kernel
theorem dX3_readLine_176 : decode cX3_readLine 176 = .ok (.iconst 1, 1) := by decide +kernel
theorem dX3_readLine_177 : decode cX3_readLine 177 = .ok (.invokevirtual 48, 3) := by decide +kernel
theorem dX3_readLine_180 : decode cX3_readLine 180 = .ok (.return_, 1) := by decide +kernel
theorem dX3_readHair_0 : decode cX3_readHair 0 = .ok (.aload_n 0, 1) := by decide +kernel
theorem dX3_readHair_1 : decode cX3_readHair 1 = .ok (.getfield 21, 3) := by decide +kernel
theorem dX3_readHair_4 : decode cX3_readHair 4 = .ok (.getfield 112, 3) := by decide +kernel
theorem dX3_readHair_7 : decode cX3_readHair 7 = .ok (.bipush 6, 2) := by decide +kernel
theorem dX3_readHair_9 : decode cX3_readHair 9 = .ok (.if_icmp .ne 8, 3) := by decide +kernel
theorem dX3_readHair_12 : decode cX3_readHair 12 = .ok (.aload_n 0, 1) := by decide +kernel
theorem dX3_readHair_13 : decode cX3_readHair 13 = .ok (.iconst 4, 1) := by decide +kernel
theorem dX3_readHair_14 : decode cX3_readHair 14 = .ok (.invokevirtual 48, 3) := by decide +kernel
theorem dX3_readHair_17 : decode cX3_readHair 17 = .ok (.aload_n 0, 1) := by decide +kernel
theorem dX3_readHair_18 : decode cX3_readHair 18 = .ok (.iconst 1, 1) := by decide +kernel
theorem dX3_readHair_19 : decode cX3_readHair 19 = .ok (.bipush 20, 2) := by decide +kernel
theorem dX3_readHair_21 : decode cX3_readHair 21 = .ok (.invokevirtual 60, 3) := by decide +kernel
theorem dX3_readHair_24 : decode cX3_readHair 24 = .ok (.istore_n 1, 1) := by decide +kernel
theorem dX3_readHair_25 : decode cX3_readHair 25 = .ok (.aload_n 0, 1) := by decide +kernel
theorem dX3_readHair_26 : decode cX3_readHair 26 = .ok (.getfield 29, 3) := by decide +kernel
theorem dX3_readHair_29 : decode cX3_readHair 29 = .ok (.ifCond .ne 11, 3) := by decide +kernel
theorem dX3_readHair_32 : decode cX3_readHair 32 = .ok (.aload_n 0, 1) := by decide +kernel
theorem dX3_readHair_33 : decode cX3_readHair 33 = .ok (.getfield 21, 3) := by decide +kernel
theorem dX3_readHair_36 : decode cX3_readHair 36 = .ok (.iload_n 1, 1) := by decide +kernel
theorem dX3_readHair_37 : decode cX3_readHair 37 = .ok (.invokevirtual 115, 3) := by decide +kernel
theorem dX3_readHair_40 : decode cX3_readHair 40 = .ok (.return_, 1) := by decide +kernel
theorem dX3_readBulb_0 : decode cX3_readBulb 0 = .ok (.aload_n 0, 1) := by decide +kernel
theorem dX3_readBulb_1 : decode cX3_readBulb 1 = .ok (.getfield 21, 3) := by decide +kernel
theorem dX3_readBulb_4 : decode cX3_readBulb 4 = .ok (.getfield 112, 3) := by decide +kernel
theorem dX3_readBulb_7 : decode cX3_readBulb 7 = .ok (.bipush 6, 2) := by decide +kernel
theorem dX3_readBulb_9 : decode cX3_readBulb 9 = .ok (.if_icmp .ne 8, 3) := by decide +kernel
theorem dX3_readBulb_12 : decode cX3_readBulb 12 = .ok (.aload_n 0, 1) := by decide +kernel
theorem dX3_readBulb_13 : decode cX3_readBulb 13 = .ok (.iconst 4, 1) := by decide +kernel
theorem dX3_readBulb_14 : decode cX3_readBulb 14 = .ok (.invokevirtual 48, 3) := by decide +kernel
theorem dX3_readBulb_17 : decode cX3_readBulb 17 = .ok (.aload_n 0, 1) := by decide +kernel
theorem dX3_readBulb_18 : decode cX3_readBulb 18 = .ok (.iconst 0, 1) := by decide +kernel
theorem dX3_readBulb_19 : decode cX3_readBulb 19 = .ok (.bipush 60, 2) := by decide +kernel
theorem dX3_readBulb_21 : decode cX3_readBulb 21 = .ok (.invokevirtual 60, 3) := by decide +kernel
theorem dX3_readBulb_24 : decode cX3_readBulb 24 = .ok (.istore_n 1, 1) := by decide +kernel
theorem dX3_readBulb_25 : decode cX3_readBulb 25 = .ok (.aload_n 0, 1) := by decide +kernel
theorem dX3_readBulb_26 : decode cX3_readBulb 26 = .ok (.getfield 29, 3) := by decide +kernel
theorem dX3_readBulb_29 : decode cX3_readBulb 29 = .ok (.ifCond .ne 11, 3) := by decide +kernel
theorem dX3_readBulb_32 : decode cX3_readBulb 32 = .ok (.aload_n 0, 1) := by decide +kernel
theorem dX3_readBulb_33 : decode cX3_readBulb 33 = .ok (.getfield 21, 3) := by decide +kernel
theorem dX3_readBulb_36 : decode cX3_readBulb 36 = .ok (.iload_n 1, 1) := by decide +kernel
theorem dX3_readBulb_37 : decode cX3_readBulb 37 = .ok (.invokevirtual 118, 3) := by decide +kernel
theorem dX3_readBulb_40 : decode cX3_readBulb 40 = .ok (.return_, 1) := by decide +kernel
theorem dX3_readBox_0 : decode cX3_readBox 0 = .ok (.aload_n 1, 1) := by decide +kernel
theorem dX3_readBox_1 : decode cX3_readBox 1 = .ok (.ifnonnull 4, 3) := by decide +kernel
theorem dX3_readBox_4 : decode cX3_readBox 4 = .ok (.return_, 1) := by decide +kernel
theorem dX3_readBox_5 : decode cX3_readBox 5 = .ok (.aload_n 1, 1) := by decide +kernel
theorem dX3_readBox_6 : decode cX3_readBox 6 = .ok (.invokevirtual 121, 3) := by decide +kernel
theorem dX3_readBox_9 : decode cX3_readBox 9 = .ok (.ifCond .eq 8, 3) := by decide +kernel
theorem dX3_readBox_12 : decode cX3_readBox 12 = .ok (.aload_n 0, 1) := by decide +kernel
theorem dX3_readBox_13 : decode cX3_readBox 13 = .ok (.iconst 5, 1) := by decide +kernel
theorem dX3_readBox_14 : decode cX3_readBox 14 = .ok (.invokevirtual 48, 3) := by decide +kernel
theorem dX3_readBox_17 : decode cX3_readBox 17 = .ok (.aload_n 0, 1) := by decide +kernel
theorem dX3_readBox_18 : decode cX3_readBox 18 = .ok (.iconst 0, 1) := by decide +kernel
theorem dX3_readBox_19 : decode cX3_readBox 19 = .ok (.getstatic 127, 3) := by decide +kernel
theorem dX3_readBox_22 : decode cX3_readBox 22 = .ok (.arraylength, 1) := by decide +kernel
theorem dX3_readBox_23 : decode cX3_readBox 23 = .ok (.iconst 1, 1) := by decide +kernel
theorem dX3_readBox_24 : decode cX3_readBox 24 = .ok (.isub, 1) := by decide +kernel
theorem dX3_readBox_25 : decode cX3_readBox 25 = .ok (.invokevirtual 60, 3) := by decide +kernel
theorem dX3_readBox_28 : decode cX3_readBox 28 = .ok (.istore_n 2, 1) := by decide +kernel
theorem dX3_readBox_29 : decode cX3_readBox 29 = .ok (.aload_n 0, 1) := by decide +kernel
theorem dX3_readBox_30 : decode cX3_readBox 30 = .ok (.getfield 29, 3) := by decide +kernel
theorem dX3_readBox_33 : decode cX3_readBox 33 = .ok (.ifCond .ne 8, 3) := by decide +kernel
theorem dX3_readBox_36 : decode cX3_readBox 36 = .ok (.aload_n 1, 1) := by decide +kernel
theorem dX3_readBox_37 : decode cX3_readBox 37 = .ok (.iload_n 2, 1) := by decide +kernel
theorem dX3_readBox_38 : decode cX3_readBox 38 = .ok (.putfield 131, 3) := by decide +kernel
theorem dX3_readBox_41 : decode cX3_readBox 41 = .ok (.return_, 1) := by decide +kernel
theorem dX3_readOut_0 : decode cX3_readOut 0 = .ok (.aload_n 1, 1) := by decide +kernel
theorem dX3_readOut_1 : decode cX3_readOut 1 = .ok (.ifnonnull 4, 3) := by decide +kernel
theorem dX3_readOut_4 : decode cX3_readOut 4 = .ok (.return_, 1) := by decide +kernel
theorem dX3_readOut_5 : decode cX3_readOut 5 = .ok (.aload_n 1, 1) := by decide +kernel
theorem dX3_readOut_6 : decode cX3_readOut 6 = .ok (.invokevirtual 121, 3) := by decide +kernel
theorem dX3_readOut_9 : decode cX3_readOut 9 = .ok (.ifCond .eq 11, 3) := by decide +kernel
theorem dX3_readOut_12 : decode cX3_readOut 12 = .ok (.aload_n 1, 1) := by decide +kernel
theorem dX3_readOut_13 : decode cX3_readOut 13 = .ok (.iconst (-1), 1) := by decide +kernel
theorem dX3_readOut_14 : decode cX3_readOut 14 = .ok (.putfield 131, 3) := by decide +kernel
theorem dX3_readOut_17 : decode cX3_readOut 17 = .ok (.goto 8, 3) := by decide +kernel
theorem dX3_readOut_20 : decode cX3_readOut 20 = .ok (.aload_n 0, 1) := by decide +kernel
theorem dX3_readOut_21 : decode cX3_readOut 21 = .ok (.iconst 5, 1) := by decide +kernel
theorem dX3_readOut_22 : decode cX3_readOut 22 = .ok (.invokevirtual 48, 3) := by decide +kernel
theorem dX3_readOut_25 : decode cX3_readOut 25 = .ok (.return_, 1) := by decide +kernel
theorem dX3_readTighten_0 : decode cX3_readTighten 0 = .ok (.aload_n 1, 1) := by decide +kernel
theorem dX3_readTighten_1 : decode cX3_readTighten 1 = .ok (.ifnonnull 4, 3) := by decide +kernel
theorem dX3_readTighten_4 : decode cX3_readTighten 4 = .ok (.return_, 1) := by decide +kernel
theorem dX3_readTighten_5 : decode cX3_readTighten 5 = .ok (.aload_n 1, 1) := by decide +kernel
theorem dX3_readTighten_6 : decode cX3_readTighten 6 = .ok (.getfield 133, 3) := by decide +kernel
theorem dX3_readTighten_9 : decode cX3_readTighten 9 = .ok (.ifCond .ne 11, 3) := by decide +kernel
theorem dX3_readTighten_12 : decode cX3_readTighten 12 = .ok (.aload_n 0, 1) := by decide +kernel
theorem dX3_readTighten_13 : decode cX3_readTighten 13 = .ok (.iconst 3, 1) := by decide +kernel
theorem dX3_readTighten_14 : decode cX3_readTighten 14 = .ok (.invokevirtual 48, 3) := by decide +kernel
theorem dX3_readTighten_17 : decode cX3_readTighten 17 = .ok (.goto 22, 3) := by decide +kernel
theorem dX3_readTighten_20 : decode cX3_readTighten 20 = .ok (.aload_n 1, 1) := by decide +kernel
theorem dX3_readTighten_21 : decode cX3_readTighten 21 = .ok (.getfield 136, 3) := by decide +kernel
theorem dX3_readTighten_24 : decode cX3_readTighten 24 = .ok (.ifCond .ne 11, 3) := by decide +kernel
theorem dX3_readTighten_27 : decode cX3_readTighten 27 = .ok (.aload_n 0, 1) := by decide +kernel
theorem dX3_readTighten_28 : decode cX3_readTighten 28 = .ok (.iconst 5, 1) := by decide +kernel
theorem dX3_readTighten_29 : decode cX3_readTighten 29 = .ok (.invokevirtual 48, 3) := by decide +kernel
theorem dX3_readTighten_32 : decode cX3_readTighten 32 = .ok (.goto 7, 3) := by decide +kernel
theorem dX3_readTighten_35 : decode cX3_readTighten 35 = .ok (.aload_n 1, 1) := by decide +kernel
theorem dX3_readTighten_36 : decode cX3_readTighten 36 = .ok (.invokevirtual 139, 3) := by decide +kernel
theorem dX3_readTighten_39 : decode cX3_readTighten 39 = .ok (.return_, 1) := by decide +kernel
theorem dX3_readMoisten_0 : decode cX3_readMoisten 0 = .ok (.aload_n 1, 1) := by decide +kernel
theorem dX3_readMoisten_1 : decode cX3_readMoisten 1 = .ok (.ifnonnull 4, 3) := by decide +kernel
theorem dX3_readMoisten_4 : decode cX3_readMoisten 4 = .ok (.return_, 1) := by decide +kernel
theorem dX3_readMoisten_5 : decode cX3_readMoisten 5 = .ok (.aload_n 1, 1) := by decide +kernel
theorem dX3_readMoisten_6 : decode cX3_readMoisten 6 = .ok (.getfield 133, 3) := by decide +kernel
theorem dX3_readMoisten_9 : decode cX3_readMoisten 9 = .ok (.ifCond .eq 11, 3) := by decide +kernel
theorem dX3_readMoisten_12 : decode cX3_readMoisten 12 = .ok (.aload_n 0, 1) := by decide +kernel
theorem dX3_readMoisten_13 : decode cX3_readMoisten 13 = .ok (.iconst 3, 1) := by decide +kernel
theorem dX3_readMoisten_14 : decode cX3_readMoisten 14 = .ok (.invokevirtual 48, 3) := by decide +kernel
theorem dX3_readMoisten_17 : decode cX3_readMoisten 17 = .ok (.goto 9, 3) := by decide +kernel
theorem dX3_readMoisten_20 : decode cX3_readMoisten 20 = .ok (.aload_n 1, 1) := by decide +kernel
theorem dX3_readMoisten_21 : decode cX3_readMoisten 21 = .ok (.bipush 60, 2) := by decide +kernel
theorem dX3_readMoisten_23 : decode cX3_readMoisten 23 = .ok (.putfield 142, 3) := by decide +kernel
theorem dX3_readMoisten_26 : decode cX3_readMoisten 26 = .ok (.return_, 1) := by decide +kernel
theorem dX3_readHumidity_0 : decode cX3_readHumidity 0 = .ok (.aload_n 0, 1) := by decide +kernel
theorem dX3_readHumidity_1 : decode cX3_readHumidity 1 = .ok (.iconst 0, 1) := by decide +kernel
theorem dX3_readHumidity_2 : decode cX3_readHumidity 2 = .ok (.bipush 100, 2) := by decide +kernel
theorem dX3_readHumidity_4 : decode cX3_readHumidity 4 = .ok (.invokevirtual 60, 3) := by decide +kernel
theorem dX3_readHumidity_7 : decode cX3_readHumidity 7 = .ok (.istore_n 1, 1) := by decide +kernel
theorem dX3_readHumidity_8 : decode cX3_readHumidity 8 = .ok (.aload_n 0, 1) := by decide +kernel
theorem dX3_readHumidity_9 : decode cX3_readHumidity 9 = .ok (.getfield 29, 3) := by decide +kernel
theorem dX3_readHumidity_12 : decode cX3_readHumidity 12 = .ok (.ifCond .ne 11, 3) := by decide +kernel
theorem dX3_readHumidity_15 : decode cX3_readHumidity 15 = .ok (.aload_n 0, 1) := by decide +kernel
theorem dX3_readHumidity_16 : decode cX3_readHumidity 16 = .ok (.getfield 21, 3) := by decide +kernel
theorem dX3_readHumidity_19 : decode cX3_readHumidity 19 = .ok (.iload_n 1, 1) := by decide +kernel
theorem dX3_readHumidity_20 : decode cX3_readHumidity 20 = .ok (.putfield 145, 3) := by decide +kernel
theorem dX3_readHumidity_23 : decode cX3_readHumidity 23 = .ok (.return_, 1) := by decide +kernel
theorem dX3_readMinutes_0 : decode cX3_readMinutes 0 = .ok (.aload_n 0, 1) := by decide +kernel
theorem dX3_readMinutes_1 : decode cX3_readMinutes 1 = .ok (.iconst 1, 1) := by decide +kernel
theorem dX3_readMinutes_2 : decode cX3_readMinutes 2 = .ok (.bipush 99, 2) := by decide +kernel
theorem dX3_readMinutes_4 : decode cX3_readMinutes 4 = .ok (.sipush 9999, 3) := by decide +kernel
theorem dX3_readMinutes_7 : decode cX3_readMinutes 7 = .ok (.aload_n 0, 1) := by decide +kernel
theorem dX3_readMinutes_8 : decode cX3_readMinutes 8 = .ok (.getfield 21, 3) := by decide +kernel
theorem dX3_readMinutes_11 : decode cX3_readMinutes 11 = .ok (.getfield 147, 3) := by decide +kernel
theorem dX3_readMinutes_14 : decode cX3_readMinutes 14 = .ok (.isub, 1) := by decide +kernel
theorem dX3_readMinutes_15 : decode cX3_readMinutes 15 = .ok (.invokestatic 150, 3) := by decide +kernel
theorem dX3_readMinutes_18 : decode cX3_readMinutes 18 = .ok (.invokevirtual 60, 3) := by decide +kernel
theorem dX3_readMinutes_21 : decode cX3_readMinutes 21 = .ok (.istore_n 1, 1) := by decide +kernel
theorem dX3_readMinutes_22 : decode cX3_readMinutes 22 = .ok (.aload_n 0, 1) := by decide +kernel
theorem dX3_readMinutes_23 : decode cX3_readMinutes 23 = .ok (.getfield 29, 3) := by decide +kernel
theorem dX3_readMinutes_26 : decode cX3_readMinutes 26 = .ok (.ifCond .ne 12, 3) := by decide +kernel
theorem dX3_readMinutes_29 : decode cX3_readMinutes 29 = .ok (.aload_n 0, 1) := by decide +kernel
theorem dX3_readMinutes_30 : decode cX3_readMinutes 30 = .ok (.getfield 21, 3) := by decide +kernel
theorem dX3_readMinutes_33 : decode cX3_readMinutes 33 = .ok (.iload_n 1, 1) := by decide +kernel
theorem dX3_readMinutes_34 : decode cX3_readMinutes 34 = .ok (.invokevirtual 155, 3) := by decide +kernel
theorem dX3_readMinutes_37 : decode cX3_readMinutes 37 = .ok (.pop, 1) := by decide +kernel
theorem dX3_readMinutes_38 : decode cX3_readMinutes 38 = .ok (.return_, 1) := by decide +kernel
theorem dX3_takeInstrument_0 : decode cX3_takeInstrument 0 = .ok (.aload_n 0, 1) := by decide +kernel
theorem dX3_takeInstrument_1 : decode cX3_takeInstrument 1 = .ok (.getfield 21, 3) := by decide +kernel
theorem dX3_takeInstrument_4 : decode cX3_takeInstrument 4 = .ok (.aload_n 0, 1) := by decide +kernel
theorem dX3_takeInstrument_5 : decode cX3_takeInstrument 5 = .ok (.iconst 0, 1) := by decide +kernel
theorem dX3_takeInstrument_6 : decode cX3_takeInstrument 6 = .ok (.aload_n 0, 1) := by decide +kernel
theorem dX3_takeInstrument_7 : decode cX3_takeInstrument 7 = .ok (.getfield 21, 3) := by decide +kernel
theorem dX3_takeInstrument_10 : decode cX3_takeInstrument 10 = .ok (.getfield 112, 3) := by decide +kernel
theorem dX3_takeInstrument_13 : decode cX3_takeInstrument 13 = .ok (.iconst 1, 1) := by decide +kernel
theorem dX3_takeInstrument_14 : decode cX3_takeInstrument 14 = .ok (.isub, 1) := by decide +kernel
theorem dX3_takeInstrument_15 : decode cX3_takeInstrument 15 = .ok (.invokevirtual 60, 3) := by decide +kernel
theorem dX3_takeInstrument_18 : decode cX3_takeInstrument 18 = .ok (.invokevirtual 159, 3) := by decide +kernel
theorem dX3_takeInstrument_21 : decode cX3_takeInstrument 21 = .ok (.areturn, 1) := by decide +kernel
theorem dX3_takeNumber_0 : decode cX3_takeNumber 0 = .ok (.aload_n 0, 1) := by decide +kernel
theorem dX3_takeNumber_1 : decode cX3_takeNumber 1 = .ok (.getfield 29, 3) := by decide +kernel
theorem dX3_takeNumber_4 : decode cX3_takeNumber 4 = .ok (.ifCond .eq 5, 3) := by decide +kernel
theorem dX3_takeNumber_7 : decode cX3_takeNumber 7 = .ok (.iconst (-1), 1) := by decide +kernel
theorem dX3_takeNumber_8 : decode cX3_takeNumber 8 = .ok (.ireturn, 1) := by decide +kernel
theorem dX3_takeNumber_9 : decode cX3_takeNumber 9 = .ok (.aload_n 0, 1) := by decide +kernel
theorem dX3_takeNumber_10 : decode cX3_takeNumber 10 = .ok (.getfield 12, 3) := by decide +kernel
theorem dX3_takeNumber_13 : decode cX3_takeNumber 13 = .ok (.invokevirtual 39, 3) := by decide +kernel
theorem dX3_takeNumber_16 : decode cX3_takeNumber 16 = .ok (.aload_n 0, 1) := by decide +kernel
theorem dX3_takeNumber_17 : decode cX3_takeNumber 17 = .ok (.getfield 12, 3) := by decide +kernel
theorem dX3_takeNumber_20 : decode cX3_takeNumber 20 = .ok (.getfield 42, 3) := by decide +kernel
theorem dX3_takeNumber_23 : decode cX3_takeNumber 23 = .ok (.iconst 2, 1) := by decide +kernel
theorem dX3_takeNumber_24 : decode cX3_takeNumber 24 = .ok (.if_icmp .eq 10, 3) := by decide +kernel
theorem dX3_takeNumber_27 : decode cX3_takeNumber 27 = .ok (.aload_n 0, 1) := by decide +kernel
theorem dX3_takeNumber_28 : decode cX3_takeNumber 28 = .ok (.iconst 1, 1) := by decide +kernel
theorem dX3_takeNumber_29 : decode cX3_takeNumber 29 = .ok (.invokevirtual 48, 3) := by decide +kernel
theorem dX3_takeNumber_32 : decode cX3_takeNumber 32 = .ok (.iconst (-1), 1) := by decide +kernel
theorem dX3_takeNumber_33 : decode cX3_takeNumber 33 = .ok (.ireturn, 1) := by decide +kernel
theorem dX3_takeNumber_34 : decode cX3_takeNumber 34 = .ok (.aload_n 0, 1) := by decide +kernel
theorem dX3_takeNumber_35 : decode cX3_takeNumber 35 = .ok (.getfield 12, 3) := by decide +kernel
theorem dX3_takeNumber_38 : decode cX3_takeNumber 38 = .ok (.invokevirtual 163, 3) := by decide +kernel
theorem dX3_takeNumber_41 : decode cX3_takeNumber 41 = .ok (.istore_n 3, 1) := by decide +kernel
theorem dX3_takeNumber_42 : decode cX3_takeNumber 42 = .ok (.iload_n 3, 1) := by decide +kernel
theorem dX3_takeNumber_43 : decode cX3_takeNumber 43 = .ok (.iload_n 1, 1) := by decide +kernel
theorem dX3_takeNumber_44 : decode cX3_takeNumber 44 = .ok (.if_icmp .lt 8, 3) := by decide +kernel
theorem dX3_takeNumber_47 : decode cX3_takeNumber 47 = .ok (.iload_n 3, 1) := by decide +kernel
theorem dX3_takeNumber_48 : decode cX3_takeNumber 48 = .ok (.iload_n 2, 1) := by decide +kernel
theorem dX3_takeNumber_49 : decode cX3_takeNumber 49 = .ok (.if_icmp .le 10, 3) := by decide +kernel
theorem dX3_takeNumber_52 : decode cX3_takeNumber 52 = .ok (.aload_n 0, 1) := by decide +kernel
theorem dX3_takeNumber_53 : decode cX3_takeNumber 53 = .ok (.iconst 2, 1) := by decide +kernel
theorem dX3_takeNumber_54 : decode cX3_takeNumber 54 = .ok (.invokevirtual 48, 3) := by decide +kernel
theorem dX3_takeNumber_57 : decode cX3_takeNumber 57 = .ok (.iconst (-1), 1) := by decide +kernel
theorem dX3_takeNumber_58 : decode cX3_takeNumber 58 = .ok (.ireturn, 1) := by decide +kernel
theorem dX3_takeNumber_59 : decode cX3_takeNumber 59 = .ok (.iload_n 3, 1) := by decide +kernel
theorem dX3_takeNumber_60 : decode cX3_takeNumber 60 = .ok (.ireturn, 1) := by decide +kernel
theorem dX3_fail_0 : decode cX3_fail 0 = .ok (.aload_n 0, 1) := by decide +kernel
theorem dX3_fail_1 : decode cX3_fail 1 = .ok (.iload_n 1, 1) := by decide +kernel
theorem dX3_fail_2 : decode cX3_fail 2 = .ok (.putfield 29, 3) := by decide +kernel
theorem dX3_fail_5 : decode cX3_fail 5 = .ok (.aload_n 0, 1) := by decide +kernel
theorem dX3_fail_6 : decode cX3_fail 6 = .ok (.aload_n 0, 1) := by decide +kernel
theorem dX3_fail_7 : decode cX3_fail 7 = .ok (.getfield 12, 3) := by decide +kernel
theorem dX3_fail_10 : decode cX3_fail 10 = .ok (.getfield 167, 3) := by decide +kernel
theorem dX3_fail_13 : decode cX3_fail 13 = .ok (.putfield 25, 3) := by decide +kernel
theorem dX3_fail_16 : decode cX3_fail 16 = .ok (.return_, 1) := by decide +kernel
theorem dX4_init_0 : decode cX4_init 0 = .ok (.aload_n 0, 1) := by decide +kernel
theorem dX4_init_1 : decode cX4_init 1 = .ok (.invokespecial 3, 3) := by decide +kernel
theorem dX4_init_4 : decode cX4_init 4 = .ok (.aload_n 0, 1) := by decide +kernel
theorem dX4_init_5 : decode cX4_init 5 = .ok (.bipush 6, 2) := by decide +kernel
theorem dX4_init_7 : decode cX4_init 7 = .ok (.anewarray 9, 3) := by decide +kernel
theorem dX4_init_10 : decode cX4_init 10 = .ok (.putfield 11, 3) := by decide +kernel
theorem dX4_init_13 : decode cX4_init 13 = .ok (.iconst 0, 1) := by decide +kernel
theorem dX4_init_14 : decode cX4_init 14 = .ok (.istore_n 1, 1) := by decide +kernel
theorem dX4_init_15 : decode cX4_init 15 = .ok (.iload_n 1, 1) := by decide +kernel
theorem dX4_init_16 : decode cX4_init 16 = .ok (.aload_n 0, 1) := by decide +kernel
theorem dX4_init_17 : decode cX4_init 17 = .ok (.getfield 11, 3) := by decide +kernel
theorem dX4_init_20 : decode cX4_init 20 = .ok (.arraylength, 1) := by decide +kernel
theorem dX4_init_21 : decode cX4_init 21 = .ok (.if_icmp .ge 22, 3) := by decide +kernel
theorem dX4_init_24 : decode cX4_init 24 = .ok (.aload_n 0, 1) := by decide +kernel
theorem dX4_init_25 : decode cX4_init 25 = .ok (.getfield 11, 3) := by decide +kernel
theorem dX4_init_28 : decode cX4_init 28 = .ok (.iload_n 1, 1) := by decide +kernel
theorem dX4_init_29 : decode cX4_init 29 = .ok (.new 9, 3) := by decide +kernel
theorem dX4_init_32 : decode cX4_init 32 = .ok (.dup, 1) := by decide +kernel
theorem dX4_init_33 : decode cX4_init 33 = .ok (.invokespecial 17, 3) := by decide +kernel
theorem dX4_init_36 : decode cX4_init 36 = .ok (.aastore, 1) := by decide +kernel
theorem dX4_init_37 : decode cX4_init 37 = .ok (.iinc 1 1, 3) := by decide +kernel
theorem dX4_init_40 : decode cX4_init 40 = .ok (.goto (-25), 3) := by decide +kernel
theorem dX4_init_43 : decode cX4_init 43 = .ok (.return_, 1) := by decide +kernel
theorem dX4_begin_0 : decode cX4_begin 0 = .ok (.aload_n 0, 1) := by decide +kernel
theorem dX4_begin_1 : decode cX4_begin 1 = .ok (.iconst 0, 1) := by decide +kernel
theorem dX4_begin_2 : decode cX4_begin 2 = .ok (.putfield 18, 3) := by decide +kernel
theorem dX4_begin_5 : decode cX4_begin 5 = .ok (.aload_n 0, 1) := by decide +kernel
theorem dX4_begin_6 : decode cX4_begin 6 = .ok (.iconst 0, 1) := by decide +kernel
theorem dX4_begin_7 : decode cX4_begin 7 = .ok (.putfield 22, 3) := by decide +kernel
theorem dX4_begin_10 : decode cX4_begin 10 = .ok (.aload_n 0, 1) := by decide +kernel
theorem dX4_begin_11 : decode cX4_begin 11 = .ok (.iload_n 1, 1) := by decide +kernel
theorem dX4_begin_12 : decode cX4_begin 12 = .ok (.putfield 25, 3) := by decide +kernel
theorem dX4_begin_15 : decode cX4_begin 15 = .ok (.aload_n 0, 1) := by decide +kernel
theorem dX4_begin_16 : decode cX4_begin 16 = .ok (.iload_n 2, 1) := by decide +kernel
theorem dX4_begin_17 : decode cX4_begin 17 = .ok (.putfield 28, 3) := by decide +kernel
theorem dX4_begin_20 : decode cX4_begin 20 = .ok (.aload_n 0, 1) := by decide +kernel
theorem dX4_begin_21 : decode cX4_begin 21 = .ok (.iload_n 3, 1) := by decide +kernel
theorem dX4_begin_22 : decode cX4_begin 22 = .ok (.putfield 31, 3) := by decide +kernel
theorem dX4_begin_25 : decode cX4_begin 25 = .ok (.aload_n 0, 1) := by decide +kernel
theorem dX4_begin_26 : decode cX4_begin 26 = .ok (.iconst 0, 1) := by decide +kernel
theorem dX4_begin_27 : decode cX4_begin 27 = .ok (.putfield 34, 3) := by decide +kernel
theorem dX4_begin_30 : decode cX4_begin 30 = .ok (.aload_n 0, 1) := by decide +kernel
theorem dX4_begin_31 : decode cX4_begin 31 = .ok (.iconst 0, 1) := by decide +kernel
theorem dX4_begin_32 : decode cX4_begin 32 = .ok (.putfield 37, 3) := by decide +kernel
theorem dX4_begin_35 : decode cX4_begin 35 = .ok (.return_, 1) := by decide +kernel
theorem dX4_newHair_0 : decode cX4_newHair 0 = .ok (.aload_n 0, 1) := by decide +kernel
theorem dX4_newHair_1 : decode cX4_newHair 1 = .ok (.getfield 18, 3) := by decide +kernel
theorem dX4_newHair_4 : decode cX4_newHair 4 = .ok (.aload_n 0, 1) := by decide +kernel
theorem dX4_newHair_5 : decode cX4_newHair 5 = .ok (.getfield 11, 3) := by decide +kernel
theorem dX4_newHair_8 : decode cX4_newHair 8 = .ok (.arraylength, 1) := by decide +kernel
theorem dX4_newHair_9 : decode cX4_newHair 9 = .ok (.if_icmp .ge 30, 3) := by decide +kernel
theorem dX4_newHair_12 : decode cX4_newHair 12 = .ok (.aload_n 0, 1) := by decide +kernel
theorem dX4_newHair_13 : decode cX4_newHair 13 = .ok (.getfield 11, 3) := by decide +kernel
theorem dX4_newHair_16 : decode cX4_newHair 16 = .ok (.aload_n 0, 1) := by decide +kernel
theorem dX4_newHair_17 : decode cX4_newHair 17 = .ok (.getfield 18, 3) := by decide +kernel
theorem dX4_newHair_20 : decode cX4_newHair 20 = .ok (.aaload, 1) := by decide +kernel
theorem dX4_newHair_21 : decode cX4_newHair 21 = .ok (.iload_n 1, 1) := by decide +kernel
theorem dX4_newHair_22 : decode cX4_newHair 22 = .ok (.aload_n 0, 1) := by decide +kernel
theorem dX4_newHair_23 : decode cX4_newHair 23 = .ok (.getfield 25, 3) := by decide +kernel
theorem dX4_newHair_26 : decode cX4_newHair 26 = .ok (.invokevirtual 40, 3) := by decide +kernel
theorem dX4_newHair_29 : decode cX4_newHair 29 = .ok (.aload_n 0, 1) := by decide +kernel
theorem dX4_newHair_30 : decode cX4_newHair 30 = .ok (.dup, 1) := by decide +kernel
theorem dX4_newHair_31 : decode cX4_newHair 31 = .ok (.getfield 18, 3) := by decide +kernel
theorem dX4_newHair_34 : decode cX4_newHair 34 = .ok (.iconst 1, 1) := by decide +kernel
theorem dX4_newHair_35 : decode cX4_newHair 35 = .ok (.iadd, 1) := by decide +kernel
theorem dX4_newHair_36 : decode cX4_newHair 36 = .ok (.putfield 18, 3) := by decide +kernel
theorem dX4_newHair_39 : decode cX4_newHair 39 = .ok (.return_, 1) := by decide +kernel
theorem dX4_newBulb_0 : decode cX4_newBulb 0 = .ok (.aload_n 0, 1) := by decide +kernel
theorem dX4_newBulb_1 : decode cX4_newBulb 1 = .ok (.getfield 18, 3) := by decide +kernel
theorem dX4_newBulb_4 : decode cX4_newBulb 4 = .ok (.aload_n 0, 1) := by decide +kernel
theorem dX4_newBulb_5 : decode cX4_newBulb 5 = .ok (.getfield 11, 3) := by decide +kernel
theorem dX4_newBulb_8 : decode cX4_newBulb 8 = .ok (.arraylength, 1) := by decide +kernel
theorem dX4_newBulb_9 : decode cX4_newBulb 9 = .ok (.if_icmp .ge 26, 3) := by decide +kernel
theorem dX4_newBulb_12 : decode cX4_newBulb 12 = .ok (.aload_n 0, 1) := by decide +kernel
theorem dX4_newBulb_13 : decode cX4_newBulb 13 = .ok (.getfield 11, 3) := by decide +kernel
theorem dX4_newBulb_16 : decode cX4_newBulb 16 = .ok (.aload_n 0, 1) := by decide +kernel
theorem dX4_newBulb_17 : decode cX4_newBulb 17 = .ok (.getfield 18, 3) := by decide +kernel
theorem dX4_newBulb_20 : decode cX4_newBulb 20 = .ok (.aaload, 1) := by decide +kernel
theorem dX4_newBulb_21 : decode cX4_newBulb 21 = .ok (.iload_n 1, 1) := by decide +kernel
theorem dX4_newBulb_22 : decode cX4_newBulb 22 = .ok (.invokevirtual 44, 3) := by decide +kernel
theorem dX4_newBulb_25 : decode cX4_newBulb 25 = .ok (.aload_n 0, 1) := by decide +kernel
theorem dX4_newBulb_26 : decode cX4_newBulb 26 = .ok (.dup, 1) := by decide +kernel
theorem dX4_newBulb_27 : decode cX4_newBulb 27 = .ok (.getfield 18, 3) := by decide +kernel
theorem dX4_newBulb_30 : decode cX4_newBulb 30 = .ok (.iconst 1, 1) := by decide +kernel
theorem dX4_newBulb_31 : decode cX4_newBulb 31 = .ok (.iadd, 1) := by decide +kernel
theorem dX4_newBulb_32 : decode cX4_newBulb 32 = .ok (.putfield 18, 3) := by decide +kernel
theorem dX4_newBulb_35 : decode cX4_newBulb 35 = .ok (.return_, 1) := by decide +kernel
theorem dX4_copyFrom_0 : decode cX4_copyFrom 0 = .ok (.aload_n 0, 1) := by decide +kernel
theorem dX4_copyFrom_1 : decode cX4_copyFrom 1 = .ok (.aload_n 1, 1) := by decide +kernel
theorem dX4_copyFrom_2 : decode cX4_copyFrom 2 = .ok (.getfield 18, 3) := by decide +kernel
theorem dX4_copyFrom_5 : decode cX4_copyFrom 5 = .ok (.putfield 18, 3) := by decide +kernel
theorem dX4_copyFrom_8 : decode cX4_copyFrom 8 = .ok (.aload_n 0, 1) := by decide +kernel
theorem dX4_copyFrom_9 : decode cX4_copyFrom 9 = .ok (.aload_n 1, 1) := by decide +kernel
theorem dX4_copyFrom_10 : decode cX4_copyFrom 10 = .ok (.getfield 22, 3) := by decide +kernel
theorem dX4_copyFrom_13 : decode cX4_copyFrom 13 = .ok (.putfield 22, 3) := by decide +kernel
theorem dX4_copyFrom_16 : decode cX4_copyFrom 16 = .ok (.aload_n 0, 1) := by decide +kernel
theorem dX4_copyFrom_17 : decode cX4_copyFrom 17 = .ok (.aload_n 1, 1) := by decide +kernel
theorem dX4_copyFrom_18 : decode cX4_copyFrom 18 = .ok (.getfield 25, 3) := by decide +kernel
theorem dX4_copyFrom_21 : decode cX4_copyFrom 21 = .ok (.putfield 25, 3) := by decide +kernel
theorem dX4_copyFrom_24 : decode cX4_copyFrom 24 = .ok (.aload_n 0, 1) := by decide +kernel
theorem dX4_copyFrom_25 : decode cX4_copyFrom 25 = .ok (.aload_n 1, 1) := by decide +kernel
theorem dX4_copyFrom_26 : decode cX4_copyFrom 26 = .ok (.getfield 28, 3) := by decide +kernel
theorem dX4_copyFrom_29 : decode cX4_copyFrom 29 = .ok (.putfield 28, 3) := by decide +kernel
theorem dX4_copyFrom_32 : decode cX4_copyFrom 32 = .ok (.aload_n 0, 1) := by decide +kernel
theorem dX4_copyFrom_33 : decode cX4_copyFrom 33 = .ok (.aload_n 1, 1) := by decide +kernel
theorem dX4_copyFrom_34 : decode cX4_copyFrom 34 = .ok (.getfield 31, 3) := by decide +kernel
theorem dX4_copyFrom_37 : decode cX4_copyFrom 37 = .ok (.putfield 31, 3) := by decide +kernel
theorem dX4_copyFrom_40 : decode cX4_copyFrom 40 = .ok (.aload_n 0, 1) := by decide +kernel
theorem dX4_copyFrom_41 : decode cX4_copyFrom 41 = .ok (.aload_n 1, 1) := by decide +kernel
theorem dX4_copyFrom_42 : decode cX4_copyFrom 42 = .ok (.getfield 34, 3) := by decide +kernel
theorem dX4_copyFrom_45 : decode cX4_copyFrom 45 = .ok (.putfield 34, 3) := by decide +kernel
theorem dX4_copyFrom_48 : decode cX4_copyFrom 48 = .ok (.aload_n 0, 1) := by decide +kernel
theorem dX4_copyFrom_49 : decode cX4_copyFrom 49 = .ok (.aload_n 1, 1) := by decide +kernel
theorem dX4_copyFrom_50 : decode cX4_copyFrom 50 = .ok (.getfield 37, 3) := by decide +kernel
theorem dX4_copyFrom_53 : decode cX4_copyFrom 53 = .ok (.putfield 37, 3) := by decide +kernel
theorem dX4_copyFrom_56 : decode cX4_copyFrom 56 = .ok (.iconst 0, 1) := by decide +kernel
theorem dX4_copyFrom_57 : decode cX4_copyFrom 57 = .ok (.istore_n 2, 1) := by decide +kernel
theorem dX4_copyFrom_58 : decode cX4_copyFrom 58 = .ok (.iload_n 2, 1) := by decide +kernel
theorem dX4_copyFrom_59 : decode cX4_copyFrom 59 = .ok (.aload_n 0, 1) := by decide +kernel
theorem dX4_copyFrom_60 : decode cX4_copyFrom 60 = .ok (.getfield 18, 3) := by decide +kernel
theorem dX4_copyFrom_63 : decode cX4_copyFrom 63 = .ok (.if_icmp .ge 24, 3) := by decide +kernel
theorem dX4_copyFrom_66 : decode cX4_copyFrom 66 = .ok (.aload_n 0, 1) := by decide +kernel
theorem dX4_copyFrom_67 : decode cX4_copyFrom 67 = .ok (.getfield 11, 3) := by decide +kernel
theorem dX4_copyFrom_70 : decode cX4_copyFrom 70 = .ok (.iload_n 2, 1) := by decide +kernel
theorem dX4_copyFrom_71 : decode cX4_copyFrom 71 = .ok (.aaload, 1) := by decide +kernel
theorem dX4_copyFrom_72 : decode cX4_copyFrom 72 = .ok (.aload_n 1, 1) := by decide +kernel
theorem dX4_copyFrom_73 : decode cX4_copyFrom 73 = .ok (.getfield 11, 3) := by decide +kernel
theorem dX4_copyFrom_76 : decode cX4_copyFrom 76 = .ok (.iload_n 2, 1) := by decide +kernel
theorem dX4_copyFrom_77 : decode cX4_copyFrom 77 = .ok (.aaload, 1) := by decide +kernel
theorem dX4_copyFrom_78 : decode cX4_copyFrom 78 = .ok (.invokevirtual 48, 3) := by decide +kernel
theorem dX4_copyFrom_81 : decode cX4_copyFrom 81 = .ok (.iinc 2 1, 3) := by decide +kernel
theorem dX4_copyFrom_84 : decode cX4_copyFrom 84 = .ok (.goto (-26), 3) := by decide +kernel
theorem dX4_copyFrom_87 : decode cX4_copyFrom 87 = .ok (.return_, 1) := by decide +kernel
theorem dX4_find_0 : decode cX4_find 0 = .ok (.iload_n 1, 1) := by decide +kernel
theorem dX4_find_1 : decode cX4_find 1 = .ok (.ifCond .lt 20, 3) := by decide +kernel
theorem dX4_find_4 : decode cX4_find 4 = .ok (.iload_n 1, 1) := by decide +kernel
theorem dX4_find_5 : decode cX4_find 5 = .ok (.aload_n 0, 1) := by decide +kernel
theorem dX4_find_6 : decode cX4_find 6 = .ok (.getfield 18, 3) := by decide +kernel
theorem dX4_find_9 : decode cX4_find 9 = .ok (.if_icmp .ge 12, 3) := by decide +kernel
theorem dX4_find_12 : decode cX4_find 12 = .ok (.aload_n 0, 1) := by decide +kernel
theorem dX4_find_13 : decode cX4_find 13 = .ok (.getfield 11, 3) := by decide +kernel
theorem dX4_find_16 : decode cX4_find 16 = .ok (.iload_n 1, 1) := by decide +kernel
theorem dX4_find_17 : decode cX4_find 17 = .ok (.aaload, 1) := by decide +kernel
theorem dX4_find_18 : decode cX4_find 18 = .ok (.goto 4, 3) := by decide +kernel
theorem dX4_find_21 : decode cX4_find 21 = .ok (.aconst_null, 1) := by decide +kernel
theorem dX4_find_22 : decode cX4_find 22 = .ok (.areturn, 1) := by decide +kernel
theorem dX4_pass_0 : decode cX4_pass 0 = .ok (.aload_n 0, 1) := by decide +kernel
theorem dX4_pass_1 : decode cX4_pass 1 = .ok (.getfield 37, 3) := by decide +kernel
theorem dX4_pass_4 : decode cX4_pass 4 = .ok (.istore_n 2, 1) := by decide +kernel
theorem dX4_pass_5 : decode cX4_pass 5 = .ok (.iconst 0, 1) := by decide +kernel
theorem dX4_pass_6 : decode cX4_pass 6 = .ok (.istore_n 3, 1) := by decide +kernel
theorem dX4_pass_7 : decode cX4_pass 7 = .ok (.iload_n 3, 1) := by decide +kernel
theorem dX4_pass_8 : decode cX4_pass 8 = .ok (.iload_n 1, 1) := by decide +kernel
theorem dX4_pass_9 : decode cX4_pass 9 = .ok (.if_icmp .ge 76, 3) := by decide +kernel
theorem dX4_pass_12 : decode cX4_pass 12 = .ok (.aload_n 0, 1) := by decide +kernel
theorem dX4_pass_13 : decode cX4_pass 13 = .ok (.dup, 1) := by decide +kernel
theorem dX4_pass_14 : decode cX4_pass 14 = .ok (.getfield 22, 3) := by decide +kernel
theorem dX4_pass_17 : decode cX4_pass 17 = .ok (.iconst 1, 1) := by decide +kernel
theorem dX4_pass_18 : decode cX4_pass 18 = .ok (.iadd, 1) := by decide +kernel
theorem dX4_pass_19 : decode cX4_pass 19 = .ok (.putfield 22, 3) := by decide +kernel
theorem dX4_pass_22 : decode cX4_pass 22 = .ok (.iconst 0, 1) := by decide +kernel
theorem dX4_pass_23 : decode cX4_pass 23 = .ok (.istore 4, 2) := by decide +kernel
theorem dX4_pass_25 : decode cX4_pass 25 = .ok (.iload 4, 2) := by decide +kernel
theorem dX4_pass_27 : decode cX4_pass 27 = .ok (.aload_n 0, 1) := by decide +kernel
theorem dX4_pass_28 : decode cX4_pass 28 = .ok (.getfield 18, 3) := by decide +kernel
theorem dX4_pass_31 : decode cX4_pass 31 = .ok (.if_icmp .ge 34, 3) := by decide +kernel
theorem dX4_pass_34 : decode cX4_pass 34 = .ok (.aload_n 0, 1) := by decide +kernel
theorem dX4_pass_35 : decode cX4_pass 35 = .ok (.getfield 11, 3) := by decide +kernel
theorem dX4_pass_38 : decode cX4_pass 38 = .ok (.iload 4, 2) := by decide +kernel
theorem dX4_pass_40 : decode cX4_pass 40 = .ok (.aaload, 1) := by decide +kernel
theorem dX4_pass_41 : decode cX4_pass 41 = .ok (.aload_n 0, 1) := by decide +kernel
theorem dX4_pass_42 : decode cX4_pass 42 = .ok (.getfield 22, 3) := by decide +kernel
theorem dX4_pass_45 : decode cX4_pass 45 = .ok (.aload_n 0, 1) := by decide +kernel
theorem dX4_pass_46 : decode cX4_pass 46 = .ok (.aload_n 0, 1) := by decide +kernel
theorem dX4_pass_47 : decode cX4_pass 47 = .ok (.getfield 11, 3) := by decide +kernel
theorem dX4_pass_50 : decode cX4_pass 50 = .ok (.iload 4, 2) := by decide +kernel
theorem dX4_pass_52 : decode cX4_pass 52 = .ok (.aaload, 1) := by decide +kernel
theorem dX4_pass_53 : decode cX4_pass 53 = .ok (.invokevirtual 52, 3) := by decide +kernel
theorem dX4_pass_56 : decode cX4_pass 56 = .ok (.invokevirtual 56, 3) := by decide +kernel
theorem dX4_pass_59 : decode cX4_pass 59 = .ok (.iinc 4 1, 3) := by decide +kernel
theorem dX4_pass_62 : decode cX4_pass 62 = .ok (.goto (-37), 3) := by decide +kernel
theorem dX4_pass_65 : decode cX4_pass 65 = .ok (.aload_n 0, 1) := by decide +kernel
theorem dX4_pass_66 : decode cX4_pass 66 = .ok (.getfield 22, 3) := by decide +kernel
theorem dX4_pass_69 : decode cX4_pass 69 = .ok (.bipush 60, 2) := by decide +kernel
theorem dX4_pass_71 : decode cX4_pass 71 = .ok (.irem, 1) := by decide +kernel
theorem dX4_pass_72 : decode cX4_pass 72 = .ok (.ifCond .ne 7, 3) := by decide +kernel
theorem dX4_pass_75 : decode cX4_pass 75 = .ok (.aload_n 0, 1) := by decide +kernel
theorem dX4_pass_76 : decode cX4_pass 76 = .ok (.invokevirtual 59, 3) := by decide +kernel
theorem dX4_pass_79 : decode cX4_pass 79 = .ok (.iinc 3 1, 3) := by decide +kernel
theorem dX4_pass_82 : decode cX4_pass 82 = .ok (.goto (-75), 3) := by decide +kernel
theorem dX4_pass_85 : decode cX4_pass 85 = .ok (.aload_n 0, 1) := by decide +kernel
theorem dX4_pass_86 : decode cX4_pass 86 = .ok (.getfield 37, 3) := by decide +kernel
theorem dX4_pass_89 : decode cX4_pass 89 = .ok (.iload_n 2, 1) := by decide +kernel
theorem dX4_pass_90 : decode cX4_pass 90 = .ok (.isub, 1) := by decide +kernel
theorem dX4_pass_91 : decode cX4_pass 91 = .ok (.ireturn, 1) := by decide +kernel
theorem dX4_bringHairs_0 : decode cX4_bringHairs 0 = .ok (.aload_n 0, 1) := by decide +kernel
theorem dX4_bringHairs_1 : decode cX4_bringHairs 1 = .ok (.getfield 31, 3) := by decide +kernel
theorem dX4_bringHairs_4 : decode cX4_bringHairs 4 = .ok (.bipush 99, 2) := by decide +kernel
theorem dX4_bringHairs_6 : decode cX4_bringHairs 6 = .ok (.aload_n 0, 1) := by decide +kernel
theorem dX4_bringHairs_7 : decode cX4_bringHairs 7 = .ok (.getfield 34, 3) := by decide +kernel
theorem dX4_bringHairs_10 : decode cX4_bringHairs 10 = .ok (.isub, 1) := by decide +kernel
theorem dX4_bringHairs_11 : decode cX4_bringHairs 11 = .ok (.invokestatic 62, 3) := by decide +kernel
theorem dX4_bringHairs_14 : decode cX4_bringHairs 14 = .ok (.istore_n 1, 1) := by decide +kernel
