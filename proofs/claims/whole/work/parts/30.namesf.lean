theorem dX8_scansWord_31 : decode cX8_scansWord 31 = .ok (.iconst 1, 1) := by decide +kernel
theorem dX8_scansWord_32 : decode cX8_scansWord 32 = .ok (.iadd, 1) := by decide +kernel
theorem dX8_scansWord_33 : decode cX8_scansWord 33 = .ok (.putfield 113, 3) := by decide +kernel
theorem dX8_scansWord_36 : decode cX8_scansWord 36 = .ok (.goto (-36), 3) := by decide +kernel
theorem dX8_scansWord_39 : decode cX8_scansWord 39 = .ok (.aload_n 0, 1) := by decide +kernel
theorem dX8_scansWord_40 : decode cX8_scansWord 40 = .ok (.iconst 1, 1) := by decide +kernel
theorem dX8_scansWord_41 : decode cX8_scansWord 41 = .ok (.putfield 110, 3) := by decide +kernel
theorem dX8_scansWord_44 : decode cX8_scansWord 44 = .ok (.iload_n 1, 1) := by decide +kernel
theorem dX8_scansWord_45 : decode cX8_scansWord 45 = .ok (.ifCond .eq 8, 3) := by decide +kernel
theorem dX8_scansWord_48 : decode cX8_scansWord 48 = .ok (.aload_n 0, 1) := by decide +kernel
theorem dX8_scansWord_49 : decode cX8_scansWord 49 = .ok (.iconst 4, 1) := by decide +kernel
theorem dX8_scansWord_50 : decode cX8_scansWord 50 = .ok (.putfield 110, 3) := by decide +kernel
theorem dX8_scansWord_53 : decode cX8_scansWord 53 = .ok (.return_, 1) := by decide +kernel
set_option maxRecDepth 20000 in
theorem ggX8_scansNumber_X8_isDigit : GoodIn wsX8_scansNumber wsX8_isDigit := goodIn_r _ [10] (by decide +kernel) (by decide +kernel)
set_option maxRecDepth 20000 in
theorem gX8_scansNumber_X8_isDigit : GoodIn wsX8_scansNumber (va_wsS RX8 129 yX8_isDigit wsX8_isDigit) := goodIn_app (goodIn_of _ (by decide +kernel)) ggX8_scansNumber_X8_isDigit
theorem dX8_scansNumber_0 : decode cX8_scansNumber 0 = .ok (.aload_n 0, 1) := by decide +kernel
theorem dX8_scansNumber_1 : decode cX8_scansNumber 1 = .ok (.iconst 0, 1) := by decide +kernel
theorem dX8_scansNumber_2 : decode cX8_scansNumber 2 = .ok (.putfield 135, 3) := by decide +kernel
theorem dX8_scansNumber_5 : decode cX8_scansNumber 5 = .ok (.aload_n 0, 1) := by decide +kernel
theorem dX8_scansNumber_6 : decode cX8_scansNumber 6 = .ok (.getfield 113, 3) := by decide +kernel
theorem dX8_scansNumber_9 : decode cX8_scansNumber 9 = .ok (.aload_n 0, 1) := by decide +kernel
theorem dX8_scansNumber_10 : decode cX8_scansNumber 10 = .ok (.getfield 119, 3) := by decide +kernel
theorem dX8_scansNumber_13 : decode cX8_scansNumber 13 = .ok (.if_icmp .ge 68, 3) := by decide +kernel
theorem dX8_scansNumber_16 : decode cX8_scansNumber 16 = .ok (.aload_n 0, 1) := by decide +kernel
theorem dX8_scansNumber_17 : decode cX8_scansNumber 17 = .ok (.getfield 28, 3) := by decide +kernel
theorem dX8_scansNumber_20 : decode cX8_scansNumber 20 = .ok (.aload_n 0, 1) := by decide +kernel
theorem dX8_scansNumber_21 : decode cX8_scansNumber 21 = .ok (.getfield 113, 3) := by decide +kernel
theorem dX8_scansNumber_24 : decode cX8_scansNumber 24 = .ok (.baload, 1) := by decide +kernel
theorem dX8_scansNumber_25 : decode cX8_scansNumber 25 = .ok (.invokestatic 129, 3) := by decide +kernel
theorem dX8_scansNumber_28 : decode cX8_scansNumber 28 = .ok (.ifCond .eq 53, 3) := by decide +kernel
theorem dX8_scansNumber_31 : decode cX8_scansNumber 31 = .ok (.aload_n 0, 1) := by decide +kernel
theorem dX8_scansNumber_32 : decode cX8_scansNumber 32 = .ok (.getfield 113, 3) := by decide +kernel
theorem dX8_scansNumber_35 : decode cX8_scansNumber 35 = .ok (.aload_n 0, 1) := by decide +kernel
theorem dX8_scansNumber_36 : decode cX8_scansNumber 36 = .ok (.getfield 116, 3) := by decide +kernel
theorem dX8_scansNumber_39 : decode cX8_scansNumber 39 = .ok (.isub, 1) := by decide +kernel
theorem dX8_scansNumber_40 : decode cX8_scansNumber 40 = .ok (.iconst 3, 1) := by decide +kernel
theorem dX8_scansNumber_41 : decode cX8_scansNumber 41 = .ok (.if_icmp .ge 27, 3) := by decide +kernel
theorem dX8_scansNumber_44 : decode cX8_scansNumber 44 = .ok (.aload_n 0, 1) := by decide +kernel
theorem dX8_scansNumber_45 : decode cX8_scansNumber 45 = .ok (.bipush 10, 2) := by decide +kernel
theorem dX8_scansNumber_47 : decode cX8_scansNumber 47 = .ok (.aload_n 0, 1) := by decide +kernel
theorem dX8_scansNumber_48 : decode cX8_scansNumber 48 = .ok (.getfield 135, 3) := by decide +kernel
theorem dX8_scansNumber_51 : decode cX8_scansNumber 51 = .ok (.imul, 1) := by decide +kernel
theorem dX8_scansNumber_52 : decode cX8_scansNumber 52 = .ok (.aload_n 0, 1) := by decide +kernel
theorem dX8_scansNumber_53 : decode cX8_scansNumber 53 = .ok (.getfield 28, 3) := by decide +kernel
theorem dX8_scansNumber_56 : decode cX8_scansNumber 56 = .ok (.aload_n 0, 1) := by decide +kernel
theorem dX8_scansNumber_57 : decode cX8_scansNumber 57 = .ok (.getfield 113, 3) := by decide +kernel
theorem dX8_scansNumber_60 : decode cX8_scansNumber 60 = .ok (.baload, 1) := by decide +kernel
theorem dX8_scansNumber_61 : decode cX8_scansNumber 61 = .ok (.iadd, 1) := by decide +kernel
theorem dX8_scansNumber_62 : decode cX8_scansNumber 62 = .ok (.bipush 48, 2) := by decide +kernel
theorem dX8_scansNumber_64 : decode cX8_scansNumber 64 = .ok (.isub, 1) := by decide +kernel
theorem dX8_scansNumber_65 : decode cX8_scansNumber 65 = .ok (.putfield 135, 3) := by decide +kernel
theorem dX8_scansNumber_68 : decode cX8_scansNumber 68 = .ok (.aload_n 0, 1) := by decide +kernel
theorem dX8_scansNumber_69 : decode cX8_scansNumber 69 = .ok (.dup, 1) := by decide +kernel
theorem dX8_scansNumber_70 : decode cX8_scansNumber 70 = .ok (.getfield 113, 3) := by decide +kernel
theorem dX8_scansNumber_73 : decode cX8_scansNumber 73 = .ok (.iconst 1, 1) := by decide +kernel
theorem dX8_scansNumber_74 : decode cX8_scansNumber 74 = .ok (.iadd, 1) := by decide +kernel
theorem dX8_scansNumber_75 : decode cX8_scansNumber 75 = .ok (.putfield 113, 3) := by decide +kernel
theorem dX8_scansNumber_78 : decode cX8_scansNumber 78 = .ok (.goto (-73), 3) := by decide +kernel
theorem dX8_scansNumber_81 : decode cX8_scansNumber 81 = .ok (.aload_n 0, 1) := by decide +kernel
theorem dX8_scansNumber_82 : decode cX8_scansNumber 82 = .ok (.iconst 2, 1) := by decide +kernel
theorem dX8_scansNumber_83 : decode cX8_scansNumber 83 = .ok (.putfield 110, 3) := by decide +kernel
theorem dX8_scansNumber_86 : decode cX8_scansNumber 86 = .ok (.iload_n 1, 1) := by decide +kernel
theorem dX8_scansNumber_87 : decode cX8_scansNumber 87 = .ok (.ifCond .ne 16, 3) := by decide +kernel
theorem dX8_scansNumber_90 : decode cX8_scansNumber 90 = .ok (.aload_n 0, 1) := by decide +kernel
theorem dX8_scansNumber_91 : decode cX8_scansNumber 91 = .ok (.getfield 113, 3) := by decide +kernel
theorem dX8_scansNumber_94 : decode cX8_scansNumber 94 = .ok (.aload_n 0, 1) := by decide +kernel
theorem dX8_scansNumber_95 : decode cX8_scansNumber 95 = .ok (.getfield 116, 3) := by decide +kernel
theorem dX8_scansNumber_98 : decode cX8_scansNumber 98 = .ok (.isub, 1) := by decide +kernel
theorem dX8_scansNumber_99 : decode cX8_scansNumber 99 = .ok (.iconst 3, 1) := by decide +kernel
theorem dX8_scansNumber_100 : decode cX8_scansNumber 100 = .ok (.if_icmp .le 8, 3) := by decide +kernel
theorem dX8_scansNumber_103 : decode cX8_scansNumber 103 = .ok (.aload_n 0, 1) := by decide +kernel
theorem dX8_scansNumber_104 : decode cX8_scansNumber 104 = .ok (.iconst 4, 1) := by decide +kernel
theorem dX8_scansNumber_105 : decode cX8_scansNumber 105 = .ok (.putfield 110, 3) := by decide +kernel
theorem dX8_scansNumber_108 : decode cX8_scansNumber 108 = .ok (.return_, 1) := by decide +kernel
theorem dX8_errs_0 : decode cX8_errs 0 = .ok (.aload_n 0, 1) := by decide +kernel
theorem dX8_errs_1 : decode cX8_errs 1 = .ok (.getfield 138, 3) := by decide +kernel
theorem dX8_errs_4 : decode cX8_errs 4 = .ok (.ifCond .ne 16, 3) := by decide +kernel
theorem dX8_errs_7 : decode cX8_errs 7 = .ok (.aload_n 0, 1) := by decide +kernel
theorem dX8_errs_8 : decode cX8_errs 8 = .ok (.iload_n 1, 1) := by decide +kernel
theorem dX8_errs_9 : decode cX8_errs 9 = .ok (.putfield 138, 3) := by decide +kernel
theorem dX8_errs_12 : decode cX8_errs 12 = .ok (.aload_n 0, 1) := by decide +kernel
theorem dX8_errs_13 : decode cX8_errs 13 = .ok (.aload_n 0, 1) := by decide +kernel
theorem dX8_errs_14 : decode cX8_errs 14 = .ok (.getfield 116, 3) := by decide +kernel
theorem dX8_errs_17 : decode cX8_errs 17 = .ok (.putfield 141, 3) := by decide +kernel
theorem dX8_errs_20 : decode cX8_errs 20 = .ok (.return_, 1) := by decide +kernel
theorem dX8_isKey_0 : decode cX8_isKey 0 = .ok (.aload_n 0, 1) := by decide +kernel
theorem dX8_isKey_1 : decode cX8_isKey 1 = .ok (.getfield 110, 3) := by decide +kernel
theorem dX8_isKey_4 : decode cX8_isKey 4 = .ok (.iconst 1, 1) := by decide +kernel
theorem dX8_isKey_5 : decode cX8_isKey 5 = .ok (.if_icmp .ne 17, 3) := by decide +kernel
theorem dX8_isKey_8 : decode cX8_isKey 8 = .ok (.aload_n 0, 1) := by decide +kernel
theorem dX8_isKey_9 : decode cX8_isKey 9 = .ok (.getfield 113, 3) := by decide +kernel
theorem dX8_isKey_12 : decode cX8_isKey 12 = .ok (.aload_n 0, 1) := by decide +kernel
theorem dX8_isKey_13 : decode cX8_isKey 13 = .ok (.getfield 116, 3) := by decide +kernel
theorem dX8_isKey_16 : decode cX8_isKey 16 = .ok (.isub, 1) := by decide +kernel
theorem dX8_isKey_17 : decode cX8_isKey 17 = .ok (.bipush 8, 2) := by decide +kernel
theorem dX8_isKey_19 : decode cX8_isKey 19 = .ok (.if_icmp .le 5, 3) := by decide +kernel
theorem dX8_isKey_22 : decode cX8_isKey 22 = .ok (.iconst 0, 1) := by decide +kernel
theorem dX8_isKey_23 : decode cX8_isKey 23 = .ok (.ireturn, 1) := by decide +kernel
theorem dX8_isKey_24 : decode cX8_isKey 24 = .ok (.iconst 0, 1) := by decide +kernel
theorem dX8_isKey_25 : decode cX8_isKey 25 = .ok (.istore_n 2, 1) := by decide +kernel
theorem dX8_isKey_26 : decode cX8_isKey 26 = .ok (.iload_n 2, 1) := by decide +kernel
theorem dX8_isKey_27 : decode cX8_isKey 27 = .ok (.bipush 8, 2) := by decide +kernel
theorem dX8_isKey_29 : decode cX8_isKey 29 = .ok (.if_icmp .ge 53, 3) := by decide +kernel
theorem dX8_isKey_32 : decode cX8_isKey 32 = .ok (.iconst 0, 1) := by decide +kernel
theorem dX8_isKey_33 : decode cX8_isKey 33 = .ok (.istore_n 3, 1) := by decide +kernel
theorem dX8_isKey_34 : decode cX8_isKey 34 = .ok (.iload_n 2, 1) := by decide +kernel
theorem dX8_isKey_35 : decode cX8_isKey 35 = .ok (.aload_n 0, 1) := by decide +kernel
theorem dX8_isKey_36 : decode cX8_isKey 36 = .ok (.getfield 113, 3) := by decide +kernel
theorem dX8_isKey_39 : decode cX8_isKey 39 = .ok (.aload_n 0, 1) := by decide +kernel
theorem dX8_isKey_40 : decode cX8_isKey 40 = .ok (.getfield 116, 3) := by decide +kernel
theorem dX8_isKey_43 : decode cX8_isKey 43 = .ok (.isub, 1) := by decide +kernel
theorem dX8_isKey_44 : decode cX8_isKey 44 = .ok (.if_icmp .ge 15, 3) := by decide +kernel
theorem dX8_isKey_47 : decode cX8_isKey 47 = .ok (.aload_n 0, 1) := by decide +kernel
theorem dX8_isKey_48 : decode cX8_isKey 48 = .ok (.getfield 28, 3) := by decide +kernel
theorem dX8_isKey_51 : decode cX8_isKey 51 = .ok (.aload_n 0, 1) := by decide +kernel
theorem dX8_isKey_52 : decode cX8_isKey 52 = .ok (.getfield 116, 3) := by decide +kernel
theorem dX8_isKey_55 : decode cX8_isKey 55 = .ok (.iload_n 2, 1) := by decide +kernel
theorem dX8_isKey_56 : decode cX8_isKey 56 = .ok (.iadd, 1) := by decide +kernel
theorem dX8_isKey_57 : decode cX8_isKey 57 = .ok (.baload, 1) := by decide +kernel
theorem dX8_isKey_58 : decode cX8_isKey 58 = .ok (.istore_n 3, 1) := by decide +kernel
theorem dX8_isKey_59 : decode cX8_isKey 59 = .ok (.iload_n 3, 1) := by decide +kernel
theorem dX8_isKey_60 : decode cX8_isKey 60 = .ok (.aload_n 0, 1) := by decide +kernel
theorem dX8_isKey_61 : decode cX8_isKey 61 = .ok (.getfield 13, 3) := by decide +kernel
theorem dX8_isKey_64 : decode cX8_isKey 64 = .ok (.bipush 8, 2) := by decide +kernel
theorem dX8_isKey_66 : decode cX8_isKey 66 = .ok (.iload_n 1, 1) := by decide +kernel
theorem dX8_isKey_67 : decode cX8_isKey 67 = .ok (.imul, 1) := by decide +kernel
theorem dX8_isKey_68 : decode cX8_isKey 68 = .ok (.iload_n 2, 1) := by decide +kernel
theorem dX8_isKey_69 : decode cX8_isKey 69 = .ok (.iadd, 1) := by decide +kernel
theorem dX8_isKey_70 : decode cX8_isKey 70 = .ok (.iaload, 1) := by decide +kernel
theorem dX8_isKey_71 : decode cX8_isKey 71 = .ok (.if_icmp .eq 5, 3) := by decide +kernel
theorem dX8_isKey_74 : decode cX8_isKey 74 = .ok (.iconst 0, 1) := by decide +kernel
theorem dX8_isKey_75 : decode cX8_isKey 75 = .ok (.ireturn, 1) := by decide +kernel
theorem dX8_isKey_76 : decode cX8_isKey 76 = .ok (.iinc 2 1, 3) := by decide +kernel
theorem dX8_isKey_79 : decode cX8_isKey 79 = .ok (.goto (-53), 3) := by decide +kernel
theorem dX8_isKey_82 : decode cX8_isKey 82 = .ok (.iconst 1, 1) := by decide +kernel
theorem dX8_isKey_83 : decode cX8_isKey 83 = .ok (.ireturn, 1) := by decide +kernel
set_option maxRecDepth 20000 in
theorem ggX8_goesOn_X8_next : GoodIn wsX8_goesOn wsX8_next := goodIn_r _ [6, 7, 8, 9, 10, 11, 12, 13, 5, 14, 15, 16, 17, 18, 19, 20, 21, 22, 23, 24, 25, 26, 27, 28, 29, 30, 31, 32, 33, 34, 35, 36, 37, 38, 39, 40, 41, 42, 43, 44, 45, 46, 47, 48] (by decide +kernel) (by decide +kernel)
set_option maxRecDepth 20000 in
theorem gX8_goesOn_X8_next : GoodIn wsX8_goesOn (wsV RX8 144 RX8 yX8_next wsX8_next) := goodIn_app (goodIn_of _ (by decide +kernel)) ggX8_goesOn_X8_next
theorem dX8_goesOn_0 : decode cX8_goesOn 0 = .ok (.aload_n 0, 1) := by decide +kernel
theorem dX8_goesOn_1 : decode cX8_goesOn 1 = .ok (.getfield 138, 3) := by decide +kernel
theorem dX8_goesOn_4 : decode cX8_goesOn 4 = .ok (.ifCond .ne 7, 3) := by decide +kernel
theorem dX8_goesOn_7 : decode cX8_goesOn 7 = .ok (.aload_n 0, 1) := by decide +kernel
theorem dX8_goesOn_8 : decode cX8_goesOn 8 = .ok (.invokevirtual 144, 3) := by decide +kernel
theorem dX8_goesOn_11 : decode cX8_goesOn 11 = .ok (.return_, 1) := by decide +kernel
set_option maxRecDepth 20000 in
theorem ggX8_here_X8_errs : GoodIn wsX8_here wsX8_errs := goodIn_r _ [8, 1, 9, 10, 14, 15, 16, 17, 18, 19, 20, 21, 22, 23, 24, 25, 26, 27, 28, 29, 30, 31, 32, 33, 34, 35] (by decide +kernel) (by decide +kernel)
set_option maxRecDepth 20000 in
theorem gX8_here_X8_errs : GoodIn wsX8_here (wsV RX8 147 RX8 yX8_errs wsX8_errs) := goodIn_app (goodIn_of _ (by decide +kernel)) ggX8_here_X8_errs
set_option maxRecDepth 20000 in
theorem ggX8_here_X8_in : GoodIn wsX8_here wsX8_in := goodIn_r _ [13] (by decide +kernel) (by decide +kernel)
set_option maxRecDepth 20000 in
theorem gX8_here_X8_in : GoodIn wsX8_here (va_wsS RX8 56 yX8_in wsX8_in) := goodIn_app (goodIn_of _ (by decide +kernel)) ggX8_here_X8_in
theorem dX8_here_0 : decode cX8_here 0 = .ok (.aload_n 0, 1) := by decide +kernel
theorem dX8_here_1 : decode cX8_here 1 = .ok (.getfield 138, 3) := by decide +kernel
theorem dX8_here_4 : decode cX8_here 4 = .ok (.ifCond .ne 16, 3) := by decide +kernel
theorem dX8_here_7 : decode cX8_here 7 = .ok (.aload_n 0, 1) := by decide +kernel
theorem dX8_here_8 : decode cX8_here 8 = .ok (.getfield 110, 3) := by decide +kernel
theorem dX8_here_11 : decode cX8_here 11 = .ok (.iconst 2, 1) := by decide +kernel
theorem dX8_here_12 : decode cX8_here 12 = .ok (.if_icmp .eq 8, 3) := by decide +kernel
theorem dX8_here_15 : decode cX8_here 15 = .ok (.aload_n 0, 1) := by decide +kernel
theorem dX8_here_16 : decode cX8_here 16 = .ok (.iconst 1, 1) := by decide +kernel
theorem dX8_here_17 : decode cX8_here 17 = .ok (.invokevirtual 147, 3) := by decide +kernel
theorem dX8_here_20 : decode cX8_here 20 = .ok (.aload_n 0, 1) := by decide +kernel
theorem dX8_here_21 : decode cX8_here 21 = .ok (.getfield 138, 3) := by decide +kernel
theorem dX8_here_24 : decode cX8_here 24 = .ok (.ifCond .ne 20, 3) := by decide +kernel
theorem dX8_here_27 : decode cX8_here 27 = .ok (.aload_n 0, 1) := by decide +kernel
theorem dX8_here_28 : decode cX8_here 28 = .ok (.getfield 135, 3) := by decide +kernel
theorem dX8_here_31 : decode cX8_here 31 = .ok (.iload_n 1, 1) := by decide +kernel
theorem dX8_here_32 : decode cX8_here 32 = .ok (.iload_n 2, 1) := by decide +kernel
theorem dX8_here_33 : decode cX8_here 33 = .ok (.invokestatic 56, 3) := by decide +kernel
theorem dX8_here_36 : decode cX8_here 36 = .ok (.ifCond .ne 8, 3) := by decide +kernel
theorem dX8_here_39 : decode cX8_here 39 = .ok (.aload_n 0, 1) := by decide +kernel
theorem dX8_here_40 : decode cX8_here 40 = .ok (.iconst 2, 1) := by decide +kernel
theorem dX8_here_41 : decode cX8_here 41 = .ok (.invokevirtual 147, 3) := by decide +kernel
theorem dX8_here_44 : decode cX8_here 44 = .ok (.aload_n 0, 1) := by decide +kernel
theorem dX8_here_45 : decode cX8_here 45 = .ok (.getfield 138, 3) := by decide +kernel
theorem dX8_here_48 : decode cX8_here 48 = .ok (.ifCond .ne 8, 3) := by decide +kernel
theorem dX8_here_51 : decode cX8_here 51 = .ok (.aload_n 0, 1) := by decide +kernel
theorem dX8_here_52 : decode cX8_here 52 = .ok (.getfield 135, 3) := by decide +kernel
theorem dX8_here_55 : decode cX8_here 55 = .ok (.ireturn, 1) := by decide +kernel
theorem dX8_here_56 : decode cX8_here 56 = .ok (.iload_n 1, 1) := by decide +kernel
theorem dX8_here_57 : decode cX8_here 57 = .ok (.ireturn, 1) := by decide +kernel
set_option maxRecDepth 20000 in
theorem ggX8_takesNumber_X8_here : GoodIn wsX8_takesNumber wsX8_here := goodIn_r _ [5, 6, 7, 8, 9, 10, 11, 4, 12, 13, 14, 15, 16, 17, 43, 44, 45, 46, 47, 48, 49, 50, 51, 52, 53, 54, 55, 56, 57, 58, 59, 60, 61, 62, 63, 64] (by decide +kernel) (by decide +kernel)
set_option maxRecDepth 20000 in
theorem gX8_takesNumber_X8_here : GoodIn wsX8_takesNumber (wsV RX8 150 RX8 yX8_here wsX8_here) := goodIn_app (goodIn_of _ (by decide +kernel)) ggX8_takesNumber_X8_here
set_option maxRecDepth 20000 in
theorem ggX8_takesNumber_X8_goesOn : GoodIn wsX8_takesNumber wsX8_goesOn := goodIn_r _ [21, 6, 22, 23, 24, 4, 25, 7, 26, 13, 27, 28, 29, 30, 31, 32, 33, 34, 35, 36, 37, 38, 39, 40, 41, 42, 8, 43, 44, 45, 46, 47, 48, 49, 50, 51, 52, 53, 54, 55, 56, 57, 58, 59, 60, 61, 62, 63, 64] (by decide +kernel) (by decide +kernel)
set_option maxRecDepth 20000 in
theorem gX8_takesNumber_X8_goesOn : GoodIn wsX8_takesNumber (wsV RX8 154 RX8 yX8_goesOn wsX8_goesOn) := goodIn_app (goodIn_of _ (by decide +kernel)) ggX8_takesNumber_X8_goesOn
theorem dX8_takesNumber_0 : decode cX8_takesNumber 0 = .ok (.aload_n 0, 1) := by decide +kernel
theorem dX8_takesNumber_1 : decode cX8_takesNumber 1 = .ok (.iload_n 1, 1) := by decide +kernel
theorem dX8_takesNumber_2 : decode cX8_takesNumber 2 = .ok (.iload_n 2, 1) := by decide +kernel
theorem dX8_takesNumber_3 : decode cX8_takesNumber 3 = .ok (.invokevirtual 150, 3) := by decide +kernel
theorem dX8_takesNumber_6 : decode cX8_takesNumber 6 = .ok (.istore_n 3, 1) := by decide +kernel
theorem dX8_takesNumber_7 : decode cX8_takesNumber 7 = .ok (.aload_n 0, 1) := by decide +kernel
theorem dX8_takesNumber_8 : decode cX8_takesNumber 8 = .ok (.invokevirtual 154, 3) := by decide +kernel
theorem dX8_takesNumber_11 : decode cX8_takesNumber 11 = .ok (.iload_n 3, 1) := by decide +kernel
theorem dX8_takesNumber_12 : decode cX8_takesNumber 12 = .ok (.ireturn, 1) := by decide +kernel
set_option maxRecDepth 20000 in
theorem ggX8_instrumentHere_X8_here : GoodIn wsX8_instrumentHere wsX8_here := goodIn_r _ [6, 7, 8, 9, 10, 11, 12, 5, 13, 14, 15, 16, 17, 18, 19, 20, 21, 22, 23, 24, 25, 26, 27, 28, 29, 30, 31, 32, 33, 34, 35, 36, 37, 38, 39, 40] (by decide +kernel) (by decide +kernel)
set_option maxRecDepth 20000 in
theorem gX8_instrumentHere_X8_here : GoodIn wsX8_instrumentHere (wsV RX8 150 RX8 yX8_here wsX8_here) := goodIn_app (goodIn_of _ (by decide +kernel)) ggX8_instrumentHere_X8_here
theorem dX8_instrumentHere_0 : decode cX8_instrumentHere 0 = .ok (.aload_n 0, 1) := by decide +kernel
theorem dX8_instrumentHere_1 : decode cX8_instrumentHere 1 = .ok (.iconst 0, 1) := by decide +kernel
theorem dX8_instrumentHere_2 : decode cX8_instrumentHere 2 = .ok (.aload_n 0, 1) := by decide +kernel
theorem dX8_instrumentHere_3 : decode cX8_instrumentHere 3 = .ok (.getfield 16, 3) := by decide +kernel
theorem dX8_instrumentHere_6 : decode cX8_instrumentHere 6 = .ok (.iconst 5, 1) := by decide +kernel
theorem dX8_instrumentHere_7 : decode cX8_instrumentHere 7 = .ok (.iaload, 1) := by decide +kernel
theorem dX8_instrumentHere_8 : decode cX8_instrumentHere 8 = .ok (.iconst 1, 1) := by decide +kernel
theorem dX8_instrumentHere_9 : decode cX8_instrumentHere 9 = .ok (.isub, 1) := by decide +kernel
theorem dX8_instrumentHere_10 : decode cX8_instrumentHere 10 = .ok (.invokevirtual 150, 3) := by decide +kernel
theorem dX8_instrumentHere_13 : decode cX8_instrumentHere 13 = .ok (.ireturn, 1) := by decide +kernel
set_option maxRecDepth 20000 in
theorem ggX8_hasRoom_X8_errs : GoodIn wsX8_hasRoom wsX8_errs := goodIn_r _ [6, 7, 8, 9, 33, 34, 35, 36, 37, 38, 39, 40, 41, 42, 43, 44, 45, 46, 47, 48, 49, 50, 51, 52, 53, 54] (by decide +kernel) (by decide +kernel)
set_option maxRecDepth 20000 in
theorem gX8_hasRoom_X8_errs : GoodIn wsX8_hasRoom (wsV RX8 147 RX8 yX8_errs wsX8_errs) := goodIn_app (goodIn_of _ (by decide +kernel)) ggX8_hasRoom_X8_errs
set_option maxRecDepth 20000 in
theorem ggX8_hasRoom_X8_next : GoodIn wsX8_hasRoom wsX8_next := goodIn_r _ [13, 14, 15, 8, 16, 17, 18, 19, 5, 20, 21, 22, 23, 24, 25, 26, 27, 28, 29, 30, 31, 32, 33, 34, 35, 36, 37, 38, 39, 40, 41, 42, 43, 44, 45, 46, 47, 48, 49, 50, 51, 52, 53, 54] (by decide +kernel) (by decide +kernel)
set_option maxRecDepth 20000 in
theorem gX8_hasRoom_X8_next : GoodIn wsX8_hasRoom (wsV RX8 144 RX8 yX8_next wsX8_next) := goodIn_app (goodIn_of _ (by decide +kernel)) ggX8_hasRoom_X8_next
theorem dX8_hasRoom_0 : decode cX8_hasRoom 0 = .ok (.aload_n 0, 1) := by decide +kernel
theorem dX8_hasRoom_1 : decode cX8_hasRoom 1 = .ok (.getfield 16, 3) := by decide +kernel
theorem dX8_hasRoom_4 : decode cX8_hasRoom 4 = .ok (.iconst 5, 1) := by decide +kernel
theorem dX8_hasRoom_5 : decode cX8_hasRoom 5 = .ok (.iaload, 1) := by decide +kernel
theorem dX8_hasRoom_6 : decode cX8_hasRoom 6 = .ok (.bipush 6, 2) := by decide +kernel
theorem dX8_hasRoom_8 : decode cX8_hasRoom 8 = .ok (.if_icmp .ne 10, 3) := by decide +kernel
theorem dX8_hasRoom_11 : decode cX8_hasRoom 11 = .ok (.aload_n 0, 1) := by decide +kernel
theorem dX8_hasRoom_12 : decode cX8_hasRoom 12 = .ok (.iconst 4, 1) := by decide +kernel
theorem dX8_hasRoom_13 : decode cX8_hasRoom 13 = .ok (.invokevirtual 147, 3) := by decide +kernel
theorem dX8_hasRoom_16 : decode cX8_hasRoom 16 = .ok (.iconst 0, 1) := by decide +kernel
theorem dX8_hasRoom_17 : decode cX8_hasRoom 17 = .ok (.ireturn, 1) := by decide +kernel
theorem dX8_hasRoom_18 : decode cX8_hasRoom 18 = .ok (.aload_n 0, 1) := by decide +kernel
theorem dX8_hasRoom_19 : decode cX8_hasRoom 19 = .ok (.invokevirtual 144, 3) := by decide +kernel
theorem dX8_hasRoom_22 : decode cX8_hasRoom 22 = .ok (.iconst 1, 1) := by decide +kernel
theorem dX8_hasRoom_23 : decode cX8_hasRoom 23 = .ok (.ireturn, 1) := by decide +kernel
set_option maxRecDepth 20000 in
theorem ggX8_readsHair_X8_hasRoom : GoodIn wsX8_readsHair wsX8_hasRoom := goodIn_r _ [6, 7, 8, 9, 10, 5, 11, 1, 12, 13, 14, 15, 16, 17, 18, 19, 20, 21, 22, 23, 24, 25, 26, 27, 28, 29, 30, 31, 32, 33, 34, 35, 36, 63, 64, 65, 66, 67, 68, 69, 70, 71, 72, 73, 74, 75, 76, 77, 78, 79, 80, 81, 82, 83, 84] (by decide +kernel) (by decide +kernel)
set_option maxRecDepth 20000 in
theorem gX8_readsHair_X8_hasRoom : GoodIn wsX8_readsHair (wsV RX8 157 RX8 yX8_hasRoom wsX8_hasRoom) := goodIn_app (goodIn_of _ (by decide +kernel)) ggX8_readsHair_X8_hasRoom
set_option maxRecDepth 20000 in
theorem ggX8_readsHair_X8_takesNumber : GoodIn wsX8_readsHair wsX8_takesNumber := goodIn_r _ [40, 41, 42, 43, 5, 44, 1, 18, 36, 8, 9, 10, 11, 12, 13, 45, 46, 47, 48, 49, 50, 51, 14, 15, 16, 17, 19, 20, 21, 22, 23, 24, 25, 26, 27, 28, 29, 30, 31, 32, 33, 34, 35, 63, 64, 65, 66, 67, 68, 69, 70, 71, 72, 73, 74, 75, 76, 77, 78, 79, 80, 81, 82, 83, 84] (by decide +kernel) (by decide +kernel)
set_option maxRecDepth 20000 in
theorem gX8_readsHair_X8_takesNumber : GoodIn wsX8_readsHair (wsV RX8 161 RX8 yX8_takesNumber wsX8_takesNumber) := goodIn_app (goodIn_of _ (by decide +kernel)) ggX8_readsHair_X8_takesNumber
set_option maxRecDepth 20000 in
theorem ggX8_readsHair_X8_hangsHair : GoodIn wsX8_readsHair wsX8_hangsHair := goodIn_r _ [55, 7, 56, 57, 58, 5, 59, 60, 61, 62, 63, 64, 65, 66, 67, 68, 69, 70, 71, 72, 73, 74, 75, 76, 77, 78, 79, 80, 81, 82, 83, 84] (by decide +kernel) (by decide +kernel)
set_option maxRecDepth 20000 in
theorem gX8_readsHair_X8_hangsHair : GoodIn wsX8_readsHair (wsV RX8 39 RX8 yX8_hangsHair wsX8_hangsHair) := goodIn_app (goodIn_of _ (by decide +kernel)) ggX8_readsHair_X8_hangsHair
theorem dX8_readsHair_0 : decode cX8_readsHair 0 = .ok (.aload_n 0, 1) := by decide +kernel
theorem dX8_readsHair_1 : decode cX8_readsHair 1 = .ok (.invokevirtual 157, 3) := by decide +kernel
theorem dX8_readsHair_4 : decode cX8_readsHair 4 = .ok (.ifCond .ne 4, 3) := by decide +kernel
theorem dX8_readsHair_7 : decode cX8_readsHair 7 = .ok (.return_, 1) := by decide +kernel
theorem dX8_readsHair_8 : decode cX8_readsHair 8 = .ok (.aload_n 0, 1) := by decide +kernel
theorem dX8_readsHair_9 : decode cX8_readsHair 9 = .ok (.iconst 1, 1) := by decide +kernel
theorem dX8_readsHair_10 : decode cX8_readsHair 10 = .ok (.bipush 20, 2) := by decide +kernel
theorem dX8_readsHair_12 : decode cX8_readsHair 12 = .ok (.invokevirtual 161, 3) := by decide +kernel
theorem dX8_readsHair_15 : decode cX8_readsHair 15 = .ok (.istore_n 1, 1) := by decide +kernel
theorem dX8_readsHair_16 : decode cX8_readsHair 16 = .ok (.aload_n 0, 1) := by decide +kernel
theorem dX8_readsHair_17 : decode cX8_readsHair 17 = .ok (.getfield 138, 3) := by decide +kernel
theorem dX8_readsHair_20 : decode cX8_readsHair 20 = .ok (.ifCond .ne 8, 3) := by decide +kernel
theorem dX8_readsHair_23 : decode cX8_readsHair 23 = .ok (.aload_n 0, 1) := by decide +kernel
theorem dX8_readsHair_24 : decode cX8_readsHair 24 = .ok (.iload_n 1, 1) := by decide +kernel
theorem dX8_readsHair_25 : decode cX8_readsHair 25 = .ok (.invokevirtual 39, 3) := by decide +kernel
theorem dX8_readsHair_28 : decode cX8_readsHair 28 = .ok (.return_, 1) := by decide +kernel
set_option maxRecDepth 20000 in
theorem ggX8_readsBulb_X8_hasRoom : GoodIn wsX8_readsBulb wsX8_hasRoom := goodIn_r _ [6, 7, 8, 9, 10, 5, 11, 1, 12, 13, 14, 15, 16, 17, 18, 19, 20, 21, 22, 23, 24, 25, 26, 27, 28, 29, 30, 31, 32, 33, 34, 35, 36, 63, 64, 65, 66, 67, 68, 69, 70, 71, 72, 73, 74, 75, 76, 77, 78, 79, 80, 81, 82, 83, 84] (by decide +kernel) (by decide +kernel)
set_option maxRecDepth 20000 in
theorem gX8_readsBulb_X8_hasRoom : GoodIn wsX8_readsBulb (wsV RX8 157 RX8 yX8_hasRoom wsX8_hasRoom) := goodIn_app (goodIn_of _ (by decide +kernel)) ggX8_readsBulb_X8_hasRoom
set_option maxRecDepth 20000 in
theorem ggX8_readsBulb_X8_takesNumber : GoodIn wsX8_readsBulb wsX8_takesNumber := goodIn_r _ [40, 41, 42, 43, 5, 44, 1, 18, 36, 8, 9, 10, 11, 12, 13, 45, 46, 47, 48, 49, 50, 51, 14, 15, 16, 17, 19, 20, 21, 22, 23, 24, 25, 26, 27, 28, 29, 30, 31, 32, 33, 34, 35, 63, 64, 65, 66, 67, 68, 69, 70, 71, 72, 73, 74, 75, 76, 77, 78, 79, 80, 81, 82, 83, 84] (by decide +kernel) (by decide +kernel)
set_option maxRecDepth 20000 in
theorem gX8_readsBulb_X8_takesNumber : GoodIn wsX8_readsBulb (wsV RX8 161 RX8 yX8_takesNumber wsX8_takesNumber) := goodIn_app (goodIn_of _ (by decide +kernel)) ggX8_readsBulb_X8_takesNumber
set_option maxRecDepth 20000 in
theorem ggX8_readsBulb_X8_hangsBulb : GoodIn wsX8_readsBulb wsX8_hangsBulb := goodIn_r _ [55, 7, 56, 57, 58, 5, 59, 60, 61, 62, 63, 64, 65, 66, 67, 68, 69, 70, 71, 72, 73, 74, 75, 76, 77, 78, 79, 80, 81, 82, 83, 84] (by decide +kernel) (by decide +kernel)
set_option maxRecDepth 20000 in
theorem gX8_readsBulb_X8_hangsBulb : GoodIn wsX8_readsBulb (wsV RX8 43 RX8 yX8_hangsBulb wsX8_hangsBulb) := goodIn_app (goodIn_of _ (by decide +kernel)) ggX8_readsBulb_X8_hangsBulb
theorem dX8_readsBulb_0 : decode cX8_readsBulb 0 = .ok (.aload_n 0, 1) := by decide +kernel
theorem dX8_readsBulb_1 : decode cX8_readsBulb 1 = .ok (.invokevirtual 157, 3) := by decide +kernel
theorem dX8_readsBulb_4 : decode cX8_readsBulb 4 = .ok (.ifCond .ne 4, 3) := by decide +kernel
theorem dX8_readsBulb_7 : decode cX8_readsBulb 7 = .ok (.return_, 1) := by decide +kernel
theorem dX8_readsBulb_8 : decode cX8_readsBulb 8 = .ok (.aload_n 0, 1) := by decide +kernel
theorem dX8_readsBulb_9 : decode cX8_readsBulb 9 = .ok (.iconst 0, 1) := by decide +kernel
theorem dX8_readsBulb_10 : decode cX8_readsBulb 10 = .ok (.bipush 60, 2) := by decide +kernel
theorem dX8_readsBulb_12 : decode cX8_readsBulb 12 = .ok (.invokevirtual 161, 3) := by decide +kernel
theorem dX8_readsBulb_15 : decode cX8_readsBulb 15 = .ok (.istore_n 1, 1) := by decide +kernel
theorem dX8_readsBulb_16 : decode cX8_readsBulb 16 = .ok (.aload_n 0, 1) := by decide +kernel
theorem dX8_readsBulb_17 : decode cX8_readsBulb 17 = .ok (.getfield 138, 3) := by decide +kernel
theorem dX8_readsBulb_20 : decode cX8_readsBulb 20 = .ok (.ifCond .ne 8, 3) := by decide +kernel
theorem dX8_readsBulb_23 : decode cX8_readsBulb 23 = .ok (.aload_n 0, 1) := by decide +kernel
theorem dX8_readsBulb_24 : decode cX8_readsBulb 24 = .ok (.iload_n 1, 1) := by decide +kernel
theorem dX8_readsBulb_25 : decode cX8_readsBulb 25 = .ok (.invokevirtual 43, 3) := by decide +kernel
theorem dX8_readsBulb_28 : decode cX8_readsBulb 28 = .ok (.return_, 1) := by decide +kernel
set_option maxRecDepth 20000 in
theorem ggX8_readsBox_X8_next : GoodIn wsX8_readsBox wsX8_next := goodIn_r _ [7, 8, 9, 10, 11, 12, 13, 14, 6, 15, 16, 17, 18, 19, 20, 21, 22, 23, 24, 25, 26, 27, 59, 60, 61, 62, 63, 64, 65, 66, 67, 68, 69, 70, 71, 72, 73, 74, 75, 76, 77, 78, 79, 80] (by decide +kernel) (by decide +kernel)
set_option maxRecDepth 20000 in
theorem gX8_readsBox_X8_next : GoodIn wsX8_readsBox (wsV RX8 144 RX8 yX8_next wsX8_next) := goodIn_app (goodIn_of _ (by decide +kernel)) ggX8_readsBox_X8_next
set_option maxRecDepth 20000 in
theorem ggX8_readsBox_X8_instrumentHere : GoodIn wsX8_readsBox wsX8_instrumentHere := goodIn_r _ [31, 2, 32, 33, 34, 6, 35, 1, 8, 27, 36, 37, 38, 39, 10, 40, 41, 42, 43, 59, 60, 61, 62, 63, 64, 65, 66, 67, 68, 69, 70, 71, 72, 73, 74, 75, 76, 77, 78, 79, 80] (by decide +kernel) (by decide +kernel)
set_option maxRecDepth 20000 in
theorem gX8_readsBox_X8_instrumentHere : GoodIn wsX8_readsBox (wsV RX8 164 RX8 yX8_instrumentHere wsX8_instrumentHere) := goodIn_app (goodIn_of _ (by decide +kernel)) ggX8_readsBox_X8_instrumentHere
set_option maxRecDepth 20000 in
theorem ggX8_readsBox_X8_isBoxed : GoodIn wsX8_readsBox wsX8_isBoxed := goodIn_r _ [47, 2, 48, 49, 6, 50, 59, 60, 61, 62, 63, 64, 65, 66, 67, 68, 69, 70, 71, 72, 73, 74, 75, 76, 77, 78, 79, 80] (by decide +kernel) (by decide +kernel)
set_option maxRecDepth 20000 in
theorem gX8_readsBox_X8_isBoxed : GoodIn wsX8_readsBox (wsV RX8 63 RX8 yX8_isBoxed wsX8_isBoxed) := goodIn_app (goodIn_of _ (by decide +kernel)) ggX8_readsBox_X8_isBoxed
set_option maxRecDepth 20000 in
theorem ggX8_readsBox_X8_errs : GoodIn wsX8_readsBox wsX8_errs := goodIn_r _ [39, 1, 10, 40, 59, 60, 61, 62, 63, 64, 65, 66, 67, 68, 69, 70, 71, 72, 73, 74, 75, 76, 77, 78, 79, 80] (by decide +kernel) (by decide +kernel)
set_option maxRecDepth 20000 in
theorem gX8_readsBox_X8_errs : GoodIn wsX8_readsBox (wsV RX8 147 RX8 yX8_errs wsX8_errs) := goodIn_app (goodIn_of _ (by decide +kernel)) ggX8_readsBox_X8_errs
set_option maxRecDepth 20000 in
theorem ggX8_readsBox_X8_goesOn : GoodIn wsX8_readsBox wsX8_goesOn := goodIn_r _ [54, 1, 3, 4, 5, 6, 7, 8, 9, 10, 11, 12, 13, 14, 15, 16, 17, 18, 19, 20, 21, 22, 23, 24, 25, 26, 27, 59, 60, 61, 62, 63, 64, 65, 66, 67, 68, 69, 70, 71, 72, 73, 74, 75, 76, 77, 78, 79, 80] (by decide +kernel) (by decide +kernel)
set_option maxRecDepth 20000 in
theorem gX8_readsBox_X8_goesOn : GoodIn wsX8_readsBox (wsV RX8 154 RX8 yX8_goesOn wsX8_goesOn) := goodIn_app (goodIn_of _ (by decide +kernel)) ggX8_readsBox_X8_goesOn
set_option maxRecDepth 20000 in
theorem ggX8_readsBox_X8_takesNumber : GoodIn wsX8_readsBox wsX8_takesNumber := goodIn_r _ [58, 32, 33, 34, 6, 35, 1, 8, 27, 36, 37, 38, 39, 10, 40, 41, 42, 43, 51, 52, 53, 54, 3, 4, 5, 7, 9, 11, 12, 13, 14, 15, 16, 17, 18, 19, 20, 21, 22, 23, 24, 25, 26, 59, 60, 61, 62, 63, 64, 65, 66, 67, 68, 69, 70, 71, 72, 73, 74, 75, 76, 77, 78, 79, 80] (by decide +kernel) (by decide +kernel)
set_option maxRecDepth 20000 in
theorem gX8_readsBox_X8_takesNumber : GoodIn wsX8_readsBox (wsV RX8 161 RX8 yX8_takesNumber wsX8_takesNumber) := goodIn_app (goodIn_of _ (by decide +kernel)) ggX8_readsBox_X8_takesNumber
set_option maxRecDepth 20000 in
theorem ggX8_readsBox_X8_i : GoodIn wsX8_readsBox wsX8_i := goodIn_r _ [50] (by decide +kernel) (by decide +kernel)
set_option maxRecDepth 20000 in
theorem gX8_readsBox_X8_i : GoodIn wsX8_readsBox (va_wsS RX8 50 yX8_i wsX8_i) := goodIn_app (goodIn_of _ (by decide +kernel)) ggX8_readsBox_X8_i
theorem dX8_readsBox_0 : decode cX8_readsBox 0 = .ok (.aload_n 0, 1) := by decide +kernel
theorem dX8_readsBox_1 : decode cX8_readsBox 1 = .ok (.invokevirtual 144, 3) := by decide +kernel
theorem dX8_readsBox_4 : decode cX8_readsBox 4 = .ok (.aload_n 0, 1) := by decide +kernel
theorem dX8_readsBox_5 : decode cX8_readsBox 5 = .ok (.invokevirtual 164, 3) := by decide +kernel
theorem dX8_readsBox_8 : decode cX8_readsBox 8 = .ok (.istore_n 1, 1) := by decide +kernel
theorem dX8_readsBox_9 : decode cX8_readsBox 9 = .ok (.aload_n 0, 1) := by decide +kernel
theorem dX8_readsBox_10 : decode cX8_readsBox 10 = .ok (.getfield 138, 3) := by decide +kernel
theorem dX8_readsBox_13 : decode cX8_readsBox 13 = .ok (.ifCond .ne 16, 3) := by decide +kernel
theorem dX8_readsBox_16 : decode cX8_readsBox 16 = .ok (.aload_n 0, 1) := by decide +kernel
theorem dX8_readsBox_17 : decode cX8_readsBox 17 = .ok (.iload_n 1, 1) := by decide +kernel
theorem dX8_readsBox_18 : decode cX8_readsBox 18 = .ok (.invokevirtual 63, 3) := by decide +kernel
theorem dX8_readsBox_21 : decode cX8_readsBox 21 = .ok (.ifCond .eq 8, 3) := by decide +kernel
theorem dX8_readsBox_24 : decode cX8_readsBox 24 = .ok (.aload_n 0, 1) := by decide +kernel
theorem dX8_readsBox_25 : decode cX8_readsBox 25 = .ok (.iconst 5, 1) := by decide +kernel
theorem dX8_readsBox_26 : decode cX8_readsBox 26 = .ok (.invokevirtual 147, 3) := by decide +kernel
theorem dX8_readsBox_29 : decode cX8_readsBox 29 = .ok (.aload_n 0, 1) := by decide +kernel
theorem dX8_readsBox_30 : decode cX8_readsBox 30 = .ok (.invokevirtual 154, 3) := by decide +kernel
theorem dX8_readsBox_33 : decode cX8_readsBox 33 = .ok (.aload_n 0, 1) := by decide +kernel
theorem dX8_readsBox_34 : decode cX8_readsBox 34 = .ok (.iconst 0, 1) := by decide +kernel
theorem dX8_readsBox_35 : decode cX8_readsBox 35 = .ok (.iconst 3, 1) := by decide +kernel
theorem dX8_readsBox_36 : decode cX8_readsBox 36 = .ok (.invokevirtual 161, 3) := by decide +kernel
theorem dX8_readsBox_39 : decode cX8_readsBox 39 = .ok (.istore_n 2, 1) := by decide +kernel
theorem dX8_readsBox_40 : decode cX8_readsBox 40 = .ok (.aload_n 0, 1) := by decide +kernel
theorem dX8_readsBox_41 : decode cX8_readsBox 41 = .ok (.getfield 138, 3) := by decide +kernel
theorem dX8_readsBox_44 : decode cX8_readsBox 44 = .ok (.ifCond .ne 16, 3) := by decide +kernel
theorem dX8_readsBox_47 : decode cX8_readsBox 47 = .ok (.aload_n 0, 1) := by decide +kernel
theorem dX8_readsBox_48 : decode cX8_readsBox 48 = .ok (.getfield 16, 3) := by decide +kernel
theorem dX8_readsBox_51 : decode cX8_readsBox 51 = .ok (.iload_n 1, 1) := by decide +kernel
theorem dX8_readsBox_52 : decode cX8_readsBox 52 = .ok (.invokestatic 50, 3) := by decide +kernel
theorem dX8_readsBox_55 : decode cX8_readsBox 55 = .ok (.bipush 7, 2) := by decide +kernel
theorem dX8_readsBox_57 : decode cX8_readsBox 57 = .ok (.iadd, 1) := by decide +kernel
theorem dX8_readsBox_58 : decode cX8_readsBox 58 = .ok (.iload_n 2, 1) := by decide +kernel
theorem dX8_readsBox_59 : decode cX8_readsBox 59 = .ok (.iastore, 1) := by decide +kernel
theorem dX8_readsBox_60 : decode cX8_readsBox 60 = .ok (.return_, 1) := by decide +kernel
set_option maxRecDepth 20000 in
theorem ggX8_readsOut_X8_next : GoodIn wsX8_readsOut wsX8_next := goodIn_r _ [7, 8, 9, 10, 11, 12, 13, 14, 6, 15, 16, 17, 18, 19, 20, 21, 22, 23, 24, 25, 26, 27, 51, 52, 53, 54, 55, 56, 57, 58, 59, 60, 61, 62, 63, 64, 65, 66, 67, 68, 69, 70, 71, 72] (by decide +kernel) (by decide +kernel)
set_option maxRecDepth 20000 in
theorem gX8_readsOut_X8_next : GoodIn wsX8_readsOut (wsV RX8 144 RX8 yX8_next wsX8_next) := goodIn_app (goodIn_of _ (by decide +kernel)) ggX8_readsOut_X8_next
set_option maxRecDepth 20000 in
theorem ggX8_readsOut_X8_instrumentHere : GoodIn wsX8_readsOut wsX8_instrumentHere := goodIn_r _ [31, 2, 32, 33, 34, 6, 35, 1, 8, 27, 36, 37, 38, 39, 10, 40, 41, 42, 43, 51, 52, 53, 54, 55, 56, 57, 58, 59, 60, 61, 62, 63, 64, 65, 66, 67, 68, 69, 70, 71, 72] (by decide +kernel) (by decide +kernel)
set_option maxRecDepth 20000 in
theorem gX8_readsOut_X8_instrumentHere : GoodIn wsX8_readsOut (wsV RX8 164 RX8 yX8_instrumentHere wsX8_instrumentHere) := goodIn_app (goodIn_of _ (by decide +kernel)) ggX8_readsOut_X8_instrumentHere
set_option maxRecDepth 20000 in
theorem ggX8_readsOut_X8_isBoxed : GoodIn wsX8_readsOut wsX8_isBoxed := goodIn_r _ [47, 2, 48, 49, 6, 50, 51, 52, 53, 54, 55, 56, 57, 58, 59, 60, 61, 62, 63, 64, 65, 66, 67, 68, 69, 70, 71, 72] (by decide +kernel) (by decide +kernel)
set_option maxRecDepth 20000 in
theorem gX8_readsOut_X8_isBoxed : GoodIn wsX8_readsOut (wsV RX8 63 RX8 yX8_isBoxed wsX8_isBoxed) := goodIn_app (goodIn_of _ (by decide +kernel)) ggX8_readsOut_X8_isBoxed
set_option maxRecDepth 20000 in
theorem ggX8_readsOut_X8_errs : GoodIn wsX8_readsOut wsX8_errs := goodIn_r _ [39, 1, 10, 40, 51, 52, 53, 54, 55, 56, 57, 58, 59, 60, 61, 62, 63, 64, 65, 66, 67, 68, 69, 70, 71, 72] (by decide +kernel) (by decide +kernel)
set_option maxRecDepth 20000 in
theorem gX8_readsOut_X8_errs : GoodIn wsX8_readsOut (wsV RX8 147 RX8 yX8_errs wsX8_errs) := goodIn_app (goodIn_of _ (by decide +kernel)) ggX8_readsOut_X8_errs
set_option maxRecDepth 20000 in
theorem ggX8_readsOut_X8_i : GoodIn wsX8_readsOut wsX8_i := goodIn_r _ [50] (by decide +kernel) (by decide +kernel)
set_option maxRecDepth 20000 in
theorem gX8_readsOut_X8_i : GoodIn wsX8_readsOut (va_wsS RX8 50 yX8_i wsX8_i) := goodIn_app (goodIn_of _ (by decide +kernel)) ggX8_readsOut_X8_i
theorem dX8_readsOut_0 : decode cX8_readsOut 0 = .ok (.aload_n 0, 1) := by decide +kernel
theorem dX8_readsOut_1 : decode cX8_readsOut 1 = .ok (.invokevirtual 144, 3) := by decide +kernel
theorem dX8_readsOut_4 : decode cX8_readsOut 4 = .ok (.aload_n 0, 1) := by decide +kernel
theorem dX8_readsOut_5 : decode cX8_readsOut 5 = .ok (.invokevirtual 164, 3) := by decide +kernel
theorem dX8_readsOut_8 : decode cX8_readsOut 8 = .ok (.istore_n 1, 1) := by decide +kernel
theorem dX8_readsOut_9 : decode cX8_readsOut 9 = .ok (.aload_n 0, 1) := by decide +kernel
theorem dX8_readsOut_10 : decode cX8_readsOut 10 = .ok (.getfield 138, 3) := by decide +kernel
theorem dX8_readsOut_13 : decode cX8_readsOut 13 = .ok (.ifCond .ne 16, 3) := by decide +kernel
theorem dX8_readsOut_16 : decode cX8_readsOut 16 = .ok (.aload_n 0, 1) := by decide +kernel
theorem dX8_readsOut_17 : decode cX8_readsOut 17 = .ok (.iload_n 1, 1) := by decide +kernel
theorem dX8_readsOut_18 : decode cX8_readsOut 18 = .ok (.invokevirtual 63, 3) := by decide +kernel
theorem dX8_readsOut_21 : decode cX8_readsOut 21 = .ok (.ifCond .ne 8, 3) := by decide +kernel
theorem dX8_readsOut_24 : decode cX8_readsOut 24 = .ok (.aload_n 0, 1) := by decide +kernel
theorem dX8_readsOut_25 : decode cX8_readsOut 25 = .ok (.iconst 5, 1) := by decide +kernel
theorem dX8_readsOut_26 : decode cX8_readsOut 26 = .ok (.invokevirtual 147, 3) := by decide +kernel
theorem dX8_readsOut_29 : decode cX8_readsOut 29 = .ok (.aload_n 0, 1) := by decide +kernel
theorem dX8_readsOut_30 : decode cX8_readsOut 30 = .ok (.getfield 138, 3) := by decide +kernel
theorem dX8_readsOut_33 : decode cX8_readsOut 33 = .ok (.ifCond .ne 20, 3) := by decide +kernel
theorem dX8_readsOut_36 : decode cX8_readsOut 36 = .ok (.aload_n 0, 1) := by decide +kernel
theorem dX8_readsOut_37 : decode cX8_readsOut 37 = .ok (.getfield 16, 3) := by decide +kernel
theorem dX8_readsOut_40 : decode cX8_readsOut 40 = .ok (.iload_n 1, 1) := by decide +kernel
theorem dX8_readsOut_41 : decode cX8_readsOut 41 = .ok (.invokestatic 50, 3) := by decide +kernel
theorem dX8_readsOut_44 : decode cX8_readsOut 44 = .ok (.bipush 7, 2) := by decide +kernel
theorem dX8_readsOut_46 : decode cX8_readsOut 46 = .ok (.iadd, 1) := by decide +kernel
theorem dX8_readsOut_47 : decode cX8_readsOut 47 = .ok (.iconst (-1), 1) := by decide +kernel
theorem dX8_readsOut_48 : decode cX8_readsOut 48 = .ok (.iastore, 1) := by decide +kernel
theorem dX8_readsOut_49 : decode cX8_readsOut 49 = .ok (.aload_n 0, 1) := by decide +kernel
theorem dX8_readsOut_50 : decode cX8_readsOut 50 = .ok (.invokevirtual 144, 3) := by decide +kernel
theorem dX8_readsOut_53 : decode cX8_readsOut 53 = .ok (.return_, 1) := by decide +kernel
set_option maxRecDepth 20000 in
theorem ggX8_readsTighten_X8_next : GoodIn wsX8_readsTighten wsX8_next := goodIn_r _ [7, 8, 9, 10, 11, 12, 13, 14, 6, 15, 16, 17, 18, 19, 20, 21, 22, 23, 24, 25, 26, 27, 55, 56, 57, 58, 59, 60, 61, 62, 63, 64, 65, 66, 67, 68, 69, 70, 71, 72, 73, 74, 75, 76] (by decide +kernel) (by decide +kernel)
set_option maxRecDepth 20000 in
theorem gX8_readsTighten_X8_next : GoodIn wsX8_readsTighten (wsV RX8 144 RX8 yX8_next wsX8_next) := goodIn_app (goodIn_of _ (by decide +kernel)) ggX8_readsTighten_X8_next
set_option maxRecDepth 20000 in
theorem ggX8_readsTighten_X8_instrumentHere : GoodIn wsX8_readsTighten wsX8_instrumentHere := goodIn_r _ [31, 2, 32, 33, 34, 6, 35, 1, 8, 27, 36, 37, 38, 39, 10, 40, 41, 42, 43, 55, 56, 57, 58, 59, 60, 61, 62, 63, 64, 65, 66, 67, 68, 69, 70, 71, 72, 73, 74, 75, 76] (by decide +kernel) (by decide +kernel)
set_option maxRecDepth 20000 in
theorem gX8_readsTighten_X8_instrumentHere : GoodIn wsX8_readsTighten (wsV RX8 164 RX8 yX8_instrumentHere wsX8_instrumentHere) := goodIn_app (goodIn_of _ (by decide +kernel)) ggX8_readsTighten_X8_instrumentHere
set_option maxRecDepth 20000 in
theorem ggX8_readsTighten_X8_isOfHair : GoodIn wsX8_readsTighten wsX8_isOfHair := goodIn_r _ [47, 2, 48, 49, 6, 50, 55, 56, 57, 58, 59, 60, 61, 62, 63, 64, 65, 66, 67, 68, 69, 70, 71, 72, 73, 74, 75, 76] (by decide +kernel) (by decide +kernel)
set_option maxRecDepth 20000 in
theorem gX8_readsTighten_X8_isOfHair : GoodIn wsX8_readsTighten (wsV RX8 70 RX8 yX8_isOfHair wsX8_isOfHair) := goodIn_app (goodIn_of _ (by decide +kernel)) ggX8_readsTighten_X8_isOfHair
set_option maxRecDepth 20000 in
theorem ggX8_readsTighten_X8_errs : GoodIn wsX8_readsTighten wsX8_errs := goodIn_r _ [39, 1, 10, 40, 55, 56, 57, 58, 59, 60, 61, 62, 63, 64, 65, 66, 67, 68, 69, 70, 71, 72, 73, 74, 75, 76] (by decide +kernel) (by decide +kernel)
set_option maxRecDepth 20000 in
theorem gX8_readsTighten_X8_errs : GoodIn wsX8_readsTighten (wsV RX8 147 RX8 yX8_errs wsX8_errs) := goodIn_app (goodIn_of _ (by decide +kernel)) ggX8_readsTighten_X8_errs
set_option maxRecDepth 20000 in
theorem ggX8_readsTighten_X8_i : GoodIn wsX8_readsTighten wsX8_i := goodIn_r _ [50] (by decide +kernel) (by decide +kernel)
set_option maxRecDepth 20000 in
theorem gX8_readsTighten_X8_i : GoodIn wsX8_readsTighten (va_wsS RX8 50 yX8_i wsX8_i) := goodIn_app (goodIn_of _ (by decide +kernel)) ggX8_readsTighten_X8_i
set_option maxRecDepth 20000 in
theorem ggX8_readsTighten_X8_tightens : GoodIn wsX8_readsTighten wsX8_tightens := goodIn_r _ [54, 2, 48, 49, 6, 50, 55, 56, 57, 58, 59, 60, 61, 62, 63, 64, 65, 66, 67, 68, 69, 70, 71, 72, 73, 74, 75, 76] (by decide +kernel) (by decide +kernel)
set_option maxRecDepth 20000 in
theorem gX8_readsTighten_X8_tightens : GoodIn wsX8_readsTighten (wsV RX8 167 RX8 yX8_tightens wsX8_tightens) := goodIn_app (goodIn_of _ (by decide +kernel)) ggX8_readsTighten_X8_tightens
theorem dX8_readsTighten_0 : decode cX8_readsTighten 0 = .ok (.aload_n 0, 1) := by decide +kernel
theorem dX8_readsTighten_1 : decode cX8_readsTighten 1 = .ok (.invokevirtual 144, 3) := by decide +kernel
theorem dX8_readsTighten_4 : decode cX8_readsTighten 4 = .ok (.aload_n 0, 1) := by decide +kernel
theorem dX8_readsTighten_5 : decode cX8_readsTighten 5 = .ok (.invokevirtual 164, 3) := by decide +kernel
theorem dX8_readsTighten_8 : decode cX8_readsTighten 8 = .ok (.istore_n 1, 1) := by decide +kernel
theorem dX8_readsTighten_9 : decode cX8_readsTighten 9 = .ok (.aload_n 0, 1) := by decide +kernel
theorem dX8_readsTighten_10 : decode cX8_readsTighten 10 = .ok (.getfield 138, 3) := by decide +kernel
theorem dX8_readsTighten_13 : decode cX8_readsTighten 13 = .ok (.ifCond .ne 16, 3) := by decide +kernel
theorem dX8_readsTighten_16 : decode cX8_readsTighten 16 = .ok (.aload_n 0, 1) := by decide +kernel
theorem dX8_readsTighten_17 : decode cX8_readsTighten 17 = .ok (.iload_n 1, 1) := by decide +kernel
theorem dX8_readsTighten_18 : decode cX8_readsTighten 18 = .ok (.invokevirtual 70, 3) := by decide +kernel
theorem dX8_readsTighten_21 : decode cX8_readsTighten 21 = .ok (.ifCond .ne 8, 3) := by decide +kernel
theorem dX8_readsTighten_24 : decode cX8_readsTighten 24 = .ok (.aload_n 0, 1) := by decide +kernel
theorem dX8_readsTighten_25 : decode cX8_readsTighten 25 = .ok (.iconst 3, 1) := by decide +kernel
theorem dX8_readsTighten_26 : decode cX8_readsTighten 26 = .ok (.invokevirtual 147, 3) := by decide +kernel
theorem dX8_readsTighten_29 : decode cX8_readsTighten 29 = .ok (.aload_n 0, 1) := by decide +kernel
theorem dX8_readsTighten_30 : decode cX8_readsTighten 30 = .ok (.getfield 138, 3) := by decide +kernel
theorem dX8_readsTighten_33 : decode cX8_readsTighten 33 = .ok (.ifCond .ne 22, 3) := by decide +kernel
theorem dX8_readsTighten_36 : decode cX8_readsTighten 36 = .ok (.aload_n 0, 1) := by decide +kernel
theorem dX8_readsTighten_37 : decode cX8_readsTighten 37 = .ok (.getfield 16, 3) := by decide +kernel
theorem dX8_readsTighten_40 : decode cX8_readsTighten 40 = .ok (.iload_n 1, 1) := by decide +kernel
theorem dX8_readsTighten_41 : decode cX8_readsTighten 41 = .ok (.invokestatic 50, 3) := by decide +kernel
theorem dX8_readsTighten_44 : decode cX8_readsTighten 44 = .ok (.iconst 1, 1) := by decide +kernel
theorem dX8_readsTighten_45 : decode cX8_readsTighten 45 = .ok (.iadd, 1) := by decide +kernel
theorem dX8_readsTighten_46 : decode cX8_readsTighten 46 = .ok (.iaload, 1) := by decide +kernel
theorem dX8_readsTighten_47 : decode cX8_readsTighten 47 = .ok (.ifCond .ne 8, 3) := by decide +kernel
theorem dX8_readsTighten_50 : decode cX8_readsTighten 50 = .ok (.aload_n 0, 1) := by decide +kernel
theorem dX8_readsTighten_51 : decode cX8_readsTighten 51 = .ok (.iconst 5, 1) := by decide +kernel
theorem dX8_readsTighten_52 : decode cX8_readsTighten 52 = .ok (.invokevirtual 147, 3) := by decide +kernel
theorem dX8_readsTighten_55 : decode cX8_readsTighten 55 = .ok (.aload_n 0, 1) := by decide +kernel
theorem dX8_readsTighten_56 : decode cX8_readsTighten 56 = .ok (.getfield 138, 3) := by decide +kernel
theorem dX8_readsTighten_59 : decode cX8_readsTighten 59 = .ok (.ifCond .ne 13, 3) := by decide +kernel
theorem dX8_readsTighten_62 : decode cX8_readsTighten 62 = .ok (.aload_n 0, 1) := by decide +kernel
theorem dX8_readsTighten_63 : decode cX8_readsTighten 63 = .ok (.iload_n 1, 1) := by decide +kernel
theorem dX8_readsTighten_64 : decode cX8_readsTighten 64 = .ok (.invokevirtual 167, 3) := by decide +kernel
theorem dX8_readsTighten_67 : decode cX8_readsTighten 67 = .ok (.istore_n 2, 1) := by decide +kernel
theorem dX8_readsTighten_68 : decode cX8_readsTighten 68 = .ok (.aload_n 0, 1) := by decide +kernel
theorem dX8_readsTighten_69 : decode cX8_readsTighten 69 = .ok (.invokevirtual 144, 3) := by decide +kernel
theorem dX8_readsTighten_72 : decode cX8_readsTighten 72 = .ok (.return_, 1) := by decide +kernel
set_option maxRecDepth 20000 in
theorem ggX8_readsMoisten_X8_next : GoodIn wsX8_readsMoisten wsX8_next := goodIn_r _ [6, 7, 8, 9, 10, 11, 12, 13, 5, 14, 15, 16, 17, 18, 19, 20, 21, 22, 23, 24, 25, 26, 55, 56, 57, 58, 59, 60, 61, 62, 63, 64, 65, 66, 67, 68, 69, 70, 71, 72, 73, 74, 75, 76] (by decide +kernel) (by decide +kernel)
set_option maxRecDepth 20000 in
theorem gX8_readsMoisten_X8_next : GoodIn wsX8_readsMoisten (wsV RX8 144 RX8 yX8_next wsX8_next) := goodIn_app (goodIn_of _ (by decide +kernel)) ggX8_readsMoisten_X8_next
set_option maxRecDepth 20000 in
theorem ggX8_readsMoisten_X8_instrumentHere : GoodIn wsX8_readsMoisten wsX8_instrumentHere := goodIn_r _ [30, 31, 32, 33, 34, 5, 35, 1, 7, 26, 36, 37, 38, 39, 9, 40, 41, 42, 43, 55, 56, 57, 58, 59, 60, 61, 62, 63, 64, 65, 66, 67, 68, 69, 70, 71, 72, 73, 74, 75, 76] (by decide +kernel) (by decide +kernel)
set_option maxRecDepth 20000 in
theorem gX8_readsMoisten_X8_instrumentHere : GoodIn wsX8_readsMoisten (wsV RX8 164 RX8 yX8_instrumentHere wsX8_instrumentHere) := goodIn_app (goodIn_of _ (by decide +kernel)) ggX8_readsMoisten_X8_instrumentHere
set_option maxRecDepth 20000 in
theorem ggX8_readsMoisten_X8_isOfHair : GoodIn wsX8_readsMoisten wsX8_isOfHair := goodIn_r _ [47, 31, 48, 49, 5, 50, 55, 56, 57, 58, 59, 60, 61, 62, 63, 64, 65, 66, 67, 68, 69, 70, 71, 72, 73, 74, 75, 76] (by decide +kernel) (by decide +kernel)
set_option maxRecDepth 20000 in
theorem gX8_readsMoisten_X8_isOfHair : GoodIn wsX8_readsMoisten (wsV RX8 70 RX8 yX8_isOfHair wsX8_isOfHair) := goodIn_app (goodIn_of _ (by decide +kernel)) ggX8_readsMoisten_X8_isOfHair
set_option maxRecDepth 20000 in
theorem ggX8_readsMoisten_X8_errs : GoodIn wsX8_readsMoisten wsX8_errs := goodIn_r _ [39, 1, 9, 40, 55, 56, 57, 58, 59, 60, 61, 62, 63, 64, 65, 66, 67, 68, 69, 70, 71, 72, 73, 74, 75, 76] (by decide +kernel) (by decide +kernel)
set_option maxRecDepth 20000 in
theorem gX8_readsMoisten_X8_errs : GoodIn wsX8_readsMoisten (wsV RX8 147 RX8 yX8_errs wsX8_errs) := goodIn_app (goodIn_of _ (by decide +kernel)) ggX8_readsMoisten_X8_errs
set_option maxRecDepth 20000 in
theorem ggX8_readsMoisten_X8_moistens : GoodIn wsX8_readsMoisten wsX8_moistens := goodIn_r _ [54, 31, 48, 49, 5, 50, 55, 56, 57, 58, 59, 60, 61, 62, 63, 64, 65, 66, 67, 68, 69, 70, 71, 72, 73, 74, 75, 76] (by decide +kernel) (by decide +kernel)
set_option maxRecDepth 20000 in
theorem gX8_readsMoisten_X8_moistens : GoodIn wsX8_readsMoisten (wsV RX8 170 RX8 yX8_moistens wsX8_moistens) := goodIn_app (goodIn_of _ (by decide +kernel)) ggX8_readsMoisten_X8_moistens
theorem dX8_readsMoisten_0 : decode cX8_readsMoisten 0 = .ok (.aload_n 0, 1) := by decide +kernel
theorem dX8_readsMoisten_1 : decode cX8_readsMoisten 1 = .ok (.invokevirtual 144, 3) := by decide +kernel
theorem dX8_readsMoisten_4 : decode cX8_readsMoisten 4 = .ok (.aload_n 0, 1) := by decide +kernel
theorem dX8_readsMoisten_5 : decode cX8_readsMoisten 5 = .ok (.invokevirtual 164, 3) := by decide +kernel
theorem dX8_readsMoisten_8 : decode cX8_readsMoisten 8 = .ok (.istore_n 1, 1) := by decide +kernel
theorem dX8_readsMoisten_9 : decode cX8_readsMoisten 9 = .ok (.aload_n 0, 1) := by decide +kernel
theorem dX8_readsMoisten_10 : decode cX8_readsMoisten 10 = .ok (.getfield 138, 3) := by decide +kernel
theorem dX8_readsMoisten_13 : decode cX8_readsMoisten 13 = .ok (.ifCond .ne 16, 3) := by decide +kernel
theorem dX8_readsMoisten_16 : decode cX8_readsMoisten 16 = .ok (.aload_n 0, 1) := by decide +kernel
theorem dX8_readsMoisten_17 : decode cX8_readsMoisten 17 = .ok (.iload_n 1, 1) := by decide +kernel
theorem dX8_readsMoisten_18 : decode cX8_readsMoisten 18 = .ok (.invokevirtual 70, 3) := by decide +kernel
theorem dX8_readsMoisten_21 : decode cX8_readsMoisten 21 = .ok (.ifCond .eq 8, 3) := by decide +kernel
theorem dX8_readsMoisten_24 : decode cX8_readsMoisten 24 = .ok (.aload_n 0, 1) := by decide +kernel
theorem dX8_readsMoisten_25 : decode cX8_readsMoisten 25 = .ok (.iconst 3, 1) := by decide +kernel
theorem dX8_readsMoisten_26 : decode cX8_readsMoisten 26 = .ok (.invokevirtual 147, 3) := by decide +kernel
theorem dX8_readsMoisten_29 : decode cX8_readsMoisten 29 = .ok (.aload_n 0, 1) := by decide +kernel
theorem dX8_readsMoisten_30 : decode cX8_readsMoisten 30 = .ok (.getfield 138, 3) := by decide +kernel
theorem dX8_readsMoisten_33 : decode cX8_readsMoisten 33 = .ok (.ifCond .ne 13, 3) := by decide +kernel
theorem dX8_readsMoisten_36 : decode cX8_readsMoisten 36 = .ok (.aload_n 0, 1) := by decide +kernel
theorem dX8_readsMoisten_37 : decode cX8_readsMoisten 37 = .ok (.iload_n 1, 1) := by decide +kernel
theorem dX8_readsMoisten_38 : decode cX8_readsMoisten 38 = .ok (.invokevirtual 170, 3) := by decide +kernel
theorem dX8_readsMoisten_41 : decode cX8_readsMoisten 41 = .ok (.istore_n 2, 1) := by decide +kernel
theorem dX8_readsMoisten_42 : decode cX8_readsMoisten 42 = .ok (.aload_n 0, 1) := by decide +kernel
theorem dX8_readsMoisten_43 : decode cX8_readsMoisten 43 = .ok (.invokevirtual 144, 3) := by decide +kernel
theorem dX8_readsMoisten_46 : decode cX8_readsMoisten 46 = .ok (.return_, 1) := by decide +kernel
set_option maxRecDepth 20000 in
theorem ggX8_readsHumidity_X8_next : GoodIn wsX8_readsHumidity wsX8_next := goodIn_r _ [7, 8, 9, 10, 11, 12, 13, 14, 6, 15, 16, 17, 18, 19, 20, 21, 22, 23, 24, 25, 26, 27, 48, 49, 50, 51, 52, 53, 54, 55, 56, 57, 58, 59, 60, 61, 62, 63, 64, 65, 66, 67, 68, 69] (by decide +kernel) (by decide +kernel)
set_option maxRecDepth 20000 in
theorem gX8_readsHumidity_X8_next : GoodIn wsX8_readsHumidity (wsV RX8 144 RX8 yX8_next wsX8_next) := goodIn_app (goodIn_of _ (by decide +kernel)) ggX8_readsHumidity_X8_next
set_option maxRecDepth 20000 in
theorem ggX8_readsHumidity_X8_takesNumber : GoodIn wsX8_readsHumidity wsX8_takesNumber := goodIn_r _ [31, 32, 33, 34, 6, 35, 1, 8, 27, 36, 37, 38, 39, 10, 40, 41, 42, 43, 44, 45, 46, 47, 3, 4, 5, 7, 9, 11, 12, 13, 14, 15, 16, 17, 18, 19, 20, 21, 22, 23, 24, 25, 26, 48, 49, 50, 51, 52, 53, 54, 55, 56, 57, 58, 59, 60, 61, 62, 63, 64, 65, 66, 67, 68, 69] (by decide +kernel) (by decide +kernel)
set_option maxRecDepth 20000 in
theorem gX8_readsHumidity_X8_takesNumber : GoodIn wsX8_readsHumidity (wsV RX8 161 RX8 yX8_takesNumber wsX8_takesNumber) := goodIn_app (goodIn_of _ (by decide +kernel)) ggX8_readsHumidity_X8_takesNumber
theorem dX8_readsHumidity_0 : decode cX8_readsHumidity 0 = .ok (.aload_n 0, 1) := by decide +kernel
theorem dX8_readsHumidity_1 : decode cX8_readsHumidity 1 = .ok (.invokevirtual 144, 3) := by decide +kernel
theorem dX8_readsHumidity_4 : decode cX8_readsHumidity 4 = .ok (.aload_n 0, 1) := by decide +kernel
theorem dX8_readsHumidity_5 : decode cX8_readsHumidity 5 = .ok (.iconst 0, 1) := by decide +kernel
theorem dX8_readsHumidity_6 : decode cX8_readsHumidity 6 = .ok (.bipush 100, 2) := by decide +kernel
theorem dX8_readsHumidity_8 : decode cX8_readsHumidity 8 = .ok (.invokevirtual 161, 3) := by decide +kernel
theorem dX8_readsHumidity_11 : decode cX8_readsHumidity 11 = .ok (.istore_n 1, 1) := by decide +kernel
theorem dX8_readsHumidity_12 : decode cX8_readsHumidity 12 = .ok (.aload_n 0, 1) := by decide +kernel
theorem dX8_readsHumidity_13 : decode cX8_readsHumidity 13 = .ok (.getfield 138, 3) := by decide +kernel
theorem dX8_readsHumidity_16 : decode cX8_readsHumidity 16 = .ok (.ifCond .ne 10, 3) := by decide +kernel
theorem dX8_readsHumidity_19 : decode cX8_readsHumidity 19 = .ok (.aload_n 0, 1) := by decide +kernel
theorem dX8_readsHumidity_20 : decode cX8_readsHumidity 20 = .ok (.getfield 16, 3) := by decide +kernel
theorem dX8_readsHumidity_23 : decode cX8_readsHumidity 23 = .ok (.iconst 1, 1) := by decide +kernel
theorem dX8_readsHumidity_24 : decode cX8_readsHumidity 24 = .ok (.iload_n 1, 1) := by decide +kernel
theorem dX8_readsHumidity_25 : decode cX8_readsHumidity 25 = .ok (.iastore, 1) := by decide +kernel
theorem dX8_readsHumidity_26 : decode cX8_readsHumidity 26 = .ok (.return_, 1) := by decide +kernel
set_option maxRecDepth 20000 in
theorem ggX8_readsMinutes_X8_next : GoodIn wsX8_readsMinutes wsX8_next := goodIn_r _ [7, 8, 9, 10, 11, 12, 13, 14, 6, 15, 16, 17, 18, 19, 20, 21, 22, 23, 24, 25, 26, 27, 88, 89, 90, 91, 92, 93, 94, 95, 96, 97, 98, 99, 100, 101, 102, 103, 104, 105, 106, 107, 108, 109] (by decide +kernel) (by decide +kernel)
set_option maxRecDepth 20000 in
theorem gX8_readsMinutes_X8_next : GoodIn wsX8_readsMinutes (wsV RX8 144 RX8 yX8_next wsX8_next) := goodIn_app (goodIn_of _ (by decide +kernel)) ggX8_readsMinutes_X8_next
set_option maxRecDepth 20000 in
theorem ggX8_readsMinutes_X8_takesNumber : GoodIn wsX8_readsMinutes wsX8_takesNumber := goodIn_r _ [31, 32, 33, 34, 6, 35, 2, 8, 27, 36, 37, 38, 39, 10, 40, 41, 42, 43, 44, 45, 46, 47, 3, 4, 5, 7, 9, 11, 12, 13, 14, 15, 16, 17, 18, 19, 20, 21, 22, 23, 24, 25, 26, 88, 89, 90, 91, 92, 93, 94, 95, 96, 97, 98, 99, 100, 101, 102, 103, 104, 105, 106, 107, 108, 109] (by decide +kernel) (by decide +kernel)
set_option maxRecDepth 20000 in
theorem gX8_readsMinutes_X8_takesNumber : GoodIn wsX8_readsMinutes (wsV RX8 161 RX8 yX8_takesNumber wsX8_takesNumber) := goodIn_app (goodIn_of _ (by decide +kernel)) ggX8_readsMinutes_X8_takesNumber
set_option maxRecDepth 20000 in
theorem ggX8_readsMinutes_X8_passes : GoodIn wsX8_readsMinutes wsX8_passes := goodIn_r _ [51, 52, 53, 54, 6, 55, 1, 56, 57, 58, 59, 60, 61, 62, 63, 64, 65, 66, 67, 68, 69, 70, 71, 72, 73, 74, 75, 76, 77, 78, 79, 80, 81, 82, 83, 84, 85, 86, 87, 88, 89, 90, 91, 92, 93, 94, 95, 96, 97, 98, 99, 100, 101, 102, 103, 104, 105, 106, 107, 108, 109] (by decide +kernel) (by decide +kernel)
set_option maxRecDepth 20000 in
theorem gX8_readsMinutes_X8_passes : GoodIn wsX8_readsMinutes (wsV RX8 46 RX8 yX8_passes wsX8_passes) := goodIn_app (goodIn_of _ (by decide +kernel)) ggX8_readsMinutes_X8_passes
theorem dX8_readsMinutes_0 : decode cX8_readsMinutes 0 = .ok (.aload_n 0, 1) := by decide +kernel
theorem dX8_readsMinutes_1 : decode cX8_readsMinutes 1 = .ok (.invokevirtual 144, 3) := by decide +kernel
theorem dX8_readsMinutes_4 : decode cX8_readsMinutes 4 = .ok (.sipush 9999, 3) := by decide +kernel
theorem dX8_readsMinutes_7 : decode cX8_readsMinutes 7 = .ok (.aload_n 0, 1) := by decide +kernel
theorem dX8_readsMinutes_8 : decode cX8_readsMinutes 8 = .ok (.getfield 16, 3) := by decide +kernel
theorem dX8_readsMinutes_11 : decode cX8_readsMinutes 11 = .ok (.iconst 0, 1) := by decide +kernel
theorem dX8_readsMinutes_12 : decode cX8_readsMinutes 12 = .ok (.iaload, 1) := by decide +kernel
theorem dX8_readsMinutes_13 : decode cX8_readsMinutes 13 = .ok (.isub, 1) := by decide +kernel
theorem dX8_readsMinutes_14 : decode cX8_readsMinutes 14 = .ok (.istore_n 1, 1) := by decide +kernel
theorem dX8_readsMinutes_15 : decode cX8_readsMinutes 15 = .ok (.iload_n 1, 1) := by decide +kernel
theorem dX8_readsMinutes_16 : decode cX8_readsMinutes 16 = .ok (.bipush 99, 2) := by decide +kernel
theorem dX8_readsMinutes_18 : decode cX8_readsMinutes 18 = .ok (.if_icmp .le 6, 3) := by decide +kernel
theorem dX8_readsMinutes_21 : decode cX8_readsMinutes 21 = .ok (.bipush 99, 2) := by decide +kernel
theorem dX8_readsMinutes_23 : decode cX8_readsMinutes 23 = .ok (.istore_n 1, 1) := by decide +kernel
theorem dX8_readsMinutes_24 : decode cX8_readsMinutes 24 = .ok (.aload_n 0, 1) := by decide +kernel
theorem dX8_readsMinutes_25 : decode cX8_readsMinutes 25 = .ok (.iconst 1, 1) := by decide +kernel
theorem dX8_readsMinutes_26 : decode cX8_readsMinutes 26 = .ok (.iload_n 1, 1) := by decide +kernel
theorem dX8_readsMinutes_27 : decode cX8_readsMinutes 27 = .ok (.invokevirtual 161, 3) := by decide +kernel
theorem dX8_readsMinutes_30 : decode cX8_readsMinutes 30 = .ok (.istore_n 2, 1) := by decide +kernel
theorem dX8_readsMinutes_31 : decode cX8_readsMinutes 31 = .ok (.aload_n 0, 1) := by decide +kernel
theorem dX8_readsMinutes_32 : decode cX8_readsMinutes 32 = .ok (.getfield 138, 3) := by decide +kernel
theorem dX8_readsMinutes_35 : decode cX8_readsMinutes 35 = .ok (.ifCond .ne 9, 3) := by decide +kernel
theorem dX8_readsMinutes_38 : decode cX8_readsMinutes 38 = .ok (.aload_n 0, 1) := by decide +kernel
theorem dX8_readsMinutes_39 : decode cX8_readsMinutes 39 = .ok (.iload_n 2, 1) := by decide +kernel
theorem dX8_readsMinutes_40 : decode cX8_readsMinutes 40 = .ok (.invokevirtual 46, 3) := by decide +kernel
theorem dX8_readsMinutes_43 : decode cX8_readsMinutes 43 = .ok (.istore_n 3, 1) := by decide +kernel
theorem dX8_readsMinutes_44 : decode cX8_readsMinutes 44 = .ok (.return_, 1) := by decide +kernel
set_option maxRecDepth 20000 in
theorem ggX8_readsLine_X8_isKey : GoodIn wsX8_readsLine wsX8_isKey := goodIn_r _ [5, 6, 7, 8, 9, 10, 153, 154, 155, 156, 157, 158, 159, 160, 161, 162, 163, 164, 165, 166, 167, 168, 169, 170, 171, 172, 173, 174] (by decide +kernel) (by decide +kernel)
set_option maxRecDepth 20000 in
theorem gX8_readsLine_X8_isKey : GoodIn wsX8_readsLine (wsV RX8 173 RX8 yX8_isKey wsX8_isKey) := goodIn_app (goodIn_of _ (by decide +kernel)) ggX8_readsLine_X8_isKey
set_option maxRecDepth 20000 in
theorem ggX8_readsLine_X8_readsHair : GoodIn wsX8_readsLine wsX8_readsHair := goodIn_r _ [14, 15, 16, 17, 18, 4, 19, 20, 21, 22, 23, 24, 8, 25, 26, 27, 28, 29, 6, 7, 30, 9, 31, 32, 33, 34, 35, 36, 37, 38, 39, 40, 41, 42, 43, 44, 45, 46, 47, 48, 49, 50, 51, 52, 53, 54, 55, 56, 57, 58, 59, 60, 61, 62, 63, 64, 65, 66, 67, 68, 69, 70, 71, 153, 154, 155, 156, 157, 158, 159, 160, 161, 162, 163, 164, 165, 166, 167, 168, 169, 170, 171, 172, 173, 174] (by decide +kernel) (by decide +kernel)
set_option maxRecDepth 20000 in
theorem gX8_readsLine_X8_readsHair : GoodIn wsX8_readsLine (wsV RX8 176 RX8 yX8_readsHair wsX8_readsHair) := goodIn_app (goodIn_of _ (by decide +kernel)) ggX8_readsLine_X8_readsHair
set_option maxRecDepth 20000 in
theorem ggX8_readsLine_X8_readsBulb : GoodIn wsX8_readsLine wsX8_readsBulb := goodIn_r _ [75, 15, 16, 17, 18, 4, 19, 20, 21, 22, 23, 24, 8, 25, 26, 27, 28, 29, 6, 7, 30, 9, 31, 32, 33, 34, 35, 36, 37, 38, 39, 40, 41, 42, 43, 44, 45, 46, 47, 48, 49, 50, 51, 52, 53, 54, 55, 56, 57, 58, 59, 60, 76, 77, 78, 79, 65, 66, 67, 68, 69, 70, 71, 153, 154, 155, 156, 157, 158, 159, 160, 161, 162, 163, 164, 165, 166, 167, 168, 169, 170, 171, 172, 173, 174] (by decide +kernel) (by decide +kernel)
set_option maxRecDepth 20000 in
theorem gX8_readsLine_X8_readsBulb : GoodIn wsX8_readsLine (wsV RX8 179 RX8 yX8_readsBulb wsX8_readsBulb) := goodIn_app (goodIn_of _ (by decide +kernel)) ggX8_readsLine_X8_readsBulb
set_option maxRecDepth 20000 in
theorem ggX8_readsLine_X8_readsBox : GoodIn wsX8_readsLine wsX8_readsBox := goodIn_r _ [83, 15, 20, 26, 27, 28, 4, 29, 6, 7, 8, 30, 9, 31, 32, 33, 34, 35, 36, 37, 38, 39, 40, 41, 42, 43, 44, 45, 84, 85, 86, 87, 50, 51, 52, 53, 21, 22, 23, 24, 25, 54, 55, 56, 88, 89, 90, 91, 69, 70, 71, 57, 58, 59, 60, 46, 47, 48, 49, 153, 154, 155, 156, 157, 158, 159, 160, 161, 162, 163, 164, 165, 166, 167, 168, 169, 170, 171, 172, 173, 174] (by decide +kernel) (by decide +kernel)
set_option maxRecDepth 20000 in
theorem gX8_readsLine_X8_readsBox : GoodIn wsX8_readsLine (wsV RX8 182 RX8 yX8_readsBox wsX8_readsBox) := goodIn_app (goodIn_of _ (by decide +kernel)) ggX8_readsLine_X8_readsBox
set_option maxRecDepth 20000 in
theorem ggX8_readsLine_X8_readsOut : GoodIn wsX8_readsLine wsX8_readsOut := goodIn_r _ [95, 15, 20, 26, 27, 28, 4, 29, 6, 7, 8, 30, 9, 31, 32, 33, 34, 35, 36, 37, 38, 39, 40, 41, 42, 43, 44, 45, 84, 85, 86, 87, 50, 51, 52, 53, 21, 22, 23, 24, 25, 54, 55, 56, 88, 89, 90, 91, 69, 70, 71, 153, 154, 155, 156, 157, 158, 159, 160, 161, 162, 163, 164, 165, 166, 167, 168, 169, 170, 171, 172, 173, 174] (by decide +kernel) (by decide +kernel)
set_option maxRecDepth 20000 in
theorem gX8_readsLine_X8_readsOut : GoodIn wsX8_readsLine (wsV RX8 185 RX8 yX8_readsOut wsX8_readsOut) := goodIn_app (goodIn_of _ (by decide +kernel)) ggX8_readsLine_X8_readsOut
set_option maxRecDepth 20000 in
theorem ggX8_readsLine_X8_readsTighten : GoodIn wsX8_readsLine wsX8_readsTighten := goodIn_r _ [99, 15, 20, 26, 27, 28, 4, 29, 6, 7, 8, 30, 9, 31, 32, 33, 34, 35, 36, 37, 38, 39, 40, 41, 42, 43, 44, 45, 84, 85, 86, 87, 50, 51, 52, 53, 21, 22, 23, 24, 25, 54, 55, 56, 100, 101, 102, 103, 69, 70, 71, 104, 105, 106, 107, 153, 154, 155, 156, 157, 158, 159, 160, 161, 162, 163, 164, 165, 166, 167, 168, 169, 170, 171, 172, 173, 174] (by decide +kernel) (by decide +kernel)
set_option maxRecDepth 20000 in
theorem gX8_readsLine_X8_readsTighten : GoodIn wsX8_readsLine (wsV RX8 188 RX8 yX8_readsTighten wsX8_readsTighten) := goodIn_app (goodIn_of _ (by decide +kernel)) ggX8_readsLine_X8_readsTighten
set_option maxRecDepth 20000 in
theorem ggX8_readsLine_X8_readsMoisten : GoodIn wsX8_readsLine wsX8_readsMoisten := goodIn_r _ [111, 15, 26, 27, 28, 4, 29, 6, 7, 8, 30, 9, 31, 32, 33, 34, 35, 36, 37, 38, 39, 40, 41, 42, 43, 44, 45, 84, 85, 86, 87, 20, 50, 51, 52, 53, 21, 22, 23, 24, 25, 54, 55, 56, 100, 101, 102, 103, 69, 70, 71, 112, 113, 114, 115, 153, 154, 155, 156, 157, 158, 159, 160, 161, 162, 163, 164, 165, 166, 167, 168, 169, 170, 171, 172, 173, 174] (by decide +kernel) (by decide +kernel)
set_option maxRecDepth 20000 in
theorem gX8_readsLine_X8_readsMoisten : GoodIn wsX8_readsLine (wsV RX8 191 RX8 yX8_readsMoisten wsX8_readsMoisten) := goodIn_app (goodIn_of _ (by decide +kernel)) ggX8_readsLine_X8_readsMoisten
set_option maxRecDepth 20000 in
theorem ggX8_readsLine_X8_readsHumidity : GoodIn wsX8_readsLine wsX8_readsHumidity := goodIn_r _ [119, 15, 20, 26, 27, 28, 4, 29, 6, 7, 8, 30, 9, 31, 32, 33, 34, 35, 36, 37, 38, 39, 40, 41, 42, 43, 44, 45, 46, 47, 48, 49, 50, 51, 52, 53, 21, 22, 23, 24, 25, 54, 55, 56, 57, 58, 59, 60, 153, 154, 155, 156, 157, 158, 159, 160, 161, 162, 163, 164, 165, 166, 167, 168, 169, 170, 171, 172, 173, 174] (by decide +kernel) (by decide +kernel)
set_option maxRecDepth 20000 in
theorem gX8_readsLine_X8_readsHumidity : GoodIn wsX8_readsLine (wsV RX8 194 RX8 yX8_readsHumidity wsX8_readsHumidity) := goodIn_app (goodIn_of _ (by decide +kernel)) ggX8_readsLine_X8_readsHumidity
set_option maxRecDepth 20000 in
theorem ggX8_readsLine_X8_readsMinutes : GoodIn wsX8_readsLine wsX8_readsMinutes := goodIn_r _ [123, 20, 15, 26, 27, 28, 4, 29, 6, 7, 8, 30, 9, 31, 32, 33, 34, 35, 36, 37, 38, 39, 40, 41, 42, 43, 44, 45, 46, 47, 48, 49, 50, 51, 52, 53, 21, 22, 23, 24, 25, 54, 55, 56, 57, 58, 59, 60, 124, 125, 126, 127, 128, 129, 130, 131, 132, 133, 134, 135, 69, 70, 71, 100, 101, 102, 103, 136, 137, 138, 139, 140, 141, 142, 143, 144, 88, 89, 90, 91, 145, 146, 147, 148, 149, 150, 151, 152, 153, 154, 155, 156, 157, 158, 159, 160, 161, 162, 163, 164, 165, 166, 167, 168, 169, 170, 171, 172, 173, 174] (by decide +kernel) (by decide +kernel)
set_option maxRecDepth 20000 in
theorem gX8_readsLine_X8_readsMinutes : GoodIn wsX8_readsLine (wsV RX8 197 RX8 yX8_readsMinutes wsX8_readsMinutes) := goodIn_app (goodIn_of _ (by decide +kernel)) ggX8_readsLine_X8_readsMinutes
set_option maxRecDepth 20000 in
theorem ggX8_readsLine_X8_errs : GoodIn wsX8_readsLine wsX8_errs := goodIn_r _ [24, 15, 8, 25, 153, 154, 155, 156, 157, 158, 159, 160, 161, 162, 163, 164, 165, 166, 167, 168, 169, 170, 171, 172, 173, 174] (by decide +kernel) (by decide +kernel)
set_option maxRecDepth 20000 in
theorem gX8_readsLine_X8_errs : GoodIn wsX8_readsLine (wsV RX8 147 RX8 yX8_errs wsX8_errs) := goodIn_app (goodIn_of _ (by decide +kernel)) ggX8_readsLine_X8_errs
theorem dX8_readsLine_0 : decode cX8_readsLine 0 = .ok (.aload_n 0, 1) := by decide +kernel
theorem dX8_readsLine_1 : decode cX8_readsLine 1 = .ok (.iconst 1, 1) := by decide +kernel
theorem dX8_readsLine_2 : decode cX8_readsLine 2 = .ok (.invokevirtual 173, 3) := by decide +kernel
theorem dX8_readsLine_5 : decode cX8_readsLine 5 = .ok (.ifCond .eq 10, 3) := by decide +kernel
theorem dX8_readsLine_8 : decode cX8_readsLine 8 = .ok (.aload_n 0, 1) := by decide +kernel
theorem dX8_readsLine_9 : decode cX8_readsLine 9 = .ok (.invokevirtual 176, 3) := by decide +kernel
theorem dX8_readsLine_12 : decode cX8_readsLine 12 = .ok (.goto 116, 3) := by decide +kernel
theorem dX8_readsLine_15 : decode cX8_readsLine 15 = .ok (.aload_n 0, 1) := by decide +kernel
theorem dX8_readsLine_16 : decode cX8_readsLine 16 = .ok (.iconst 2, 1) := by decide +kernel
theorem dX8_readsLine_17 : decode cX8_readsLine 17 = .ok (.invokevirtual 173, 3) := by decide +kernel
theorem dX8_readsLine_20 : decode cX8_readsLine 20 = .ok (.ifCond .eq 10, 3) := by decide +kernel
theorem dX8_readsLine_23 : decode cX8_readsLine 23 = .ok (.aload_n 0, 1) := by decide +kernel
theorem dX8_readsLine_24 : decode cX8_readsLine 24 = .ok (.invokevirtual 179, 3) := by decide +kernel
theorem dX8_readsLine_27 : decode cX8_readsLine 27 = .ok (.goto 101, 3) := by decide +kernel
theorem dX8_readsLine_30 : decode cX8_readsLine 30 = .ok (.aload_n 0, 1) := by decide +kernel
theorem dX8_readsLine_31 : decode cX8_readsLine 31 = .ok (.iconst 3, 1) := by decide +kernel
theorem dX8_readsLine_32 : decode cX8_readsLine 32 = .ok (.invokevirtual 173, 3) := by decide +kernel
theorem dX8_readsLine_35 : decode cX8_readsLine 35 = .ok (.ifCond .eq 10, 3) := by decide +kernel
theorem dX8_readsLine_38 : decode cX8_readsLine 38 = .ok (.aload_n 0, 1) := by decide +kernel
theorem dX8_readsLine_39 : decode cX8_readsLine 39 = .ok (.invokevirtual 182, 3) := by decide +kernel
theorem dX8_readsLine_42 : decode cX8_readsLine 42 = .ok (.goto 86, 3) := by decide +kernel
theorem dX8_readsLine_45 : decode cX8_readsLine 45 = .ok (.aload_n 0, 1) := by decide +kernel
theorem dX8_readsLine_46 : decode cX8_readsLine 46 = .ok (.iconst 4, 1) := by decide +kernel
theorem dX8_readsLine_47 : decode cX8_readsLine 47 = .ok (.invokevirtual 173, 3) := by decide +kernel
theorem dX8_readsLine_50 : decode cX8_readsLine 50 = .ok (.ifCond .eq 10, 3) := by decide +kernel
theorem dX8_readsLine_53 : decode cX8_readsLine 53 = .ok (.aload_n 0, 1) := by decide +kernel
theorem dX8_readsLine_54 : decode cX8_readsLine 54 = .ok (.invokevirtual 185, 3) := by decide +kernel
theorem dX8_readsLine_57 : decode cX8_readsLine 57 = .ok (.goto 71, 3) := by decide +kernel
theorem dX8_readsLine_60 : decode cX8_readsLine 60 = .ok (.aload_n 0, 1) := by decide +kernel
theorem dX8_readsLine_61 : decode cX8_readsLine 61 = .ok (.iconst 5, 1) := by decide +kernel
theorem dX8_readsLine_62 : decode cX8_readsLine 62 = .ok (.invokevirtual 173, 3) := by decide +kernel
theorem dX8_readsLine_65 : decode cX8_readsLine 65 = .ok (.ifCond .eq 10, 3) := by decide +kernel
theorem dX8_readsLine_68 : decode cX8_readsLine 68 = .ok (.aload_n 0, 1) := by decide +kernel
theorem dX8_readsLine_69 : decode cX8_readsLine 69 = .ok (.invokevirtual 188, 3) := by decide +kernel
theorem dX8_readsLine_72 : decode cX8_readsLine 72 = .ok (.goto 56, 3) := by decide +kernel
theorem dX8_readsLine_75 : decode cX8_readsLine 75 = .ok (.aload_n 0, 1) := by decide +kernel
theorem dX8_readsLine_76 : decode cX8_readsLine 76 = .ok (.bipush 6, 2) := by decide +kernel
theorem dX8_readsLine_78 : decode cX8_readsLine 78 = .ok (.invokevirtual 173, 3) := by decide +kernel
theorem dX8_readsLine_81 : decode cX8_readsLine 81 = .ok (.ifCond .eq 10, 3) := by decide +kernel
theorem dX8_readsLine_84 : decode cX8_readsLine 84 = .ok (.aload_n 0, 1) := by decide +kernel
theorem dX8_readsLine_85 : decode cX8_readsLine 85 = .ok (.invokevirtual 191, 3) := by decide +kernel
theorem dX8_readsLine_88 : decode cX8_readsLine 88 = .ok (.goto 40, 3) := by decide +kernel
theorem dX8_readsLine_91 : decode cX8_readsLine 91 = .ok (.aload_n 0, 1) := by decide +kernel
theorem dX8_readsLine_92 : decode cX8_readsLine 92 = .ok (.bipush 7, 2) := by decide +kernel
theorem dX8_readsLine_94 : decode cX8_readsLine 94 = .ok (.invokevirtual 173, 3) := by decide +kernel
theorem dX8_readsLine_97 : decode cX8_readsLine 97 = .ok (.ifCond .eq 10, 3) := by decide +kernel
theorem dX8_readsLine_100 : decode cX8_readsLine 100 = .ok (.aload_n 0, 1) := by decide +kernel
theorem dX8_readsLine_101 : decode cX8_readsLine 101 = .ok (.invokevirtual 194, 3) := by decide +kernel
theorem dX8_readsLine_104 : decode cX8_readsLine 104 = .ok (.goto 24, 3) := by decide +kernel
theorem dX8_readsLine_107 : decode cX8_readsLine 107 = .ok (.aload_n 0, 1) := by decide +kernel
theorem dX8_readsLine_108 : decode cX8_readsLine 108 = .ok (.bipush 8, 2) := by decide +kernel
theorem dX8_readsLine_110 : decode cX8_readsLine 110 = .ok (.invokevirtual 173, 3) := by decide +kernel
theorem dX8_readsLine_113 : decode cX8_readsLine 113 = .ok (.ifCond .eq 10, 3) := by decide +kernel
theorem dX8_readsLine_116 : decode cX8_readsLine 116 = .ok (.aload_n 0, 1) := by decide +kernel
theorem dX8_readsLine_117 : decode cX8_readsLine 117 = .ok (.invokevirtual 197, 3) := by decide +kernel
theorem dX8_readsLine_120 : decode cX8_readsLine 120 = .ok (.goto 8, 3) := by decide +kernel
theorem dX8_readsLine_123 : decode cX8_readsLine 123 = .ok (.aload_n 0, 1) := by decide +kernel
theorem dX8_readsLine_124 : decode cX8_readsLine 124 = .ok (.iconst 1, 1) := by decide +kernel
theorem dX8_readsLine_125 : decode cX8_readsLine 125 = .ok (.invokevirtual 147, 3) := by decide +kernel
theorem dX8_readsLine_128 : decode cX8_readsLine 128 = .ok (.return_, 1) := by decide +kernel
set_option maxRecDepth 20000 in
theorem ggX8_readsText_X8_next : GoodIn wsX8_readsText wsX8_next := goodIn_r _ [10, 4, 5, 11, 2, 12, 13, 14, 9, 15, 16, 17, 18, 19, 20, 21, 22, 23, 24, 25, 26, 27, 157, 158, 159, 160, 161, 162, 163, 164, 165, 166, 167, 168, 169, 170, 171, 172, 173, 174, 175, 176, 177, 178] (by decide +kernel) (by decide +kernel)
set_option maxRecDepth 20000 in
theorem gX8_readsText_X8_next : GoodIn wsX8_readsText (wsV RX8 144 RX8 yX8_next wsX8_next) := goodIn_app (goodIn_of _ (by decide +kernel)) ggX8_readsText_X8_next
set_option maxRecDepth 20000 in
theorem ggX8_readsText_X8_isKey : GoodIn wsX8_readsText wsX8_isKey := goodIn_r _ [31, 4, 5, 11, 12, 32, 157, 158, 159, 160, 161, 162, 163, 164, 165, 166, 167, 168, 169, 170, 171, 172, 173, 174, 175, 176, 177, 178] (by decide +kernel) (by decide +kernel)
set_option maxRecDepth 20000 in
theorem gX8_readsText_X8_isKey : GoodIn wsX8_readsText (wsV RX8 173 RX8 yX8_isKey wsX8_isKey) := goodIn_app (goodIn_of _ (by decide +kernel)) ggX8_readsText_X8_isKey
set_option maxRecDepth 20000 in
theorem ggX8_readsText_X8_errs : GoodIn wsX8_readsText wsX8_errs := goodIn_r _ [36, 3, 11, 37, 157, 158, 159, 160, 161, 162, 163, 164, 165, 166, 167, 168, 169, 170, 171, 172, 173, 174, 175, 176, 177, 178] (by decide +kernel) (by decide +kernel)
set_option maxRecDepth 20000 in
theorem gX8_readsText_X8_errs : GoodIn wsX8_readsText (wsV RX8 147 RX8 yX8_errs wsX8_errs) := goodIn_app (goodIn_of _ (by decide +kernel)) ggX8_readsText_X8_errs
set_option maxRecDepth 20000 in
theorem ggX8_readsText_X8_takesNumber : GoodIn wsX8_readsText wsX8_takesNumber := goodIn_r _ [41, 42, 43, 44, 9, 45, 3, 4, 27, 33, 34, 35, 36, 11, 37, 46, 47, 48, 49, 50, 51, 52, 6, 7, 8, 10, 5, 2, 12, 13, 14, 15, 16, 17, 18, 19, 20, 21, 22, 23, 24, 25, 26, 157, 158, 159, 160, 161, 162, 163, 164, 165, 166, 167, 168, 169, 170, 171, 172, 173, 174, 175, 176, 177, 178] (by decide +kernel) (by decide +kernel)
set_option maxRecDepth 20000 in
theorem gX8_readsText_X8_takesNumber : GoodIn wsX8_readsText (wsV RX8 161 RX8 yX8_takesNumber wsX8_takesNumber) := goodIn_app (goodIn_of _ (by decide +kernel)) ggX8_readsText_X8_takesNumber
set_option maxRecDepth 20000 in
theorem ggX8_readsText_X8_readsLine : GoodIn wsX8_readsText wsX8_readsLine := goodIn_r _ [56, 28, 29, 30, 9, 31, 4, 5, 11, 12, 32, 57, 58, 59, 60, 3, 61, 62, 63, 64, 1, 33, 34, 35, 36, 37, 6, 7, 8, 10, 2, 13, 14, 15, 16, 17, 18, 19, 20, 21, 22, 23, 24, 25, 26, 27, 38, 39, 40, 41, 42, 43, 44, 45, 46, 47, 48, 49, 50, 51, 52, 65, 66, 67, 68, 69, 70, 71, 72, 73, 74, 75, 76, 77, 78, 79, 80, 81, 82, 83, 84, 85, 86, 87, 88, 89, 90, 91, 92, 93, 94, 95, 96, 97, 98, 99, 100, 101, 102, 103, 104, 105, 106, 107, 108, 109, 110, 111, 112, 113, 114, 115, 116, 117, 118, 119, 120, 121, 122, 123, 124, 125, 126, 127, 128, 129, 130, 131, 132, 133, 134, 135, 136, 137, 138, 139, 140, 141, 142, 143, 144, 145, 146, 147, 148, 149, 150, 151, 152, 153, 154, 155, 156, 157, 158, 159, 160, 161, 162, 163, 164, 165, 166, 167, 168, 169, 170, 171, 172, 173, 174, 175, 176, 177, 178] (by decide +kernel) (by decide +kernel)
set_option maxRecDepth 20000 in
theorem gX8_readsText_X8_readsLine : GoodIn wsX8_readsText (wsV RX8 200 RX8 yX8_readsLine wsX8_readsLine) := goodIn_app (goodIn_of _ (by decide +kernel)) ggX8_readsText_X8_readsLine
theorem dX8_readsText_0 : decode cX8_readsText 0 = .ok (.iconst 0, 1) := by decide +kernel
theorem dX8_readsText_1 : decode cX8_readsText 1 = .ok (.istore_n 2, 1) := by decide +kernel
theorem dX8_readsText_2 : decode cX8_readsText 2 = .ok (.iload_n 2, 1) := by decide +kernel
theorem dX8_readsText_3 : decode cX8_readsText 3 = .ok (.bipush 56, 2) := by decide +kernel
theorem dX8_readsText_5 : decode cX8_readsText 5 = .ok (.if_icmp .ge 16, 3) := by decide +kernel
theorem dX8_readsText_8 : decode cX8_readsText 8 = .ok (.aload_n 0, 1) := by decide +kernel
theorem dX8_readsText_9 : decode cX8_readsText 9 = .ok (.getfield 16, 3) := by decide +kernel
theorem dX8_readsText_12 : decode cX8_readsText 12 = .ok (.iload_n 2, 1) := by decide +kernel
theorem dX8_readsText_13 : decode cX8_readsText 13 = .ok (.iconst 0, 1) := by decide +kernel
theorem dX8_readsText_14 : decode cX8_readsText 14 = .ok (.iastore, 1) := by decide +kernel
theorem dX8_readsText_15 : decode cX8_readsText 15 = .ok (.iinc 2 1, 3) := by decide +kernel
theorem dX8_readsText_18 : decode cX8_readsText 18 = .ok (.goto (-16), 3) := by decide +kernel
theorem dX8_readsText_21 : decode cX8_readsText 21 = .ok (.aload_n 0, 1) := by decide +kernel
theorem dX8_readsText_22 : decode cX8_readsText 22 = .ok (.iload_n 1, 1) := by decide +kernel
theorem dX8_readsText_23 : decode cX8_readsText 23 = .ok (.putfield 119, 3) := by decide +kernel
theorem dX8_readsText_26 : decode cX8_readsText 26 = .ok (.aload_n 0, 1) := by decide +kernel
theorem dX8_readsText_27 : decode cX8_readsText 27 = .ok (.iconst 0, 1) := by decide +kernel
theorem dX8_readsText_28 : decode cX8_readsText 28 = .ok (.putfield 138, 3) := by decide +kernel
theorem dX8_readsText_31 : decode cX8_readsText 31 = .ok (.aload_n 0, 1) := by decide +kernel
theorem dX8_readsText_32 : decode cX8_readsText 32 = .ok (.iconst 0, 1) := by decide +kernel
theorem dX8_readsText_33 : decode cX8_readsText 33 = .ok (.putfield 110, 3) := by decide +kernel
theorem dX8_readsText_36 : decode cX8_readsText 36 = .ok (.aload_n 0, 1) := by decide +kernel
theorem dX8_readsText_37 : decode cX8_readsText 37 = .ok (.iconst 0, 1) := by decide +kernel
theorem dX8_readsText_38 : decode cX8_readsText 38 = .ok (.putfield 113, 3) := by decide +kernel
theorem dX8_readsText_41 : decode cX8_readsText 41 = .ok (.aload_n 0, 1) := by decide +kernel
theorem dX8_readsText_42 : decode cX8_readsText 42 = .ok (.invokevirtual 144, 3) := by decide +kernel
theorem dX8_readsText_45 : decode cX8_readsText 45 = .ok (.aload_n 0, 1) := by decide +kernel
theorem dX8_readsText_46 : decode cX8_readsText 46 = .ok (.iconst 0, 1) := by decide +kernel
theorem dX8_readsText_47 : decode cX8_readsText 47 = .ok (.invokevirtual 173, 3) := by decide +kernel
theorem dX8_readsText_50 : decode cX8_readsText 50 = .ok (.ifCond .eq 10, 3) := by decide +kernel
theorem dX8_readsText_53 : decode cX8_readsText 53 = .ok (.aload_n 0, 1) := by decide +kernel
theorem dX8_readsText_54 : decode cX8_readsText 54 = .ok (.invokevirtual 144, 3) := by decide +kernel
theorem dX8_readsText_57 : decode cX8_readsText 57 = .ok (.goto 8, 3) := by decide +kernel
theorem dX8_readsText_60 : decode cX8_readsText 60 = .ok (.aload_n 0, 1) := by decide +kernel
theorem dX8_readsText_61 : decode cX8_readsText 61 = .ok (.iconst 1, 1) := by decide +kernel
theorem dX8_readsText_62 : decode cX8_readsText 62 = .ok (.invokevirtual 147, 3) := by decide +kernel
theorem dX8_readsText_65 : decode cX8_readsText 65 = .ok (.aload_n 0, 1) := by decide +kernel
theorem dX8_readsText_66 : decode cX8_readsText 66 = .ok (.getfield 16, 3) := by decide +kernel
theorem dX8_readsText_69 : decode cX8_readsText 69 = .ok (.iconst 1, 1) := by decide +kernel
theorem dX8_readsText_70 : decode cX8_readsText 70 = .ok (.aload_n 0, 1) := by decide +kernel
theorem dX8_readsText_71 : decode cX8_readsText 71 = .ok (.iconst 0, 1) := by decide +kernel
theorem dX8_readsText_72 : decode cX8_readsText 72 = .ok (.bipush 100, 2) := by decide +kernel
theorem dX8_readsText_74 : decode cX8_readsText 74 = .ok (.invokevirtual 161, 3) := by decide +kernel
theorem dX8_readsText_77 : decode cX8_readsText 77 = .ok (.iastore, 1) := by decide +kernel
theorem dX8_readsText_78 : decode cX8_readsText 78 = .ok (.aload_n 0, 1) := by decide +kernel
theorem dX8_readsText_79 : decode cX8_readsText 79 = .ok (.getfield 16, 3) := by decide +kernel
theorem dX8_readsText_82 : decode cX8_readsText 82 = .ok (.iconst 2, 1) := by decide +kernel
theorem dX8_readsText_83 : decode cX8_readsText 83 = .ok (.aload_n 0, 1) := by decide +kernel
theorem dX8_readsText_84 : decode cX8_readsText 84 = .ok (.iconst 0, 1) := by decide +kernel
theorem dX8_readsText_85 : decode cX8_readsText 85 = .ok (.bipush 40, 2) := by decide +kernel
theorem dX8_readsText_87 : decode cX8_readsText 87 = .ok (.invokevirtual 161, 3) := by decide +kernel
theorem dX8_readsText_90 : decode cX8_readsText 90 = .ok (.iastore, 1) := by decide +kernel
theorem dX8_readsText_91 : decode cX8_readsText 91 = .ok (.aload_n 0, 1) := by decide +kernel
theorem dX8_readsText_92 : decode cX8_readsText 92 = .ok (.getfield 16, 3) := by decide +kernel
theorem dX8_readsText_95 : decode cX8_readsText 95 = .ok (.iconst 3, 1) := by decide +kernel
theorem dX8_readsText_96 : decode cX8_readsText 96 = .ok (.aload_n 0, 1) := by decide +kernel
theorem dX8_readsText_97 : decode cX8_readsText 97 = .ok (.iconst 0, 1) := by decide +kernel
theorem dX8_readsText_98 : decode cX8_readsText 98 = .ok (.iconst 5, 1) := by decide +kernel
theorem dX8_readsText_99 : decode cX8_readsText 99 = .ok (.invokevirtual 161, 3) := by decide +kernel
theorem dX8_readsText_102 : decode cX8_readsText 102 = .ok (.iastore, 1) := by decide +kernel
theorem dX8_readsText_103 : decode cX8_readsText 103 = .ok (.aload_n 0, 1) := by decide +kernel
theorem dX8_readsText_104 : decode cX8_readsText 104 = .ok (.getfield 138, 3) := by decide +kernel
theorem dX8_readsText_107 : decode cX8_readsText 107 = .ok (.ifCond .ne 37, 3) := by decide +kernel
theorem dX8_readsText_110 : decode cX8_readsText 110 = .ok (.aload_n 0, 1) := by decide +kernel
theorem dX8_readsText_111 : decode cX8_readsText 111 = .ok (.getfield 110, 3) := by decide +kernel
theorem dX8_readsText_114 : decode cX8_readsText 114 = .ok (.ifCond .eq 30, 3) := by decide +kernel
theorem dX8_readsText_117 : decode cX8_readsText 117 = .ok (.aload_n 0, 1) := by decide +kernel
theorem dX8_readsText_118 : decode cX8_readsText 118 = .ok (.getfield 110, 3) := by decide +kernel
theorem dX8_readsText_121 : decode cX8_readsText 121 = .ok (.iconst 3, 1) := by decide +kernel
theorem dX8_readsText_122 : decode cX8_readsText 122 = .ok (.if_icmp .ne 14, 3) := by decide +kernel
theorem dX8_readsText_125 : decode cX8_readsText 125 = .ok (.aload_n 0, 1) := by decide +kernel
theorem dX8_readsText_126 : decode cX8_readsText 126 = .ok (.invokevirtual 144, 3) := by decide +kernel
theorem dX8_readsText_129 : decode cX8_readsText 129 = .ok (.aload_n 0, 1) := by decide +kernel
theorem dX8_readsText_130 : decode cX8_readsText 130 = .ok (.invokevirtual 200, 3) := by decide +kernel
theorem dX8_readsText_133 : decode cX8_readsText 133 = .ok (.goto (-30), 3) := by decide +kernel
theorem dX8_readsText_136 : decode cX8_readsText 136 = .ok (.aload_n 0, 1) := by decide +kernel
theorem dX8_readsText_137 : decode cX8_readsText 137 = .ok (.iconst 1, 1) := by decide +kernel
theorem dX8_readsText_138 : decode cX8_readsText 138 = .ok (.invokevirtual 147, 3) := by decide +kernel
theorem dX8_readsText_141 : decode cX8_readsText 141 = .ok (.goto (-38), 3) := by decide +kernel
theorem dX8_readsText_144 : decode cX8_readsText 144 = .ok (.return_, 1) := by decide +kernel
theorem dX8_feeds_0 : decode cX8_feeds 0 = .ok (.aload_n 0, 1) := by decide +kernel
theorem dX8_feeds_1 : decode cX8_feeds 1 = .ok (.getfield 28, 3) := by decide +kernel
theorem dX8_feeds_4 : decode cX8_feeds 4 = .ok (.aload_n 0, 1) := by decide +kernel
theorem dX8_feeds_5 : decode cX8_feeds 5 = .ok (.getfield 203, 3) := by decide +kernel
theorem dX8_feeds_8 : decode cX8_feeds 8 = .ok (.iload_n 1, 1) := by decide +kernel
theorem dX8_feeds_9 : decode cX8_feeds 9 = .ok (.bipush 24, 2) := by decide +kernel
theorem dX8_feeds_11 : decode cX8_feeds 11 = .ok (.ishr, 1) := by decide +kernel
theorem dX8_feeds_12 : decode cX8_feeds 12 = .ok (.i2b, 1) := by decide +kernel
theorem dX8_feeds_13 : decode cX8_feeds 13 = .ok (.bastore, 1) := by decide +kernel
theorem dX8_feeds_14 : decode cX8_feeds 14 = .ok (.aload_n 0, 1) := by decide +kernel
theorem dX8_feeds_15 : decode cX8_feeds 15 = .ok (.getfield 28, 3) := by decide +kernel
theorem dX8_feeds_18 : decode cX8_feeds 18 = .ok (.aload_n 0, 1) := by decide +kernel
theorem dX8_feeds_19 : decode cX8_feeds 19 = .ok (.getfield 203, 3) := by decide +kernel
theorem dX8_feeds_22 : decode cX8_feeds 22 = .ok (.iconst 1, 1) := by decide +kernel
theorem dX8_feeds_23 : decode cX8_feeds 23 = .ok (.iadd, 1) := by decide +kernel
theorem dX8_feeds_24 : decode cX8_feeds 24 = .ok (.iload_n 1, 1) := by decide +kernel
theorem dX8_feeds_25 : decode cX8_feeds 25 = .ok (.bipush 16, 2) := by decide +kernel
theorem dX8_feeds_27 : decode cX8_feeds 27 = .ok (.ishr, 1) := by decide +kernel
theorem dX8_feeds_28 : decode cX8_feeds 28 = .ok (.i2b, 1) := by decide +kernel
theorem dX8_feeds_29 : decode cX8_feeds 29 = .ok (.bastore, 1) := by decide +kernel
theorem dX8_feeds_30 : decode cX8_feeds 30 = .ok (.aload_n 0, 1) := by decide +kernel
theorem dX8_feeds_31 : decode cX8_feeds 31 = .ok (.getfield 28, 3) := by decide +kernel
theorem dX8_feeds_34 : decode cX8_feeds 34 = .ok (.aload_n 0, 1) := by decide +kernel
theorem dX8_feeds_35 : decode cX8_feeds 35 = .ok (.getfield 203, 3) := by decide +kernel
theorem dX8_feeds_38 : decode cX8_feeds 38 = .ok (.iconst 2, 1) := by decide +kernel
theorem dX8_feeds_39 : decode cX8_feeds 39 = .ok (.iadd, 1) := by decide +kernel
theorem dX8_feeds_40 : decode cX8_feeds 40 = .ok (.iload_n 1, 1) := by decide +kernel
theorem dX8_feeds_41 : decode cX8_feeds 41 = .ok (.bipush 8, 2) := by decide +kernel
theorem dX8_feeds_43 : decode cX8_feeds 43 = .ok (.ishr, 1) := by decide +kernel
theorem dX8_feeds_44 : decode cX8_feeds 44 = .ok (.i2b, 1) := by decide +kernel
theorem dX8_feeds_45 : decode cX8_feeds 45 = .ok (.bastore, 1) := by decide +kernel
theorem dX8_feeds_46 : decode cX8_feeds 46 = .ok (.aload_n 0, 1) := by decide +kernel
theorem dX8_feeds_47 : decode cX8_feeds 47 = .ok (.getfield 28, 3) := by decide +kernel
theorem dX8_feeds_50 : decode cX8_feeds 50 = .ok (.aload_n 0, 1) := by decide +kernel
theorem dX8_feeds_51 : decode cX8_feeds 51 = .ok (.getfield 203, 3) := by decide +kernel
theorem dX8_feeds_54 : decode cX8_feeds 54 = .ok (.iconst 3, 1) := by decide +kernel
theorem dX8_feeds_55 : decode cX8_feeds 55 = .ok (.iadd, 1) := by decide +kernel
theorem dX8_feeds_56 : decode cX8_feeds 56 = .ok (.iload_n 1, 1) := by decide +kernel
theorem dX8_feeds_57 : decode cX8_feeds 57 = .ok (.i2b, 1) := by decide +kernel
theorem dX8_feeds_58 : decode cX8_feeds 58 = .ok (.bastore, 1) := by decide +kernel
theorem dX8_feeds_59 : decode cX8_feeds 59 = .ok (.aload_n 0, 1) := by decide +kernel
theorem dX8_feeds_60 : decode cX8_feeds 60 = .ok (.dup, 1) := by decide +kernel
theorem dX8_feeds_61 : decode cX8_feeds 61 = .ok (.getfield 203, 3) := by decide +kernel
theorem dX8_feeds_64 : decode cX8_feeds 64 = .ok (.iconst 4, 1) := by decide +kernel
theorem dX8_feeds_65 : decode cX8_feeds 65 = .ok (.iadd, 1) := by decide +kernel
theorem dX8_feeds_66 : decode cX8_feeds 66 = .ok (.putfield 203, 3) := by decide +kernel
theorem dX8_feeds_69 : decode cX8_feeds 69 = .ok (.return_, 1) := by decide +kernel
set_option maxRecDepth 20000 in
theorem ggX8_append_X8_refuse : GoodIn wsX8_append wsX8_refuse := goodIn_r _ [6, 7, 17, 18, 19, 20, 21, 22, 23, 24, 25, 26, 27, 28, 29, 30, 31, 32, 33, 34, 35, 36, 37, 38] (by decide +kernel) (by decide +kernel)
set_option maxRecDepth 20000 in
theorem gX8_append_X8_refuse : GoodIn wsX8_append (wsV RX8 206 RX8 yX8_refuse wsX8_refuse) := goodIn_app (goodIn_of _ (by decide +kernel)) ggX8_append_X8_refuse
set_option maxRecDepth 20000 in
theorem ggX8_append_X8_feeds : GoodIn wsX8_append wsX8_feeds := goodIn_r _ [11, 12, 1, 17, 18, 19, 20, 21, 22, 23, 24, 25, 26, 27, 28, 29, 30, 31, 32, 33, 34, 35, 36, 37, 38] (by decide +kernel) (by decide +kernel)
set_option maxRecDepth 20000 in
theorem gX8_append_X8_feeds : GoodIn wsX8_append (wsV RX8 209 RX8 yX8_feeds wsX8_feeds) := goodIn_app (goodIn_of _ (by decide +kernel)) ggX8_append_X8_feeds
set_option maxRecDepth 20000 in
theorem ggX8_append_X8_told : GoodIn wsX8_append wsX8_told := goodIn_r _ [16, 7, 17, 18, 19, 20, 21, 22, 23, 24, 25, 26, 27, 28, 29, 30, 31, 32, 33, 34, 35, 36, 37, 38] (by decide +kernel) (by decide +kernel)
set_option maxRecDepth 20000 in
theorem gX8_append_X8_told : GoodIn wsX8_append (wsV RX8 212 RX8 yX8_told wsX8_told) := goodIn_app (goodIn_of _ (by decide +kernel)) ggX8_append_X8_told
theorem dX8_append_0 : decode cX8_append 0 = .ok (.aload_n 0, 1) := by decide +kernel
theorem dX8_append_1 : decode cX8_append 1 = .ok (.getfield 203, 3) := by decide +kernel
theorem dX8_append_4 : decode cX8_append 4 = .ok (.sipush 580, 3) := by decide +kernel
theorem dX8_append_7 : decode cX8_append 7 = .ok (.if_icmp .le 9, 3) := by decide +kernel
theorem dX8_append_10 : decode cX8_append 10 = .ok (.aload_n 0, 1) := by decide +kernel
theorem dX8_append_11 : decode cX8_append 11 = .ok (.iconst 1, 1) := by decide +kernel
theorem dX8_append_12 : decode cX8_append 12 = .ok (.invokevirtual 206, 3) := by decide +kernel
theorem dX8_append_15 : decode cX8_append 15 = .ok (.ireturn, 1) := by decide +kernel
theorem dX8_append_16 : decode cX8_append 16 = .ok (.aload_n 0, 1) := by decide +kernel
theorem dX8_append_17 : decode cX8_append 17 = .ok (.iload_n 1, 1) := by decide +kernel
theorem dX8_append_18 : decode cX8_append 18 = .ok (.invokevirtual 209, 3) := by decide +kernel
theorem dX8_append_21 : decode cX8_append 21 = .ok (.aload_n 0, 1) := by decide +kernel
theorem dX8_append_22 : decode cX8_append 22 = .ok (.iload_n 2, 1) := by decide +kernel
theorem dX8_append_23 : decode cX8_append 23 = .ok (.invokevirtual 209, 3) := by decide +kernel
theorem dX8_append_26 : decode cX8_append 26 = .ok (.aload_n 0, 1) := by decide +kernel
theorem dX8_append_27 : decode cX8_append 27 = .ok (.iload_n 3, 1) := by decide +kernel
theorem dX8_append_28 : decode cX8_append 28 = .ok (.invokevirtual 209, 3) := by decide +kernel
theorem dX8_append_31 : decode cX8_append 31 = .ok (.aload_n 0, 1) := by decide +kernel
theorem dX8_append_32 : decode cX8_append 32 = .ok (.iload 4, 2) := by decide +kernel
theorem dX8_append_34 : decode cX8_append 34 = .ok (.invokevirtual 209, 3) := by decide +kernel
theorem dX8_append_37 : decode cX8_append 37 = .ok (.aload_n 0, 1) := by decide +kernel
theorem dX8_append_38 : decode cX8_append 38 = .ok (.iload 5, 2) := by decide +kernel
theorem dX8_append_40 : decode cX8_append 40 = .ok (.invokevirtual 209, 3) := by decide +kernel
theorem dX8_append_43 : decode cX8_append 43 = .ok (.aload_n 0, 1) := by decide +kernel
theorem dX8_append_44 : decode cX8_append 44 = .ok (.aload_n 0, 1) := by decide +kernel
theorem dX8_append_45 : decode cX8_append 45 = .ok (.getfield 203, 3) := by decide +kernel
theorem dX8_append_48 : decode cX8_append 48 = .ok (.invokevirtual 212, 3) := by decide +kernel
theorem dX8_append_51 : decode cX8_append 51 = .ok (.ireturn, 1) := by decide +kernel
set_option maxRecDepth 20000 in
theorem ggX8_load_X8_in : GoodIn wsX8_load wsX8_in := goodIn_r _ [12] (by decide +kernel) (by decide +kernel)
set_option maxRecDepth 20000 in
theorem gX8_load_X8_in : GoodIn wsX8_load (va_wsS RX8 56 yX8_in wsX8_in) := goodIn_app (goodIn_of _ (by decide +kernel)) ggX8_load_X8_in
set_option maxRecDepth 20000 in
theorem ggX8_load_X8_refuse : GoodIn wsX8_load wsX8_refuse := goodIn_r _ [16, 17, 184, 185, 186, 187, 188, 189, 190, 191, 192, 193, 194, 195, 196, 197, 198, 199, 200, 201, 202, 203, 204, 205] (by decide +kernel) (by decide +kernel)
set_option maxRecDepth 20000 in
theorem gX8_load_X8_refuse : GoodIn wsX8_load (wsV RX8 206 RX8 yX8_refuse wsX8_refuse) := goodIn_app (goodIn_of _ (by decide +kernel)) ggX8_load_X8_refuse
set_option maxRecDepth 20000 in
theorem ggX8_load_X8_putsAside : GoodIn wsX8_load wsX8_putsAside := goodIn_r _ [21, 22, 8, 184, 185, 186, 187, 188, 189, 190, 191, 192, 193, 194, 195, 196, 197, 198, 199, 200, 201, 202, 203, 204, 205] (by decide +kernel) (by decide +kernel)
set_option maxRecDepth 20000 in
theorem gX8_load_X8_putsAside : GoodIn wsX8_load (wsV RX8 215 RX8 yX8_putsAside wsX8_putsAside) := goodIn_app (goodIn_of _ (by decide +kernel)) ggX8_load_X8_putsAside
set_option maxRecDepth 20000 in
theorem ggX8_load_X8_readsText : GoodIn wsX8_load wsX8_readsText := goodIn_r _ [26, 8, 27, 2, 28, 29, 30, 31, 32, 11, 33, 34, 35, 36, 37, 38, 39, 40, 41, 42, 43, 44, 45, 46, 47, 48, 49, 50, 51, 52, 53, 54, 55, 56, 57, 58, 59, 5, 60, 61, 62, 63, 64, 65, 66, 67, 9, 10, 12, 68, 69, 70, 71, 72, 73, 74, 75, 76, 77, 78, 79, 80, 81, 82, 83, 84, 85, 86, 87, 88, 89, 90, 91, 92, 93, 94, 95, 96, 97, 98, 99, 100, 101, 102, 103, 104, 105, 106, 107, 108, 109, 110, 111, 112, 113, 114, 115, 116, 117, 118, 119, 120, 121, 122, 123, 124, 125, 126, 127, 128, 129, 130, 131, 132, 133, 134, 135, 136, 137, 138, 139, 140, 141, 142, 143, 144, 145, 146, 147, 148, 149, 150, 151, 152, 153, 154, 155, 156, 157, 158, 159, 160, 161, 162, 163, 164, 165, 166, 167, 168, 169, 170, 171, 172, 173, 174, 175, 184, 185, 186, 187, 188, 189, 190, 191, 192, 193, 194, 195, 196, 197, 198, 199, 200, 201, 202, 203, 204, 205] (by decide +kernel) (by decide +kernel)
set_option maxRecDepth 20000 in
theorem gX8_load_X8_readsText : GoodIn wsX8_load (wsV RX8 218 RX8 yX8_readsText wsX8_readsText) := goodIn_app (goodIn_of _ (by decide +kernel)) ggX8_load_X8_readsText
set_option maxRecDepth 20000 in
theorem ggX8_load_X8_putsBack : GoodIn wsX8_load wsX8_putsBack := goodIn_r _ [179, 8, 22, 184, 185, 186, 187, 188, 189, 190, 191, 192, 193, 194, 195, 196, 197, 198, 199, 200, 201, 202, 203, 204, 205] (by decide +kernel) (by decide +kernel)
set_option maxRecDepth 20000 in
theorem gX8_load_X8_putsBack : GoodIn wsX8_load (wsV RX8 224 RX8 yX8_putsBack wsX8_putsBack) := goodIn_app (goodIn_of _ (by decide +kernel)) ggX8_load_X8_putsBack
set_option maxRecDepth 20000 in
theorem ggX8_load_X8_told : GoodIn wsX8_load wsX8_told := goodIn_r _ [183, 17, 184, 185, 186, 187, 188, 189, 190, 191, 192, 193, 194, 195, 196, 197, 198, 199, 200, 201, 202, 203, 204, 205] (by decide +kernel) (by decide +kernel)
set_option maxRecDepth 20000 in
theorem gX8_load_X8_told : GoodIn wsX8_load (wsV RX8 212 RX8 yX8_told wsX8_told) := goodIn_app (goodIn_of _ (by decide +kernel)) ggX8_load_X8_told
theorem dX8_load_0 : decode cX8_load 0 = .ok (.iload_n 1, 1) := by decide +kernel
theorem dX8_load_1 : decode cX8_load 1 = .ok (.iconst 0, 1) := by decide +kernel
theorem dX8_load_2 : decode cX8_load 2 = .ok (.aload_n 0, 1) := by decide +kernel
theorem dX8_load_3 : decode cX8_load 3 = .ok (.getfield 203, 3) := by decide +kernel
theorem dX8_load_6 : decode cX8_load 6 = .ok (.invokestatic 56, 3) := by decide +kernel
theorem dX8_load_9 : decode cX8_load 9 = .ok (.ifCond .ne 9, 3) := by decide +kernel
theorem dX8_load_12 : decode cX8_load 12 = .ok (.aload_n 0, 1) := by decide +kernel
theorem dX8_load_13 : decode cX8_load 13 = .ok (.iconst 1, 1) := by decide +kernel
theorem dX8_load_14 : decode cX8_load 14 = .ok (.invokevirtual 206, 3) := by decide +kernel
theorem dX8_load_17 : decode cX8_load 17 = .ok (.ireturn, 1) := by decide +kernel
theorem dX8_load_18 : decode cX8_load 18 = .ok (.aload_n 0, 1) := by decide +kernel
theorem dX8_load_19 : decode cX8_load 19 = .ok (.invokevirtual 215, 3) := by decide +kernel
theorem dX8_load_22 : decode cX8_load 22 = .ok (.aload_n 0, 1) := by decide +kernel
theorem dX8_load_23 : decode cX8_load 23 = .ok (.iload_n 1, 1) := by decide +kernel
theorem dX8_load_24 : decode cX8_load 24 = .ok (.invokevirtual 218, 3) := by decide +kernel
theorem dX8_load_27 : decode cX8_load 27 = .ok (.aload_n 0, 1) := by decide +kernel
theorem dX8_load_28 : decode cX8_load 28 = .ok (.iconst 0, 1) := by decide +kernel
theorem dX8_load_29 : decode cX8_load 29 = .ok (.putfield 203, 3) := by decide +kernel
theorem dX8_load_32 : decode cX8_load 32 = .ok (.aload_n 0, 1) := by decide +kernel
theorem dX8_load_33 : decode cX8_load 33 = .ok (.aload_n 0, 1) := by decide +kernel
theorem dX8_load_34 : decode cX8_load 34 = .ok (.getfield 138, 3) := by decide +kernel
theorem dX8_load_37 : decode cX8_load 37 = .ok (.putfield 221, 3) := by decide +kernel
theorem dX8_load_40 : decode cX8_load 40 = .ok (.aload_n 0, 1) := by decide +kernel
theorem dX8_load_41 : decode cX8_load 41 = .ok (.iconst (-1), 1) := by decide +kernel
theorem dX8_load_42 : decode cX8_load 42 = .ok (.putfield 35, 3) := by decide +kernel
theorem dX8_load_45 : decode cX8_load 45 = .ok (.aload_n 0, 1) := by decide +kernel
theorem dX8_load_46 : decode cX8_load 46 = .ok (.getfield 138, 3) := by decide +kernel
theorem dX8_load_49 : decode cX8_load 49 = .ok (.ifCond .eq 21, 3) := by decide +kernel
theorem dX8_load_52 : decode cX8_load 52 = .ok (.aload_n 0, 1) := by decide +kernel
theorem dX8_load_53 : decode cX8_load 53 = .ok (.aload_n 0, 1) := by decide +kernel
theorem dX8_load_54 : decode cX8_load 54 = .ok (.getfield 141, 3) := by decide +kernel
theorem dX8_load_57 : decode cX8_load 57 = .ok (.putfield 35, 3) := by decide +kernel
theorem dX8_load_60 : decode cX8_load 60 = .ok (.aload_n 0, 1) := by decide +kernel
theorem dX8_load_61 : decode cX8_load 61 = .ok (.invokevirtual 224, 3) := by decide +kernel
theorem dX8_load_64 : decode cX8_load 64 = .ok (.aload_n 0, 1) := by decide +kernel
theorem dX8_load_65 : decode cX8_load 65 = .ok (.iconst 2, 1) := by decide +kernel
theorem dX8_load_66 : decode cX8_load 66 = .ok (.invokevirtual 206, 3) := by decide +kernel
theorem dX8_load_69 : decode cX8_load 69 = .ok (.ireturn, 1) := by decide +kernel
theorem dX8_load_70 : decode cX8_load 70 = .ok (.aload_n 0, 1) := by decide +kernel
theorem dX8_load_71 : decode cX8_load 71 = .ok (.iconst 0, 1) := by decide +kernel
theorem dX8_load_72 : decode cX8_load 72 = .ok (.putfield 104, 3) := by decide +kernel
theorem dX8_load_75 : decode cX8_load 75 = .ok (.aload_n 0, 1) := by decide +kernel
theorem dX8_load_76 : decode cX8_load 76 = .ok (.iconst 0, 1) := by decide +kernel
theorem dX8_load_77 : decode cX8_load 77 = .ok (.putfield 227, 3) := by decide +kernel
theorem dX8_load_80 : decode cX8_load 80 = .ok (.aload_n 0, 1) := by decide +kernel
theorem dX8_load_81 : decode cX8_load 81 = .ok (.aload_n 0, 1) := by decide +kernel
theorem dX8_load_82 : decode cX8_load 82 = .ok (.getfield 16, 3) := by decide +kernel
theorem dX8_load_85 : decode cX8_load 85 = .ok (.iconst 5, 1) := by decide +kernel
theorem dX8_load_86 : decode cX8_load 86 = .ok (.iaload, 1) := by decide +kernel
theorem dX8_load_87 : decode cX8_load 87 = .ok (.invokevirtual 212, 3) := by decide +kernel
theorem dX8_load_90 : decode cX8_load 90 = .ok (.ireturn, 1) := by decide +kernel
set_option maxRecDepth 20000 in
theorem ggX8_errorKind_X8_told : GoodIn wsX8_errorKind wsX8_told := goodIn_r _ [6, 7, 8, 9, 10, 11, 12, 13, 14, 15, 16, 17, 18, 19, 20, 21, 22, 23, 24, 25, 26, 27, 28, 29] (by decide +kernel) (by decide +kernel)
set_option maxRecDepth 20000 in
theorem gX8_errorKind_X8_told : GoodIn wsX8_errorKind (wsV RX8 212 RX8 yX8_told wsX8_told) := goodIn_app (goodIn_of _ (by decide +kernel)) ggX8_errorKind_X8_told
theorem dX8_errorKind_0 : decode cX8_errorKind 0 = .ok (.aload_n 0, 1) := by decide +kernel
theorem dX8_errorKind_1 : decode cX8_errorKind 1 = .ok (.aload_n 0, 1) := by decide +kernel
theorem dX8_errorKind_2 : decode cX8_errorKind 2 = .ok (.getfield 221, 3) := by decide +kernel
theorem dX8_errorKind_5 : decode cX8_errorKind 5 = .ok (.invokevirtual 212, 3) := by decide +kernel
theorem dX8_errorKind_8 : decode cX8_errorKind 8 = .ok (.ireturn, 1) := by decide +kernel
set_option maxRecDepth 20000 in
theorem ggX8_errorOffset_X8_told : GoodIn wsX8_errorOffset wsX8_told := goodIn_r _ [6, 7, 8, 9, 10, 11, 12, 13, 14, 15, 16, 17, 18, 19, 20, 21, 22, 23, 24, 25, 26, 27, 28, 29] (by decide +kernel) (by decide +kernel)
set_option maxRecDepth 20000 in
theorem gX8_errorOffset_X8_told : GoodIn wsX8_errorOffset (wsV RX8 212 RX8 yX8_told wsX8_told) := goodIn_app (goodIn_of _ (by decide +kernel)) ggX8_errorOffset_X8_told
theorem dX8_errorOffset_0 : decode cX8_errorOffset 0 = .ok (.aload_n 0, 1) := by decide +kernel
theorem dX8_errorOffset_1 : decode cX8_errorOffset 1 = .ok (.aload_n 0, 1) := by decide +kernel
theorem dX8_errorOffset_2 : decode cX8_errorOffset 2 = .ok (.getfield 35, 3) := by decide +kernel
theorem dX8_errorOffset_5 : decode cX8_errorOffset 5 = .ok (.invokevirtual 212, 3) := by decide +kernel
theorem dX8_errorOffset_8 : decode cX8_errorOffset 8 = .ok (.ireturn, 1) := by decide +kernel
set_option maxRecDepth 20000 in
theorem ggX8_minute_X8_told : GoodIn wsX8_minute wsX8_told := goodIn_r _ [6, 7, 8, 9, 10, 11, 12, 13, 14, 15, 16, 17, 18, 19, 20, 21, 22, 23, 24, 25, 26, 27, 28, 29] (by decide +kernel) (by decide +kernel)
set_option maxRecDepth 20000 in
theorem gX8_minute_X8_told : GoodIn wsX8_minute (wsV RX8 212 RX8 yX8_told wsX8_told) := goodIn_app (goodIn_of _ (by decide +kernel)) ggX8_minute_X8_told
theorem dX8_minute_0 : decode cX8_minute 0 = .ok (.aload_n 0, 1) := by decide +kernel
theorem dX8_minute_1 : decode cX8_minute 1 = .ok (.aload_n 0, 1) := by decide +kernel
theorem dX8_minute_2 : decode cX8_minute 2 = .ok (.getfield 16, 3) := by decide +kernel
theorem dX8_minute_5 : decode cX8_minute 5 = .ok (.iconst 0, 1) := by decide +kernel
theorem dX8_minute_6 : decode cX8_minute 6 = .ok (.iaload, 1) := by decide +kernel
theorem dX8_minute_7 : decode cX8_minute 7 = .ok (.invokevirtual 212, 3) := by decide +kernel
theorem dX8_minute_10 : decode cX8_minute 10 = .ok (.ireturn, 1) := by decide +kernel
set_option maxRecDepth 20000 in
theorem ggX8_humidity_X8_told : GoodIn wsX8_humidity wsX8_told := goodIn_r _ [6, 7, 8, 9, 10, 11, 12, 13, 14, 15, 16, 17, 18, 19, 20, 21, 22, 23, 24, 25, 26, 27, 28, 29] (by decide +kernel) (by decide +kernel)
set_option maxRecDepth 20000 in
theorem gX8_humidity_X8_told : GoodIn wsX8_humidity (wsV RX8 212 RX8 yX8_told wsX8_told) := goodIn_app (goodIn_of _ (by decide +kernel)) ggX8_humidity_X8_told
theorem dX8_humidity_0 : decode cX8_humidity 0 = .ok (.aload_n 0, 1) := by decide +kernel
theorem dX8_humidity_1 : decode cX8_humidity 1 = .ok (.aload_n 0, 1) := by decide +kernel
theorem dX8_humidity_2 : decode cX8_humidity 2 = .ok (.getfield 16, 3) := by decide +kernel
theorem dX8_humidity_5 : decode cX8_humidity 5 = .ok (.iconst 1, 1) := by decide +kernel
theorem dX8_humidity_6 : decode cX8_humidity 6 = .ok (.iaload, 1) := by decide +kernel
theorem dX8_humidity_7 : decode cX8_humidity 7 = .ok (.invokevirtual 212, 3) := by decide +kernel
theorem dX8_humidity_10 : decode cX8_humidity 10 = .ok (.ireturn, 1) := by decide +kernel
set_option maxRecDepth 20000 in
theorem ggX8_temperature_X8_told : GoodIn wsX8_temperature wsX8_told := goodIn_r _ [6, 7, 8, 9, 10, 11, 12, 13, 14, 15, 16, 17, 18, 19, 20, 21, 22, 23, 24, 25, 26, 27, 28, 29] (by decide +kernel) (by decide +kernel)
set_option maxRecDepth 20000 in
theorem gX8_temperature_X8_told : GoodIn wsX8_temperature (wsV RX8 212 RX8 yX8_told wsX8_told) := goodIn_app (goodIn_of _ (by decide +kernel)) ggX8_temperature_X8_told
theorem dX8_temperature_0 : decode cX8_temperature 0 = .ok (.aload_n 0, 1) := by decide +kernel
theorem dX8_temperature_1 : decode cX8_temperature 1 = .ok (.aload_n 0, 1) := by decide +kernel
theorem dX8_temperature_2 : decode cX8_temperature 2 = .ok (.getfield 16, 3) := by decide +kernel
theorem dX8_temperature_5 : decode cX8_temperature 5 = .ok (.iconst 2, 1) := by decide +kernel
theorem dX8_temperature_6 : decode cX8_temperature 6 = .ok (.iaload, 1) := by decide +kernel
theorem dX8_temperature_7 : decode cX8_temperature 7 = .ok (.invokevirtual 212, 3) := by decide +kernel
theorem dX8_temperature_10 : decode cX8_temperature 10 = .ok (.ireturn, 1) := by decide +kernel
set_option maxRecDepth 20000 in
theorem ggX8_skill_X8_told : GoodIn wsX8_skill wsX8_told := goodIn_r _ [6, 7, 8, 9, 10, 11, 12, 13, 14, 15, 16, 17, 18, 19, 20, 21, 22, 23, 24, 25, 26, 27, 28, 29] (by decide +kernel) (by decide +kernel)
set_option maxRecDepth 20000 in
theorem gX8_skill_X8_told : GoodIn wsX8_skill (wsV RX8 212 RX8 yX8_told wsX8_told) := goodIn_app (goodIn_of _ (by decide +kernel)) ggX8_skill_X8_told
theorem dX8_skill_0 : decode cX8_skill 0 = .ok (.aload_n 0, 1) := by decide +kernel
theorem dX8_skill_1 : decode cX8_skill 1 = .ok (.aload_n 0, 1) := by decide +kernel
theorem dX8_skill_2 : decode cX8_skill 2 = .ok (.getfield 16, 3) := by decide +kernel
theorem dX8_skill_5 : decode cX8_skill 5 = .ok (.iconst 3, 1) := by decide +kernel
theorem dX8_skill_6 : decode cX8_skill 6 = .ok (.iaload, 1) := by decide +kernel
theorem dX8_skill_7 : decode cX8_skill 7 = .ok (.invokevirtual 212, 3) := by decide +kernel
theorem dX8_skill_10 : decode cX8_skill 10 = .ok (.ireturn, 1) := by decide +kernel
set_option maxRecDepth 20000 in
theorem ggX8_hairStock_X8_told : GoodIn wsX8_hairStock wsX8_told := goodIn_r _ [6, 7, 8, 9, 10, 11, 12, 13, 14, 15, 16, 17, 18, 19, 20, 21, 22, 23, 24, 25, 26, 27, 28, 29] (by decide +kernel) (by decide +kernel)
set_option maxRecDepth 20000 in
theorem gX8_hairStock_X8_told : GoodIn wsX8_hairStock (wsV RX8 212 RX8 yX8_told wsX8_told) := goodIn_app (goodIn_of _ (by decide +kernel)) ggX8_hairStock_X8_told
theorem dX8_hairStock_0 : decode cX8_hairStock 0 = .ok (.aload_n 0, 1) := by decide +kernel
theorem dX8_hairStock_1 : decode cX8_hairStock 1 = .ok (.aload_n 0, 1) := by decide +kernel
theorem dX8_hairStock_2 : decode cX8_hairStock 2 = .ok (.getfield 16, 3) := by decide +kernel
theorem dX8_hairStock_5 : decode cX8_hairStock 5 = .ok (.iconst 4, 1) := by decide +kernel
theorem dX8_hairStock_6 : decode cX8_hairStock 6 = .ok (.iaload, 1) := by decide +kernel
theorem dX8_hairStock_7 : decode cX8_hairStock 7 = .ok (.invokevirtual 212, 3) := by decide +kernel
theorem dX8_hairStock_10 : decode cX8_hairStock 10 = .ok (.ireturn, 1) := by decide +kernel
set_option maxRecDepth 20000 in
theorem ggX8_fixedPoint_X8_in : GoodIn wsX8_fixedPoint wsX8_in := goodIn_r _ [5] (by decide +kernel) (by decide +kernel)
set_option maxRecDepth 20000 in
theorem gX8_fixedPoint_X8_in : GoodIn wsX8_fixedPoint (va_wsS RX8 56 yX8_in wsX8_in) := goodIn_app (goodIn_of _ (by decide +kernel)) ggX8_fixedPoint_X8_in
set_option maxRecDepth 20000 in
theorem ggX8_fixedPoint_X8_refuse : GoodIn wsX8_fixedPoint wsX8_refuse := goodIn_r _ [9, 10, 15, 16, 17, 18, 19, 20, 21, 22, 23, 24, 25, 26, 27, 28, 29, 30, 31, 32, 33, 34, 35, 36] (by decide +kernel) (by decide +kernel)
set_option maxRecDepth 20000 in
theorem gX8_fixedPoint_X8_refuse : GoodIn wsX8_fixedPoint (wsV RX8 206 RX8 yX8_refuse wsX8_refuse) := goodIn_app (goodIn_of _ (by decide +kernel)) ggX8_fixedPoint_X8_refuse
set_option maxRecDepth 20000 in
theorem ggX8_fixedPoint_X8_told : GoodIn wsX8_fixedPoint wsX8_told := goodIn_r _ [14, 10, 15, 16, 17, 18, 19, 20, 21, 22, 23, 24, 25, 26, 27, 28, 29, 30, 31, 32, 33, 34, 35, 36] (by decide +kernel) (by decide +kernel)
set_option maxRecDepth 20000 in
theorem gX8_fixedPoint_X8_told : GoodIn wsX8_fixedPoint (wsV RX8 212 RX8 yX8_told wsX8_told) := goodIn_app (goodIn_of _ (by decide +kernel)) ggX8_fixedPoint_X8_told
theorem dX8_fixedPoint_0 : decode cX8_fixedPoint 0 = .ok (.iload_n 1, 1) := by decide +kernel
theorem dX8_fixedPoint_1 : decode cX8_fixedPoint 1 = .ok (.iconst 0, 1) := by decide +kernel
theorem dX8_fixedPoint_2 : decode cX8_fixedPoint 2 = .ok (.iconst 3, 1) := by decide +kernel
theorem dX8_fixedPoint_3 : decode cX8_fixedPoint 3 = .ok (.invokestatic 56, 3) := by decide +kernel
theorem dX8_fixedPoint_6 : decode cX8_fixedPoint 6 = .ok (.ifCond .ne 9, 3) := by decide +kernel
theorem dX8_fixedPoint_9 : decode cX8_fixedPoint 9 = .ok (.aload_n 0, 1) := by decide +kernel
theorem dX8_fixedPoint_10 : decode cX8_fixedPoint 10 = .ok (.iconst 1, 1) := by decide +kernel
theorem dX8_fixedPoint_11 : decode cX8_fixedPoint 11 = .ok (.invokevirtual 206, 3) := by decide +kernel
theorem dX8_fixedPoint_14 : decode cX8_fixedPoint 14 = .ok (.ireturn, 1) := by decide +kernel
theorem dX8_fixedPoint_15 : decode cX8_fixedPoint 15 = .ok (.aload_n 0, 1) := by decide +kernel
theorem dX8_fixedPoint_16 : decode cX8_fixedPoint 16 = .ok (.aload_n 0, 1) := by decide +kernel
theorem dX8_fixedPoint_17 : decode cX8_fixedPoint 17 = .ok (.getfield 7, 3) := by decide +kernel
theorem dX8_fixedPoint_20 : decode cX8_fixedPoint 20 = .ok (.iload_n 1, 1) := by decide +kernel
theorem dX8_fixedPoint_21 : decode cX8_fixedPoint 21 = .ok (.iaload, 1) := by decide +kernel
theorem dX8_fixedPoint_22 : decode cX8_fixedPoint 22 = .ok (.invokevirtual 212, 3) := by decide +kernel
theorem dX8_fixedPoint_25 : decode cX8_fixedPoint 25 = .ok (.ireturn, 1) := by decide +kernel
set_option maxRecDepth 20000 in
theorem ggX8_instrumentCount_X8_told : GoodIn wsX8_instrumentCount wsX8_told := goodIn_r _ [6, 7, 8, 9, 10, 11, 12, 13, 14, 15, 16, 17, 18, 19, 20, 21, 22, 23, 24, 25, 26, 27, 28, 29] (by decide +kernel) (by decide +kernel)
set_option maxRecDepth 20000 in
theorem gX8_instrumentCount_X8_told : GoodIn wsX8_instrumentCount (wsV RX8 212 RX8 yX8_told wsX8_told) := goodIn_app (goodIn_of _ (by decide +kernel)) ggX8_instrumentCount_X8_told
theorem dX8_instrumentCount_0 : decode cX8_instrumentCount 0 = .ok (.aload_n 0, 1) := by decide +kernel
theorem dX8_instrumentCount_1 : decode cX8_instrumentCount 1 = .ok (.aload_n 0, 1) := by decide +kernel
theorem dX8_instrumentCount_2 : decode cX8_instrumentCount 2 = .ok (.getfield 16, 3) := by decide +kernel
theorem dX8_instrumentCount_5 : decode cX8_instrumentCount 5 = .ok (.iconst 5, 1) := by decide +kernel
theorem dX8_instrumentCount_6 : decode cX8_instrumentCount 6 = .ok (.iaload, 1) := by decide +kernel
theorem dX8_instrumentCount_7 : decode cX8_instrumentCount 7 = .ok (.invokevirtual 212, 3) := by decide +kernel
theorem dX8_instrumentCount_10 : decode cX8_instrumentCount 10 = .ok (.ireturn, 1) := by decide +kernel
set_option maxRecDepth 20000 in
theorem ggX8_isHair_X8_is : GoodIn wsX8_isHair wsX8_is := goodIn_r _ [5, 6, 7, 8, 4, 9, 26, 27, 28, 29, 30, 31, 32, 33, 34, 35, 36, 37, 38, 39, 40, 41, 42, 43, 44, 45, 46, 47] (by decide +kernel) (by decide +kernel)
set_option maxRecDepth 20000 in
theorem gX8_isHair_X8_is : GoodIn wsX8_isHair (wsV RX8 230 RX8 yX8_is wsX8_is) := goodIn_app (goodIn_of _ (by decide +kernel)) ggX8_isHair_X8_is
set_option maxRecDepth 20000 in
theorem ggX8_isHair_X8_refuses : GoodIn wsX8_isHair wsX8_refuses := goodIn_r _ [13, 14, 26, 27, 28, 29, 30, 31, 32, 33, 34, 35, 36, 37, 38, 39, 40, 41, 42, 43, 44, 45, 46, 47] (by decide +kernel) (by decide +kernel)
set_option maxRecDepth 20000 in
theorem gX8_isHair_X8_refuses : GoodIn wsX8_isHair (wsV RX8 233 RX8 yX8_refuses wsX8_refuses) := goodIn_app (goodIn_of _ (by decide +kernel)) ggX8_isHair_X8_refuses
set_option maxRecDepth 20000 in
theorem ggX8_isHair_X8_isOfHair : GoodIn wsX8_isHair wsX8_isOfHair := goodIn_r _ [18, 6, 19, 20, 4, 21, 26, 27, 28, 29, 30, 31, 32, 33, 34, 35, 36, 37, 38, 39, 40, 41, 42, 43, 44, 45, 46, 47] (by decide +kernel) (by decide +kernel)
set_option maxRecDepth 20000 in
theorem gX8_isHair_X8_isOfHair : GoodIn wsX8_isHair (wsV RX8 70 RX8 yX8_isOfHair wsX8_isOfHair) := goodIn_app (goodIn_of _ (by decide +kernel)) ggX8_isHair_X8_isOfHair
set_option maxRecDepth 20000 in
theorem ggX8_isHair_X8_says : GoodIn wsX8_isHair wsX8_says := goodIn_r _ [25, 14, 26, 27, 28, 29, 30, 31, 32, 33, 34, 35, 36, 37, 38, 39, 40, 41, 42, 43, 44, 45, 46, 47] (by decide +kernel) (by decide +kernel)
set_option maxRecDepth 20000 in
theorem gX8_isHair_X8_says : GoodIn wsX8_isHair (wsV RX8 236 RX8 yX8_says wsX8_says) := goodIn_app (goodIn_of _ (by decide +kernel)) ggX8_isHair_X8_says
theorem dX8_isHair_0 : decode cX8_isHair 0 = .ok (.aload_n 0, 1) := by decide +kernel
theorem dX8_isHair_1 : decode cX8_isHair 1 = .ok (.iload_n 1, 1) := by decide +kernel
theorem dX8_isHair_2 : decode cX8_isHair 2 = .ok (.invokevirtual 230, 3) := by decide +kernel
theorem dX8_isHair_5 : decode cX8_isHair 5 = .ok (.ifCond .ne 8, 3) := by decide +kernel
theorem dX8_isHair_8 : decode cX8_isHair 8 = .ok (.aload_n 0, 1) := by decide +kernel
theorem dX8_isHair_9 : decode cX8_isHair 9 = .ok (.invokevirtual 233, 3) := by decide +kernel
theorem dX8_isHair_12 : decode cX8_isHair 12 = .ok (.ireturn, 1) := by decide +kernel
theorem dX8_isHair_13 : decode cX8_isHair 13 = .ok (.aload_n 0, 1) := by decide +kernel
theorem dX8_isHair_14 : decode cX8_isHair 14 = .ok (.aload_n 0, 1) := by decide +kernel
theorem dX8_isHair_15 : decode cX8_isHair 15 = .ok (.iload_n 1, 1) := by decide +kernel
theorem dX8_isHair_16 : decode cX8_isHair 16 = .ok (.invokevirtual 70, 3) := by decide +kernel
theorem dX8_isHair_19 : decode cX8_isHair 19 = .ok (.invokevirtual 236, 3) := by decide +kernel
theorem dX8_isHair_22 : decode cX8_isHair 22 = .ok (.ireturn, 1) := by decide +kernel
set_option maxRecDepth 20000 in
theorem ggX8_ofKind_X8_is : GoodIn wsX8_ofKind wsX8_is := goodIn_r _ [6, 1, 7, 8, 5, 9, 26, 27, 28, 29, 30, 31, 32, 33, 34, 35, 36, 37, 38, 39, 40, 41, 42, 43, 44, 45, 46, 47] (by decide +kernel) (by decide +kernel)
set_option maxRecDepth 20000 in
theorem gX8_ofKind_X8_is : GoodIn wsX8_ofKind (wsV RX8 230 RX8 yX8_is wsX8_is) := goodIn_app (goodIn_of _ (by decide +kernel)) ggX8_ofKind_X8_is
set_option maxRecDepth 20000 in
theorem ggX8_ofKind_X8_refuse : GoodIn wsX8_ofKind wsX8_refuse := goodIn_r _ [13, 14, 26, 27, 28, 29, 30, 31, 32, 33, 34, 35, 36, 37, 38, 39, 40, 41, 42, 43, 44, 45, 46, 47] (by decide +kernel) (by decide +kernel)
set_option maxRecDepth 20000 in
theorem gX8_ofKind_X8_refuse : GoodIn wsX8_ofKind (wsV RX8 206 RX8 yX8_refuse wsX8_refuse) := goodIn_app (goodIn_of _ (by decide +kernel)) ggX8_ofKind_X8_refuse
set_option maxRecDepth 20000 in
theorem ggX8_ofKind_X8_isOfHair : GoodIn wsX8_ofKind wsX8_isOfHair := goodIn_r _ [18, 1, 19, 20, 5, 21, 26, 27, 28, 29, 30, 31, 32, 33, 34, 35, 36, 37, 38, 39, 40, 41, 42, 43, 44, 45, 46, 47] (by decide +kernel) (by decide +kernel)
set_option maxRecDepth 20000 in
theorem gX8_ofKind_X8_isOfHair : GoodIn wsX8_ofKind (wsV RX8 70 RX8 yX8_isOfHair wsX8_isOfHair) := goodIn_app (goodIn_of _ (by decide +kernel)) ggX8_ofKind_X8_isOfHair
set_option maxRecDepth 20000 in
theorem ggX8_ofKind_X8_told : GoodIn wsX8_ofKind wsX8_told := goodIn_r _ [25, 14, 26, 27, 28, 29, 30, 31, 32, 33, 34, 35, 36, 37, 38, 39, 40, 41, 42, 43, 44, 45, 46, 47] (by decide +kernel) (by decide +kernel)
set_option maxRecDepth 20000 in
theorem gX8_ofKind_X8_told : GoodIn wsX8_ofKind (wsV RX8 212 RX8 yX8_told wsX8_told) := goodIn_app (goodIn_of _ (by decide +kernel)) ggX8_ofKind_X8_told
set_option maxRecDepth 20000 in
theorem ggX8_ofKind_X8_i : GoodIn wsX8_ofKind wsX8_i := goodIn_r _ [21] (by decide +kernel) (by decide +kernel)
set_option maxRecDepth 20000 in
theorem gX8_ofKind_X8_i : GoodIn wsX8_ofKind (va_wsS RX8 50 yX8_i wsX8_i) := goodIn_app (goodIn_of _ (by decide +kernel)) ggX8_ofKind_X8_i
theorem dX8_ofKind_0 : decode cX8_ofKind 0 = .ok (.aload_n 0, 1) := by decide +kernel
theorem dX8_ofKind_1 : decode cX8_ofKind 1 = .ok (.iload_n 1, 1) := by decide +kernel
theorem dX8_ofKind_2 : decode cX8_ofKind 2 = .ok (.invokevirtual 230, 3) := by decide +kernel
theorem dX8_ofKind_5 : decode cX8_ofKind 5 = .ok (.ifCond .ne 9, 3) := by decide +kernel
theorem dX8_ofKind_8 : decode cX8_ofKind 8 = .ok (.aload_n 0, 1) := by decide +kernel
theorem dX8_ofKind_9 : decode cX8_ofKind 9 = .ok (.iconst 1, 1) := by decide +kernel
theorem dX8_ofKind_10 : decode cX8_ofKind 10 = .ok (.invokevirtual 206, 3) := by decide +kernel
theorem dX8_ofKind_13 : decode cX8_ofKind 13 = .ok (.ireturn, 1) := by decide +kernel
theorem dX8_ofKind_14 : decode cX8_ofKind 14 = .ok (.aload_n 0, 1) := by decide +kernel
theorem dX8_ofKind_15 : decode cX8_ofKind 15 = .ok (.iload_n 1, 1) := by decide +kernel
theorem dX8_ofKind_16 : decode cX8_ofKind 16 = .ok (.invokevirtual 70, 3) := by decide +kernel
theorem dX8_ofKind_19 : decode cX8_ofKind 19 = .ok (.iload_n 2, 1) := by decide +kernel
theorem dX8_ofKind_20 : decode cX8_ofKind 20 = .ok (.if_icmp .eq 9, 3) := by decide +kernel
theorem dX8_ofKind_23 : decode cX8_ofKind 23 = .ok (.aload_n 0, 1) := by decide +kernel
theorem dX8_ofKind_24 : decode cX8_ofKind 24 = .ok (.iconst (-1), 1) := by decide +kernel
theorem dX8_ofKind_25 : decode cX8_ofKind 25 = .ok (.invokevirtual 212, 3) := by decide +kernel
theorem dX8_ofKind_28 : decode cX8_ofKind 28 = .ok (.ireturn, 1) := by decide +kernel
theorem dX8_ofKind_29 : decode cX8_ofKind 29 = .ok (.aload_n 0, 1) := by decide +kernel
theorem dX8_ofKind_30 : decode cX8_ofKind 30 = .ok (.aload_n 0, 1) := by decide +kernel
theorem dX8_ofKind_31 : decode cX8_ofKind 31 = .ok (.getfield 16, 3) := by decide +kernel
theorem dX8_ofKind_34 : decode cX8_ofKind 34 = .ok (.iload_n 1, 1) := by decide +kernel
theorem dX8_ofKind_35 : decode cX8_ofKind 35 = .ok (.invokestatic 50, 3) := by decide +kernel
theorem dX8_ofKind_38 : decode cX8_ofKind 38 = .ok (.iload_n 3, 1) := by decide +kernel
theorem dX8_ofKind_39 : decode cX8_ofKind 39 = .ok (.iadd, 1) := by decide +kernel
theorem dX8_ofKind_40 : decode cX8_ofKind 40 = .ok (.iaload, 1) := by decide +kernel
theorem dX8_ofKind_41 : decode cX8_ofKind 41 = .ok (.invokevirtual 212, 3) := by decide +kernel
theorem dX8_ofKind_44 : decode cX8_ofKind 44 = .ok (.ireturn, 1) := by decide +kernel
set_option maxRecDepth 20000 in
theorem ggX8_hairsOf_X8_ofKind : GoodIn wsX8_hairsOf wsX8_ofKind := goodIn_r _ [5, 6, 7, 8, 9, 4, 10, 11, 12, 13, 14, 15, 16, 17, 18, 19, 20, 21, 22, 23, 24, 25, 26, 27, 28, 29, 30, 31, 32, 33, 34, 35, 36, 37, 38, 39, 40, 41, 42, 43, 44, 45, 46, 47, 48, 49, 50, 51] (by decide +kernel) (by decide +kernel)
set_option maxRecDepth 20000 in
theorem gX8_hairsOf_X8_ofKind : GoodIn wsX8_hairsOf (wsV RX8 240 RX8 yX8_ofKind wsX8_ofKind) := goodIn_app (goodIn_of _ (by decide +kernel)) ggX8_hairsOf_X8_ofKind
theorem dX8_hairsOf_0 : decode cX8_hairsOf 0 = .ok (.aload_n 0, 1) := by decide +kernel
theorem dX8_hairsOf_1 : decode cX8_hairsOf 1 = .ok (.iload_n 1, 1) := by decide +kernel
theorem dX8_hairsOf_2 : decode cX8_hairsOf 2 = .ok (.iconst 1, 1) := by decide +kernel
theorem dX8_hairsOf_3 : decode cX8_hairsOf 3 = .ok (.iconst 1, 1) := by decide +kernel
theorem dX8_hairsOf_4 : decode cX8_hairsOf 4 = .ok (.invokevirtual 240, 3) := by decide +kernel
theorem dX8_hairsOf_7 : decode cX8_hairsOf 7 = .ok (.ireturn, 1) := by decide +kernel
set_option maxRecDepth 20000 in
theorem ggX8_brokenOf_X8_ofKind : GoodIn wsX8_brokenOf wsX8_ofKind := goodIn_r _ [5, 6, 7, 8, 9, 4, 10, 11, 12, 13, 14, 15, 16, 17, 18, 19, 20, 21, 22, 23, 24, 25, 26, 27, 28, 29, 30, 31, 32, 33, 34, 35, 36, 37, 38, 39, 40, 41, 42, 43, 44, 45, 46, 47, 48, 49, 50, 51] (by decide +kernel) (by decide +kernel)
set_option maxRecDepth 20000 in
theorem gX8_brokenOf_X8_ofKind : GoodIn wsX8_brokenOf (wsV RX8 240 RX8 yX8_ofKind wsX8_ofKind) := goodIn_app (goodIn_of _ (by decide +kernel)) ggX8_brokenOf_X8_ofKind
theorem dX8_brokenOf_0 : decode cX8_brokenOf 0 = .ok (.aload_n 0, 1) := by decide +kernel
theorem dX8_brokenOf_1 : decode cX8_brokenOf 1 = .ok (.iload_n 1, 1) := by decide +kernel
theorem dX8_brokenOf_2 : decode cX8_brokenOf 2 = .ok (.iconst 1, 1) := by decide +kernel
theorem dX8_brokenOf_3 : decode cX8_brokenOf 3 = .ok (.iconst 2, 1) := by decide +kernel
theorem dX8_brokenOf_4 : decode cX8_brokenOf 4 = .ok (.invokevirtual 240, 3) := by decide +kernel
theorem dX8_brokenOf_7 : decode cX8_brokenOf 7 = .ok (.ireturn, 1) := by decide +kernel
set_option maxRecDepth 20000 in
theorem ggX8_wetnessOf_X8_ofKind : GoodIn wsX8_wetnessOf wsX8_ofKind := goodIn_r _ [5, 6, 7, 8, 9, 4, 10, 11, 12, 13, 14, 15, 16, 17, 18, 19, 20, 21, 22, 23, 24, 25, 26, 27, 28, 29, 30, 31, 32, 33, 34, 35, 36, 37, 38, 39, 40, 41, 42, 43, 44, 45, 46, 47, 48, 49, 50, 51] (by decide +kernel) (by decide +kernel)
set_option maxRecDepth 20000 in
theorem gX8_wetnessOf_X8_ofKind : GoodIn wsX8_wetnessOf (wsV RX8 240 RX8 yX8_ofKind wsX8_ofKind) := goodIn_app (goodIn_of _ (by decide +kernel)) ggX8_wetnessOf_X8_ofKind
theorem dX8_wetnessOf_0 : decode cX8_wetnessOf 0 = .ok (.aload_n 0, 1) := by decide +kernel
theorem dX8_wetnessOf_1 : decode cX8_wetnessOf 1 = .ok (.iload_n 1, 1) := by decide +kernel
theorem dX8_wetnessOf_2 : decode cX8_wetnessOf 2 = .ok (.iconst 1, 1) := by decide +kernel
theorem dX8_wetnessOf_3 : decode cX8_wetnessOf 3 = .ok (.iconst 3, 1) := by decide +kernel
theorem dX8_wetnessOf_4 : decode cX8_wetnessOf 4 = .ok (.invokevirtual 240, 3) := by decide +kernel
theorem dX8_wetnessOf_7 : decode cX8_wetnessOf 7 = .ok (.ireturn, 1) := by decide +kernel
set_option maxRecDepth 20000 in
theorem ggX8_slackOf_X8_ofKind : GoodIn wsX8_slackOf wsX8_ofKind := goodIn_r _ [5, 6, 7, 8, 9, 4, 10, 11, 12, 13, 14, 15, 16, 17, 18, 19, 20, 21, 22, 23, 24, 25, 26, 27, 28, 29, 30, 31, 32, 33, 34, 35, 36, 37, 38, 39, 40, 41, 42, 43, 44, 45, 46, 47, 48, 49, 50, 51] (by decide +kernel) (by decide +kernel)
set_option maxRecDepth 20000 in
theorem gX8_slackOf_X8_ofKind : GoodIn wsX8_slackOf (wsV RX8 240 RX8 yX8_ofKind wsX8_ofKind) := goodIn_app (goodIn_of _ (by decide +kernel)) ggX8_slackOf_X8_ofKind
theorem dX8_slackOf_0 : decode cX8_slackOf 0 = .ok (.aload_n 0, 1) := by decide +kernel
theorem dX8_slackOf_1 : decode cX8_slackOf 1 = .ok (.iload_n 1, 1) := by decide +kernel
theorem dX8_slackOf_2 : decode cX8_slackOf 2 = .ok (.iconst 1, 1) := by decide +kernel
theorem dX8_slackOf_3 : decode cX8_slackOf 3 = .ok (.iconst 4, 1) := by decide +kernel
theorem dX8_slackOf_4 : decode cX8_slackOf 4 = .ok (.invokevirtual 240, 3) := by decide +kernel
theorem dX8_slackOf_7 : decode cX8_slackOf 7 = .ok (.ireturn, 1) := by decide +kernel
set_option maxRecDepth 20000 in
theorem ggX8_waterOf_X8_ofKind : GoodIn wsX8_waterOf wsX8_ofKind := goodIn_r _ [5, 6, 7, 8, 9, 4, 10, 11, 12, 13, 14, 15, 16, 17, 18, 19, 20, 21, 22, 23, 24, 25, 26, 27, 28, 29, 30, 31, 32, 33, 34, 35, 36, 37, 38, 39, 40, 41, 42, 43, 44, 45, 46, 47, 48, 49, 50, 51] (by decide +kernel) (by decide +kernel)
set_option maxRecDepth 20000 in
theorem gX8_waterOf_X8_ofKind : GoodIn wsX8_waterOf (wsV RX8 240 RX8 yX8_ofKind wsX8_ofKind) := goodIn_app (goodIn_of _ (by decide +kernel)) ggX8_waterOf_X8_ofKind
theorem dX8_waterOf_0 : decode cX8_waterOf 0 = .ok (.aload_n 0, 1) := by decide +kernel
theorem dX8_waterOf_1 : decode cX8_waterOf 1 = .ok (.iload_n 1, 1) := by decide +kernel
theorem dX8_waterOf_2 : decode cX8_waterOf 2 = .ok (.iconst 0, 1) := by decide +kernel
theorem dX8_waterOf_3 : decode cX8_waterOf 3 = .ok (.iconst 5, 1) := by decide +kernel
theorem dX8_waterOf_4 : decode cX8_waterOf 4 = .ok (.invokevirtual 240, 3) := by decide +kernel
theorem dX8_waterOf_7 : decode cX8_waterOf 7 = .ok (.ireturn, 1) := by decide +kernel
set_option maxRecDepth 20000 in
theorem ggX8_depressionOf_X8_is : GoodIn wsX8_depressionOf wsX8_is := goodIn_r _ [5, 6, 7, 8, 4, 9, 39, 40, 41, 42, 43, 44, 45, 46, 47, 48, 49, 50, 51, 52, 53, 54, 55, 56, 57, 58, 59, 60] (by decide +kernel) (by decide +kernel)
set_option maxRecDepth 20000 in
theorem gX8_depressionOf_X8_is : GoodIn wsX8_depressionOf (wsV RX8 230 RX8 yX8_is wsX8_is) := goodIn_app (goodIn_of _ (by decide +kernel)) ggX8_depressionOf_X8_is
set_option maxRecDepth 20000 in
theorem ggX8_depressionOf_X8_refuse : GoodIn wsX8_depressionOf wsX8_refuse := goodIn_r _ [13, 14, 39, 40, 41, 42, 43, 44, 45, 46, 47, 48, 49, 50, 51, 52, 53, 54, 55, 56, 57, 58, 59, 60] (by decide +kernel) (by decide +kernel)
set_option maxRecDepth 20000 in
theorem gX8_depressionOf_X8_refuse : GoodIn wsX8_depressionOf (wsV RX8 206 RX8 yX8_refuse wsX8_refuse) := goodIn_app (goodIn_of _ (by decide +kernel)) ggX8_depressionOf_X8_refuse
set_option maxRecDepth 20000 in
theorem ggX8_depressionOf_X8_isOfHair : GoodIn wsX8_depressionOf wsX8_isOfHair := goodIn_r _ [18, 6, 19, 20, 4, 21, 39, 40, 41, 42, 43, 44, 45, 46, 47, 48, 49, 50, 51, 52, 53, 54, 55, 56, 57, 58, 59, 60] (by decide +kernel) (by decide +kernel)
set_option maxRecDepth 20000 in
theorem gX8_depressionOf_X8_isOfHair : GoodIn wsX8_depressionOf (wsV RX8 70 RX8 yX8_isOfHair wsX8_isOfHair) := goodIn_app (goodIn_of _ (by decide +kernel)) ggX8_depressionOf_X8_isOfHair
set_option maxRecDepth 20000 in
theorem ggX8_depressionOf_X8_told : GoodIn wsX8_depressionOf wsX8_told := goodIn_r _ [25, 14, 39, 40, 41, 42, 43, 44, 45, 46, 47, 48, 49, 50, 51, 52, 53, 54, 55, 56, 57, 58, 59, 60] (by decide +kernel) (by decide +kernel)
set_option maxRecDepth 20000 in
theorem gX8_depressionOf_X8_told : GoodIn wsX8_depressionOf (wsV RX8 212 RX8 yX8_told wsX8_told) := goodIn_app (goodIn_of _ (by decide +kernel)) ggX8_depressionOf_X8_told
set_option maxRecDepth 20000 in
theorem ggX8_depressionOf_X8_depression : GoodIn wsX8_depressionOf wsX8_depression := goodIn_r _ [29, 6, 19, 20, 4, 21, 30, 31, 32, 33, 34, 35, 36, 37, 38, 39, 40, 41, 42, 43, 44, 45, 46, 47, 48, 49, 50, 51, 52, 53, 54, 55, 56, 57, 58, 59, 60] (by decide +kernel) (by decide +kernel)
set_option maxRecDepth 20000 in
theorem gX8_depressionOf_X8_depression : GoodIn wsX8_depressionOf (wsV RX8 73 RX8 yX8_depression wsX8_depression) := goodIn_app (goodIn_of _ (by decide +kernel)) ggX8_depressionOf_X8_depression
theorem dX8_depressionOf_0 : decode cX8_depressionOf 0 = .ok (.aload_n 0, 1) := by decide +kernel
theorem dX8_depressionOf_1 : decode cX8_depressionOf 1 = .ok (.iload_n 1, 1) := by decide +kernel
theorem dX8_depressionOf_2 : decode cX8_depressionOf 2 = .ok (.invokevirtual 230, 3) := by decide +kernel
theorem dX8_depressionOf_5 : decode cX8_depressionOf 5 = .ok (.ifCond .ne 9, 3) := by decide +kernel
theorem dX8_depressionOf_8 : decode cX8_depressionOf 8 = .ok (.aload_n 0, 1) := by decide +kernel
theorem dX8_depressionOf_9 : decode cX8_depressionOf 9 = .ok (.iconst 1, 1) := by decide +kernel
theorem dX8_depressionOf_10 : decode cX8_depressionOf 10 = .ok (.invokevirtual 206, 3) := by decide +kernel
theorem dX8_depressionOf_13 : decode cX8_depressionOf 13 = .ok (.ireturn, 1) := by decide +kernel
theorem dX8_depressionOf_14 : decode cX8_depressionOf 14 = .ok (.aload_n 0, 1) := by decide +kernel
theorem dX8_depressionOf_15 : decode cX8_depressionOf 15 = .ok (.iload_n 1, 1) := by decide +kernel
theorem dX8_depressionOf_16 : decode cX8_depressionOf 16 = .ok (.invokevirtual 70, 3) := by decide +kernel
theorem dX8_depressionOf_19 : decode cX8_depressionOf 19 = .ok (.ifCond .eq 9, 3) := by decide +kernel
theorem dX8_depressionOf_22 : decode cX8_depressionOf 22 = .ok (.aload_n 0, 1) := by decide +kernel
theorem dX8_depressionOf_23 : decode cX8_depressionOf 23 = .ok (.iconst (-1), 1) := by decide +kernel
theorem dX8_depressionOf_24 : decode cX8_depressionOf 24 = .ok (.invokevirtual 212, 3) := by decide +kernel
theorem dX8_depressionOf_27 : decode cX8_depressionOf 27 = .ok (.ireturn, 1) := by decide +kernel
theorem dX8_depressionOf_28 : decode cX8_depressionOf 28 = .ok (.aload_n 0, 1) := by decide +kernel
theorem dX8_depressionOf_29 : decode cX8_depressionOf 29 = .ok (.aload_n 0, 1) := by decide +kernel
theorem dX8_depressionOf_30 : decode cX8_depressionOf 30 = .ok (.iload_n 1, 1) := by decide +kernel
theorem dX8_depressionOf_31 : decode cX8_depressionOf 31 = .ok (.invokevirtual 73, 3) := by decide +kernel
theorem dX8_depressionOf_34 : decode cX8_depressionOf 34 = .ok (.invokevirtual 212, 3) := by decide +kernel
theorem dX8_depressionOf_37 : decode cX8_depressionOf 37 = .ok (.ireturn, 1) := by decide +kernel
set_option maxRecDepth 20000 in
theorem ggX8_zeroOf_X8_is : GoodIn wsX8_zeroOf wsX8_is := goodIn_r _ [6, 1, 7, 8, 5, 9, 22, 23, 24, 25, 26, 27, 28, 29, 30, 31, 32, 33, 34, 35, 36, 37, 38, 39, 40, 41, 42, 43] (by decide +kernel) (by decide +kernel)
set_option maxRecDepth 20000 in
theorem gX8_zeroOf_X8_is : GoodIn wsX8_zeroOf (wsV RX8 230 RX8 yX8_is wsX8_is) := goodIn_app (goodIn_of _ (by decide +kernel)) ggX8_zeroOf_X8_is
set_option maxRecDepth 20000 in
theorem ggX8_zeroOf_X8_refuse : GoodIn wsX8_zeroOf wsX8_refuse := goodIn_r _ [13, 14, 22, 23, 24, 25, 26, 27, 28, 29, 30, 31, 32, 33, 34, 35, 36, 37, 38, 39, 40, 41, 42, 43] (by decide +kernel) (by decide +kernel)
set_option maxRecDepth 20000 in
theorem gX8_zeroOf_X8_refuse : GoodIn wsX8_zeroOf (wsV RX8 206 RX8 yX8_refuse wsX8_refuse) := goodIn_app (goodIn_of _ (by decide +kernel)) ggX8_zeroOf_X8_refuse
set_option maxRecDepth 20000 in
theorem ggX8_zeroOf_X8_i : GoodIn wsX8_zeroOf wsX8_i := goodIn_r _ [17] (by decide +kernel) (by decide +kernel)
set_option maxRecDepth 20000 in
theorem gX8_zeroOf_X8_i : GoodIn wsX8_zeroOf (va_wsS RX8 50 yX8_i wsX8_i) := goodIn_app (goodIn_of _ (by decide +kernel)) ggX8_zeroOf_X8_i
set_option maxRecDepth 20000 in
theorem ggX8_zeroOf_X8_told : GoodIn wsX8_zeroOf wsX8_told := goodIn_r _ [21, 14, 22, 23, 24, 25, 26, 27, 28, 29, 30, 31, 32, 33, 34, 35, 36, 37, 38, 39, 40, 41, 42, 43] (by decide +kernel) (by decide +kernel)
set_option maxRecDepth 20000 in
theorem gX8_zeroOf_X8_told : GoodIn wsX8_zeroOf (wsV RX8 212 RX8 yX8_told wsX8_told) := goodIn_app (goodIn_of _ (by decide +kernel)) ggX8_zeroOf_X8_told
theorem dX8_zeroOf_0 : decode cX8_zeroOf 0 = .ok (.aload_n 0, 1) := by decide +kernel
theorem dX8_zeroOf_1 : decode cX8_zeroOf 1 = .ok (.iload_n 1, 1) := by decide +kernel
theorem dX8_zeroOf_2 : decode cX8_zeroOf 2 = .ok (.invokevirtual 230, 3) := by decide +kernel
theorem dX8_zeroOf_5 : decode cX8_zeroOf 5 = .ok (.ifCond .ne 9, 3) := by decide +kernel
theorem dX8_zeroOf_8 : decode cX8_zeroOf 8 = .ok (.aload_n 0, 1) := by decide +kernel
theorem dX8_zeroOf_9 : decode cX8_zeroOf 9 = .ok (.iconst 1, 1) := by decide +kernel
theorem dX8_zeroOf_10 : decode cX8_zeroOf 10 = .ok (.invokevirtual 206, 3) := by decide +kernel
theorem dX8_zeroOf_13 : decode cX8_zeroOf 13 = .ok (.ireturn, 1) := by decide +kernel
theorem dX8_zeroOf_14 : decode cX8_zeroOf 14 = .ok (.aload_n 0, 1) := by decide +kernel
theorem dX8_zeroOf_15 : decode cX8_zeroOf 15 = .ok (.aload_n 0, 1) := by decide +kernel
theorem dX8_zeroOf_16 : decode cX8_zeroOf 16 = .ok (.getfield 16, 3) := by decide +kernel
theorem dX8_zeroOf_19 : decode cX8_zeroOf 19 = .ok (.iload_n 1, 1) := by decide +kernel
theorem dX8_zeroOf_20 : decode cX8_zeroOf 20 = .ok (.invokestatic 50, 3) := by decide +kernel
theorem dX8_zeroOf_23 : decode cX8_zeroOf 23 = .ok (.bipush 6, 2) := by decide +kernel
