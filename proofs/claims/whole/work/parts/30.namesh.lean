theorem dX8_moisten_1 : decode cX8_moisten 1 = .ok (.iload_n 1, 1) := by decide +kernel
theorem dX8_moisten_2 : decode cX8_moisten 2 = .ok (.invokevirtual 230, 3) := by decide +kernel
theorem dX8_moisten_5 : decode cX8_moisten 5 = .ok (.ifCond .ne 9, 3) := by decide +kernel
theorem dX8_moisten_8 : decode cX8_moisten 8 = .ok (.aload_n 0, 1) := by decide +kernel
theorem dX8_moisten_9 : decode cX8_moisten 9 = .ok (.iconst 1, 1) := by decide +kernel
theorem dX8_moisten_10 : decode cX8_moisten 10 = .ok (.invokevirtual 206, 3) := by decide +kernel
theorem dX8_moisten_13 : decode cX8_moisten 13 = .ok (.ireturn, 1) := by decide +kernel
theorem dX8_moisten_14 : decode cX8_moisten 14 = .ok (.aload_n 0, 1) := by decide +kernel
theorem dX8_moisten_15 : decode cX8_moisten 15 = .ok (.iload_n 1, 1) := by decide +kernel
theorem dX8_moisten_16 : decode cX8_moisten 16 = .ok (.invokevirtual 70, 3) := by decide +kernel
theorem dX8_moisten_19 : decode cX8_moisten 19 = .ok (.ifCond .eq 9, 3) := by decide +kernel
theorem dX8_moisten_22 : decode cX8_moisten 22 = .ok (.aload_n 0, 1) := by decide +kernel
theorem dX8_moisten_23 : decode cX8_moisten 23 = .ok (.iconst 2, 1) := by decide +kernel
theorem dX8_moisten_24 : decode cX8_moisten 24 = .ok (.invokevirtual 206, 3) := by decide +kernel
theorem dX8_moisten_27 : decode cX8_moisten 27 = .ok (.ireturn, 1) := by decide +kernel
theorem dX8_moisten_28 : decode cX8_moisten 28 = .ok (.aload_n 0, 1) := by decide +kernel
theorem dX8_moisten_29 : decode cX8_moisten 29 = .ok (.invokevirtual 262, 3) := by decide +kernel
theorem dX8_moisten_32 : decode cX8_moisten 32 = .ok (.aload_n 0, 1) := by decide +kernel
theorem dX8_moisten_33 : decode cX8_moisten 33 = .ok (.aload_n 0, 1) := by decide +kernel
theorem dX8_moisten_34 : decode cX8_moisten 34 = .ok (.iload_n 1, 1) := by decide +kernel
theorem dX8_moisten_35 : decode cX8_moisten 35 = .ok (.invokevirtual 170, 3) := by decide +kernel
theorem dX8_moisten_38 : decode cX8_moisten 38 = .ok (.invokevirtual 212, 3) := by decide +kernel
theorem dX8_moisten_41 : decode cX8_moisten 41 = .ok (.ireturn, 1) := by decide +kernel
set_option maxRecDepth 20000 in
theorem ggX8_addHairs_X8_is : GoodIn wsX8_addHairs wsX8_is := goodIn_r _ [6, 1, 7, 8, 5, 9, 36, 37, 38, 39, 40, 41, 42, 43, 44, 45, 46, 47, 48, 49, 50, 51, 52, 53, 54, 55, 56, 57] (by decide +kernel) (by decide +kernel)
set_option maxRecDepth 20000 in
theorem gX8_addHairs_X8_is : GoodIn wsX8_addHairs (wsV RX8 230 RX8 yX8_is wsX8_is) := goodIn_app (goodIn_of _ (by decide +kernel)) ggX8_addHairs_X8_is
set_option maxRecDepth 20000 in
theorem ggX8_addHairs_X8_refuse : GoodIn wsX8_addHairs wsX8_refuse := goodIn_r _ [13, 14, 36, 37, 38, 39, 40, 41, 42, 43, 44, 45, 46, 47, 48, 49, 50, 51, 52, 53, 54, 55, 56, 57] (by decide +kernel) (by decide +kernel)
set_option maxRecDepth 20000 in
theorem gX8_addHairs_X8_refuse : GoodIn wsX8_addHairs (wsV RX8 206 RX8 yX8_refuse wsX8_refuse) := goodIn_app (goodIn_of _ (by decide +kernel)) ggX8_addHairs_X8_refuse
set_option maxRecDepth 20000 in
theorem ggX8_addHairs_X8_in : GoodIn wsX8_addHairs wsX8_in := goodIn_r _ [9] (by decide +kernel) (by decide +kernel)
set_option maxRecDepth 20000 in
theorem gX8_addHairs_X8_in : GoodIn wsX8_addHairs (va_wsS RX8 56 yX8_in wsX8_in) := goodIn_app (goodIn_of _ (by decide +kernel)) ggX8_addHairs_X8_in
set_option maxRecDepth 20000 in
theorem ggX8_addHairs_X8_isOfHair : GoodIn wsX8_addHairs wsX8_isOfHair := goodIn_r _ [18, 1, 19, 20, 5, 21, 36, 37, 38, 39, 40, 41, 42, 43, 44, 45, 46, 47, 48, 49, 50, 51, 52, 53, 54, 55, 56, 57] (by decide +kernel) (by decide +kernel)
set_option maxRecDepth 20000 in
theorem gX8_addHairs_X8_isOfHair : GoodIn wsX8_addHairs (wsV RX8 70 RX8 yX8_isOfHair wsX8_isOfHair) := goodIn_app (goodIn_of _ (by decide +kernel)) ggX8_addHairs_X8_isOfHair
set_option maxRecDepth 20000 in
theorem ggX8_addHairs_X8_i : GoodIn wsX8_addHairs wsX8_i := goodIn_r _ [21] (by decide +kernel) (by decide +kernel)
set_option maxRecDepth 20000 in
theorem gX8_addHairs_X8_i : GoodIn wsX8_addHairs (va_wsS RX8 50 yX8_i wsX8_i) := goodIn_app (goodIn_of _ (by decide +kernel)) ggX8_addHairs_X8_i
set_option maxRecDepth 20000 in
theorem ggX8_addHairs_X8_remembers : GoodIn wsX8_addHairs wsX8_remembers := goodIn_r _ [25, 26, 27, 1, 28, 29, 30, 5, 31, 36, 37, 38, 39, 40, 41, 42, 43, 44, 45, 46, 47, 48, 49, 50, 51, 52, 53, 54, 55, 56, 57] (by decide +kernel) (by decide +kernel)
set_option maxRecDepth 20000 in
theorem gX8_addHairs_X8_remembers : GoodIn wsX8_addHairs (wsV RX8 262 RX8 yX8_remembers wsX8_remembers) := goodIn_app (goodIn_of _ (by decide +kernel)) ggX8_addHairs_X8_remembers
set_option maxRecDepth 20000 in
theorem ggX8_addHairs_X8_told : GoodIn wsX8_addHairs wsX8_told := goodIn_r _ [35, 14, 36, 37, 38, 39, 40, 41, 42, 43, 44, 45, 46, 47, 48, 49, 50, 51, 52, 53, 54, 55, 56, 57] (by decide +kernel) (by decide +kernel)
set_option maxRecDepth 20000 in
theorem gX8_addHairs_X8_told : GoodIn wsX8_addHairs (wsV RX8 212 RX8 yX8_told wsX8_told) := goodIn_app (goodIn_of _ (by decide +kernel)) ggX8_addHairs_X8_told
theorem dX8_addHairs_0 : decode cX8_addHairs 0 = .ok (.aload_n 0, 1) := by decide +kernel
theorem dX8_addHairs_1 : decode cX8_addHairs 1 = .ok (.iload_n 1, 1) := by decide +kernel
theorem dX8_addHairs_2 : decode cX8_addHairs 2 = .ok (.invokevirtual 230, 3) := by decide +kernel
theorem dX8_addHairs_5 : decode cX8_addHairs 5 = .ok (.ifCond .ne 9, 3) := by decide +kernel
theorem dX8_addHairs_8 : decode cX8_addHairs 8 = .ok (.aload_n 0, 1) := by decide +kernel
theorem dX8_addHairs_9 : decode cX8_addHairs 9 = .ok (.iconst 1, 1) := by decide +kernel
theorem dX8_addHairs_10 : decode cX8_addHairs 10 = .ok (.invokevirtual 206, 3) := by decide +kernel
theorem dX8_addHairs_13 : decode cX8_addHairs 13 = .ok (.ireturn, 1) := by decide +kernel
theorem dX8_addHairs_14 : decode cX8_addHairs 14 = .ok (.iload_n 2, 1) := by decide +kernel
theorem dX8_addHairs_15 : decode cX8_addHairs 15 = .ok (.iconst 1, 1) := by decide +kernel
theorem dX8_addHairs_16 : decode cX8_addHairs 16 = .ok (.bipush 20, 2) := by decide +kernel
theorem dX8_addHairs_18 : decode cX8_addHairs 18 = .ok (.invokestatic 56, 3) := by decide +kernel
theorem dX8_addHairs_21 : decode cX8_addHairs 21 = .ok (.ifCond .ne 9, 3) := by decide +kernel
theorem dX8_addHairs_24 : decode cX8_addHairs 24 = .ok (.aload_n 0, 1) := by decide +kernel
theorem dX8_addHairs_25 : decode cX8_addHairs 25 = .ok (.iconst 2, 1) := by decide +kernel
theorem dX8_addHairs_26 : decode cX8_addHairs 26 = .ok (.invokevirtual 206, 3) := by decide +kernel
theorem dX8_addHairs_29 : decode cX8_addHairs 29 = .ok (.ireturn, 1) := by decide +kernel
theorem dX8_addHairs_30 : decode cX8_addHairs 30 = .ok (.aload_n 0, 1) := by decide +kernel
theorem dX8_addHairs_31 : decode cX8_addHairs 31 = .ok (.iload_n 1, 1) := by decide +kernel
theorem dX8_addHairs_32 : decode cX8_addHairs 32 = .ok (.invokevirtual 70, 3) := by decide +kernel
theorem dX8_addHairs_35 : decode cX8_addHairs 35 = .ok (.ifCond .eq 13, 3) := by decide +kernel
theorem dX8_addHairs_38 : decode cX8_addHairs 38 = .ok (.aload_n 0, 1) := by decide +kernel
theorem dX8_addHairs_39 : decode cX8_addHairs 39 = .ok (.getfield 16, 3) := by decide +kernel
theorem dX8_addHairs_42 : decode cX8_addHairs 42 = .ok (.iconst 4, 1) := by decide +kernel
theorem dX8_addHairs_43 : decode cX8_addHairs 43 = .ok (.iaload, 1) := by decide +kernel
theorem dX8_addHairs_44 : decode cX8_addHairs 44 = .ok (.iload_n 2, 1) := by decide +kernel
theorem dX8_addHairs_45 : decode cX8_addHairs 45 = .ok (.if_icmp .ge 9, 3) := by decide +kernel
theorem dX8_addHairs_48 : decode cX8_addHairs 48 = .ok (.aload_n 0, 1) := by decide +kernel
theorem dX8_addHairs_49 : decode cX8_addHairs 49 = .ok (.iconst 3, 1) := by decide +kernel
theorem dX8_addHairs_50 : decode cX8_addHairs 50 = .ok (.invokevirtual 206, 3) := by decide +kernel
theorem dX8_addHairs_53 : decode cX8_addHairs 53 = .ok (.ireturn, 1) := by decide +kernel
theorem dX8_addHairs_54 : decode cX8_addHairs 54 = .ok (.aload_n 0, 1) := by decide +kernel
theorem dX8_addHairs_55 : decode cX8_addHairs 55 = .ok (.getfield 16, 3) := by decide +kernel
theorem dX8_addHairs_58 : decode cX8_addHairs 58 = .ok (.iload_n 1, 1) := by decide +kernel
theorem dX8_addHairs_59 : decode cX8_addHairs 59 = .ok (.invokestatic 50, 3) := by decide +kernel
theorem dX8_addHairs_62 : decode cX8_addHairs 62 = .ok (.iconst 1, 1) := by decide +kernel
theorem dX8_addHairs_63 : decode cX8_addHairs 63 = .ok (.iadd, 1) := by decide +kernel
theorem dX8_addHairs_64 : decode cX8_addHairs 64 = .ok (.iaload, 1) := by decide +kernel
theorem dX8_addHairs_65 : decode cX8_addHairs 65 = .ok (.iload_n 2, 1) := by decide +kernel
theorem dX8_addHairs_66 : decode cX8_addHairs 66 = .ok (.iadd, 1) := by decide +kernel
theorem dX8_addHairs_67 : decode cX8_addHairs 67 = .ok (.bipush 20, 2) := by decide +kernel
theorem dX8_addHairs_69 : decode cX8_addHairs 69 = .ok (.if_icmp .le 9, 3) := by decide +kernel
theorem dX8_addHairs_72 : decode cX8_addHairs 72 = .ok (.aload_n 0, 1) := by decide +kernel
theorem dX8_addHairs_73 : decode cX8_addHairs 73 = .ok (.iconst 3, 1) := by decide +kernel
theorem dX8_addHairs_74 : decode cX8_addHairs 74 = .ok (.invokevirtual 206, 3) := by decide +kernel
theorem dX8_addHairs_77 : decode cX8_addHairs 77 = .ok (.ireturn, 1) := by decide +kernel
theorem dX8_addHairs_78 : decode cX8_addHairs 78 = .ok (.aload_n 0, 1) := by decide +kernel
theorem dX8_addHairs_79 : decode cX8_addHairs 79 = .ok (.invokevirtual 262, 3) := by decide +kernel
theorem dX8_addHairs_82 : decode cX8_addHairs 82 = .ok (.aload_n 0, 1) := by decide +kernel
theorem dX8_addHairs_83 : decode cX8_addHairs 83 = .ok (.getfield 16, 3) := by decide +kernel
theorem dX8_addHairs_86 : decode cX8_addHairs 86 = .ok (.iconst 4, 1) := by decide +kernel
theorem dX8_addHairs_87 : decode cX8_addHairs 87 = .ok (.dup2, 1) := by decide +kernel
theorem dX8_addHairs_88 : decode cX8_addHairs 88 = .ok (.iaload, 1) := by decide +kernel
theorem dX8_addHairs_89 : decode cX8_addHairs 89 = .ok (.iload_n 2, 1) := by decide +kernel
theorem dX8_addHairs_90 : decode cX8_addHairs 90 = .ok (.isub, 1) := by decide +kernel
theorem dX8_addHairs_91 : decode cX8_addHairs 91 = .ok (.iastore, 1) := by decide +kernel
theorem dX8_addHairs_92 : decode cX8_addHairs 92 = .ok (.aload_n 0, 1) := by decide +kernel
theorem dX8_addHairs_93 : decode cX8_addHairs 93 = .ok (.getfield 16, 3) := by decide +kernel
theorem dX8_addHairs_96 : decode cX8_addHairs 96 = .ok (.iload_n 1, 1) := by decide +kernel
theorem dX8_addHairs_97 : decode cX8_addHairs 97 = .ok (.invokestatic 50, 3) := by decide +kernel
theorem dX8_addHairs_100 : decode cX8_addHairs 100 = .ok (.iconst 1, 1) := by decide +kernel
theorem dX8_addHairs_101 : decode cX8_addHairs 101 = .ok (.iadd, 1) := by decide +kernel
theorem dX8_addHairs_102 : decode cX8_addHairs 102 = .ok (.dup2, 1) := by decide +kernel
theorem dX8_addHairs_103 : decode cX8_addHairs 103 = .ok (.iaload, 1) := by decide +kernel
theorem dX8_addHairs_104 : decode cX8_addHairs 104 = .ok (.iload_n 2, 1) := by decide +kernel
theorem dX8_addHairs_105 : decode cX8_addHairs 105 = .ok (.iadd, 1) := by decide +kernel
theorem dX8_addHairs_106 : decode cX8_addHairs 106 = .ok (.iastore, 1) := by decide +kernel
theorem dX8_addHairs_107 : decode cX8_addHairs 107 = .ok (.aload_n 0, 1) := by decide +kernel
theorem dX8_addHairs_108 : decode cX8_addHairs 108 = .ok (.aload_n 0, 1) := by decide +kernel
theorem dX8_addHairs_109 : decode cX8_addHairs 109 = .ok (.getfield 16, 3) := by decide +kernel
theorem dX8_addHairs_112 : decode cX8_addHairs 112 = .ok (.iload_n 1, 1) := by decide +kernel
theorem dX8_addHairs_113 : decode cX8_addHairs 113 = .ok (.invokestatic 50, 3) := by decide +kernel
theorem dX8_addHairs_116 : decode cX8_addHairs 116 = .ok (.iconst 1, 1) := by decide +kernel
theorem dX8_addHairs_117 : decode cX8_addHairs 117 = .ok (.iadd, 1) := by decide +kernel
theorem dX8_addHairs_118 : decode cX8_addHairs 118 = .ok (.iaload, 1) := by decide +kernel
theorem dX8_addHairs_119 : decode cX8_addHairs 119 = .ok (.invokevirtual 212, 3) := by decide +kernel
theorem dX8_addHairs_122 : decode cX8_addHairs 122 = .ok (.ireturn, 1) := by decide +kernel
set_option maxRecDepth 20000 in
theorem ggX8_restore_X8_in : GoodIn wsX8_restore wsX8_in := goodIn_r _ [7] (by decide +kernel) (by decide +kernel)
set_option maxRecDepth 20000 in
theorem gX8_restore_X8_in : GoodIn wsX8_restore (va_wsS RX8 56 yX8_in wsX8_in) := goodIn_app (goodIn_of _ (by decide +kernel)) ggX8_restore_X8_in
set_option maxRecDepth 20000 in
theorem ggX8_restore_X8_refuse : GoodIn wsX8_restore wsX8_refuse := goodIn_r _ [11, 12, 27, 28, 29, 30, 31, 32, 33, 34, 35, 36, 37, 38, 39, 40, 41, 42, 43, 44, 45, 46, 47, 48] (by decide +kernel) (by decide +kernel)
set_option maxRecDepth 20000 in
theorem gX8_restore_X8_refuse : GoodIn wsX8_restore (wsV RX8 206 RX8 yX8_refuse wsX8_refuse) := goodIn_app (goodIn_of _ (by decide +kernel)) ggX8_restore_X8_refuse
set_option maxRecDepth 20000 in
theorem ggX8_restore_X8_remembers : GoodIn wsX8_restore wsX8_remembers := goodIn_r _ [16, 17, 18, 2, 19, 20, 21, 6, 22, 27, 28, 29, 30, 31, 32, 33, 34, 35, 36, 37, 38, 39, 40, 41, 42, 43, 44, 45, 46, 47, 48] (by decide +kernel) (by decide +kernel)
set_option maxRecDepth 20000 in
theorem gX8_restore_X8_remembers : GoodIn wsX8_restore (wsV RX8 262 RX8 yX8_remembers wsX8_remembers) := goodIn_app (goodIn_of _ (by decide +kernel)) ggX8_restore_X8_remembers
set_option maxRecDepth 20000 in
theorem ggX8_restore_X8_told : GoodIn wsX8_restore wsX8_told := goodIn_r _ [26, 12, 27, 28, 29, 30, 31, 32, 33, 34, 35, 36, 37, 38, 39, 40, 41, 42, 43, 44, 45, 46, 47, 48] (by decide +kernel) (by decide +kernel)
set_option maxRecDepth 20000 in
theorem gX8_restore_X8_told : GoodIn wsX8_restore (wsV RX8 212 RX8 yX8_told wsX8_told) := goodIn_app (goodIn_of _ (by decide +kernel)) ggX8_restore_X8_told
theorem dX8_restore_0 : decode cX8_restore 0 = .ok (.iload_n 1, 1) := by decide +kernel
theorem dX8_restore_1 : decode cX8_restore 1 = .ok (.iconst 0, 1) := by decide +kernel
theorem dX8_restore_2 : decode cX8_restore 2 = .ok (.iconst 1, 1) := by decide +kernel
theorem dX8_restore_3 : decode cX8_restore 3 = .ok (.invokestatic 56, 3) := by decide +kernel
theorem dX8_restore_6 : decode cX8_restore 6 = .ok (.ifCond .ne 9, 3) := by decide +kernel
theorem dX8_restore_9 : decode cX8_restore 9 = .ok (.aload_n 0, 1) := by decide +kernel
theorem dX8_restore_10 : decode cX8_restore 10 = .ok (.iconst 1, 1) := by decide +kernel
theorem dX8_restore_11 : decode cX8_restore 11 = .ok (.invokevirtual 206, 3) := by decide +kernel
theorem dX8_restore_14 : decode cX8_restore 14 = .ok (.ireturn, 1) := by decide +kernel
theorem dX8_restore_15 : decode cX8_restore 15 = .ok (.aload_n 0, 1) := by decide +kernel
theorem dX8_restore_16 : decode cX8_restore 16 = .ok (.getfield 227, 3) := by decide +kernel
theorem dX8_restore_19 : decode cX8_restore 19 = .ok (.iload_n 1, 1) := by decide +kernel
theorem dX8_restore_20 : decode cX8_restore 20 = .ok (.ishr, 1) := by decide +kernel
theorem dX8_restore_21 : decode cX8_restore 21 = .ok (.iconst 1, 1) := by decide +kernel
theorem dX8_restore_22 : decode cX8_restore 22 = .ok (.iand, 1) := by decide +kernel
theorem dX8_restore_23 : decode cX8_restore 23 = .ok (.ifCond .ne 9, 3) := by decide +kernel
theorem dX8_restore_26 : decode cX8_restore 26 = .ok (.aload_n 0, 1) := by decide +kernel
theorem dX8_restore_27 : decode cX8_restore 27 = .ok (.iconst 2, 1) := by decide +kernel
theorem dX8_restore_28 : decode cX8_restore 28 = .ok (.invokevirtual 206, 3) := by decide +kernel
theorem dX8_restore_31 : decode cX8_restore 31 = .ok (.ireturn, 1) := by decide +kernel
theorem dX8_restore_32 : decode cX8_restore 32 = .ok (.aload_n 0, 1) := by decide +kernel
theorem dX8_restore_33 : decode cX8_restore 33 = .ok (.invokevirtual 262, 3) := by decide +kernel
theorem dX8_restore_36 : decode cX8_restore 36 = .ok (.iconst 0, 1) := by decide +kernel
theorem dX8_restore_37 : decode cX8_restore 37 = .ok (.istore_n 2, 1) := by decide +kernel
theorem dX8_restore_38 : decode cX8_restore 38 = .ok (.iload_n 2, 1) := by decide +kernel
theorem dX8_restore_39 : decode cX8_restore 39 = .ok (.bipush 56, 2) := by decide +kernel
theorem dX8_restore_41 : decode cX8_restore 41 = .ok (.if_icmp .ge 26, 3) := by decide +kernel
theorem dX8_restore_44 : decode cX8_restore 44 = .ok (.aload_n 0, 1) := by decide +kernel
theorem dX8_restore_45 : decode cX8_restore 45 = .ok (.getfield 16, 3) := by decide +kernel
theorem dX8_restore_48 : decode cX8_restore 48 = .ok (.iload_n 2, 1) := by decide +kernel
theorem dX8_restore_49 : decode cX8_restore 49 = .ok (.aload_n 0, 1) := by decide +kernel
theorem dX8_restore_50 : decode cX8_restore 50 = .ok (.getfield 25, 3) := by decide +kernel
theorem dX8_restore_53 : decode cX8_restore 53 = .ok (.iload_n 1, 1) := by decide +kernel
theorem dX8_restore_54 : decode cX8_restore 54 = .ok (.bipush 56, 2) := by decide +kernel
theorem dX8_restore_56 : decode cX8_restore 56 = .ok (.imul, 1) := by decide +kernel
theorem dX8_restore_57 : decode cX8_restore 57 = .ok (.iload_n 2, 1) := by decide +kernel
theorem dX8_restore_58 : decode cX8_restore 58 = .ok (.iadd, 1) := by decide +kernel
theorem dX8_restore_59 : decode cX8_restore 59 = .ok (.iaload, 1) := by decide +kernel
theorem dX8_restore_60 : decode cX8_restore 60 = .ok (.iastore, 1) := by decide +kernel
theorem dX8_restore_61 : decode cX8_restore 61 = .ok (.iinc 2 1, 3) := by decide +kernel
theorem dX8_restore_64 : decode cX8_restore 64 = .ok (.goto (-26), 3) := by decide +kernel
theorem dX8_restore_67 : decode cX8_restore 67 = .ok (.aload_n 0, 1) := by decide +kernel
theorem dX8_restore_68 : decode cX8_restore 68 = .ok (.aload_n 0, 1) := by decide +kernel
theorem dX8_restore_69 : decode cX8_restore 69 = .ok (.getfield 16, 3) := by decide +kernel
theorem dX8_restore_72 : decode cX8_restore 72 = .ok (.iconst 0, 1) := by decide +kernel
theorem dX8_restore_73 : decode cX8_restore 73 = .ok (.iaload, 1) := by decide +kernel
theorem dX8_restore_74 : decode cX8_restore 74 = .ok (.invokevirtual 212, 3) := by decide +kernel
theorem dX8_restore_77 : decode cX8_restore 77 = .ok (.ireturn, 1) := by decide +kernel
set_option maxRecDepth 20000 in
theorem ggX8_undo_X8_refuse : GoodIn wsX8_undo wsX8_refuse := goodIn_r _ [8, 9, 14, 15, 16, 17, 18, 19, 20, 21, 22, 23, 24, 25, 26, 27, 28, 29, 30, 31, 32, 33, 34, 35] (by decide +kernel) (by decide +kernel)
set_option maxRecDepth 20000 in
theorem gX8_undo_X8_refuse : GoodIn wsX8_undo (wsV RX8 206 RX8 yX8_refuse wsX8_refuse) := goodIn_app (goodIn_of _ (by decide +kernel)) ggX8_undo_X8_refuse
set_option maxRecDepth 20000 in
theorem ggX8_undo_X8_told : GoodIn wsX8_undo wsX8_told := goodIn_r _ [13, 9, 14, 15, 16, 17, 18, 19, 20, 21, 22, 23, 24, 25, 26, 27, 28, 29, 30, 31, 32, 33, 34, 35] (by decide +kernel) (by decide +kernel)
set_option maxRecDepth 20000 in
theorem gX8_undo_X8_told : GoodIn wsX8_undo (wsV RX8 212 RX8 yX8_told wsX8_told) := goodIn_app (goodIn_of _ (by decide +kernel)) ggX8_undo_X8_told
theorem dX8_undo_0 : decode cX8_undo 0 = .ok (.aload_n 0, 1) := by decide +kernel
theorem dX8_undo_1 : decode cX8_undo 1 = .ok (.getfield 104, 3) := by decide +kernel
theorem dX8_undo_4 : decode cX8_undo 4 = .ok (.ifCond .ne 9, 3) := by decide +kernel
theorem dX8_undo_7 : decode cX8_undo 7 = .ok (.aload_n 0, 1) := by decide +kernel
theorem dX8_undo_8 : decode cX8_undo 8 = .ok (.iconst 1, 1) := by decide +kernel
theorem dX8_undo_9 : decode cX8_undo 9 = .ok (.invokevirtual 206, 3) := by decide +kernel
theorem dX8_undo_12 : decode cX8_undo 12 = .ok (.ireturn, 1) := by decide +kernel
theorem dX8_undo_13 : decode cX8_undo 13 = .ok (.aload_n 0, 1) := by decide +kernel
theorem dX8_undo_14 : decode cX8_undo 14 = .ok (.dup, 1) := by decide +kernel
theorem dX8_undo_15 : decode cX8_undo 15 = .ok (.getfield 104, 3) := by decide +kernel
theorem dX8_undo_18 : decode cX8_undo 18 = .ok (.iconst 1, 1) := by decide +kernel
theorem dX8_undo_19 : decode cX8_undo 19 = .ok (.isub, 1) := by decide +kernel
theorem dX8_undo_20 : decode cX8_undo 20 = .ok (.putfield 104, 3) := by decide +kernel
theorem dX8_undo_23 : decode cX8_undo 23 = .ok (.iconst 0, 1) := by decide +kernel
theorem dX8_undo_24 : decode cX8_undo 24 = .ok (.istore_n 1, 1) := by decide +kernel
theorem dX8_undo_25 : decode cX8_undo 25 = .ok (.iload_n 1, 1) := by decide +kernel
theorem dX8_undo_26 : decode cX8_undo 26 = .ok (.bipush 56, 2) := by decide +kernel
theorem dX8_undo_28 : decode cX8_undo 28 = .ok (.if_icmp .ge 29, 3) := by decide +kernel
theorem dX8_undo_31 : decode cX8_undo 31 = .ok (.aload_n 0, 1) := by decide +kernel
theorem dX8_undo_32 : decode cX8_undo 32 = .ok (.getfield 16, 3) := by decide +kernel
theorem dX8_undo_35 : decode cX8_undo 35 = .ok (.iload_n 1, 1) := by decide +kernel
theorem dX8_undo_36 : decode cX8_undo 36 = .ok (.aload_n 0, 1) := by decide +kernel
theorem dX8_undo_37 : decode cX8_undo 37 = .ok (.getfield 22, 3) := by decide +kernel
theorem dX8_undo_40 : decode cX8_undo 40 = .ok (.aload_n 0, 1) := by decide +kernel
theorem dX8_undo_41 : decode cX8_undo 41 = .ok (.getfield 104, 3) := by decide +kernel
theorem dX8_undo_44 : decode cX8_undo 44 = .ok (.bipush 56, 2) := by decide +kernel
theorem dX8_undo_46 : decode cX8_undo 46 = .ok (.imul, 1) := by decide +kernel
theorem dX8_undo_47 : decode cX8_undo 47 = .ok (.iload_n 1, 1) := by decide +kernel
theorem dX8_undo_48 : decode cX8_undo 48 = .ok (.iadd, 1) := by decide +kernel
theorem dX8_undo_49 : decode cX8_undo 49 = .ok (.iaload, 1) := by decide +kernel
theorem dX8_undo_50 : decode cX8_undo 50 = .ok (.iastore, 1) := by decide +kernel
theorem dX8_undo_51 : decode cX8_undo 51 = .ok (.iinc 1 1, 3) := by decide +kernel
theorem dX8_undo_54 : decode cX8_undo 54 = .ok (.goto (-29), 3) := by decide +kernel
theorem dX8_undo_57 : decode cX8_undo 57 = .ok (.aload_n 0, 1) := by decide +kernel
theorem dX8_undo_58 : decode cX8_undo 58 = .ok (.aload_n 0, 1) := by decide +kernel
theorem dX8_undo_59 : decode cX8_undo 59 = .ok (.getfield 104, 3) := by decide +kernel
theorem dX8_undo_62 : decode cX8_undo 62 = .ok (.invokevirtual 212, 3) := by decide +kernel
theorem dX8_undo_65 : decode cX8_undo 65 = .ok (.ireturn, 1) := by decide +kernel
set_option maxRecDepth 20000 in
theorem ggX8_save_X8_in : GoodIn wsX8_save wsX8_in := goodIn_r _ [7] (by decide +kernel) (by decide +kernel)
set_option maxRecDepth 20000 in
theorem gX8_save_X8_in : GoodIn wsX8_save (va_wsS RX8 56 yX8_in wsX8_in) := goodIn_app (goodIn_of _ (by decide +kernel)) ggX8_save_X8_in
set_option maxRecDepth 20000 in
theorem ggX8_save_X8_refuse : GoodIn wsX8_save wsX8_refuse := goodIn_r _ [11, 12, 17, 18, 19, 20, 21, 22, 23, 24, 25, 26, 27, 28, 29, 30, 31, 32, 33, 34, 35, 36, 37, 38] (by decide +kernel) (by decide +kernel)
set_option maxRecDepth 20000 in
theorem gX8_save_X8_refuse : GoodIn wsX8_save (wsV RX8 206 RX8 yX8_refuse wsX8_refuse) := goodIn_app (goodIn_of _ (by decide +kernel)) ggX8_save_X8_refuse
set_option maxRecDepth 20000 in
theorem ggX8_save_X8_told : GoodIn wsX8_save wsX8_told := goodIn_r _ [16, 12, 17, 18, 19, 20, 21, 22, 23, 24, 25, 26, 27, 28, 29, 30, 31, 32, 33, 34, 35, 36, 37, 38] (by decide +kernel) (by decide +kernel)
set_option maxRecDepth 20000 in
theorem gX8_save_X8_told : GoodIn wsX8_save (wsV RX8 212 RX8 yX8_told wsX8_told) := goodIn_app (goodIn_of _ (by decide +kernel)) ggX8_save_X8_told
theorem dX8_save_0 : decode cX8_save 0 = .ok (.iload_n 1, 1) := by decide +kernel
theorem dX8_save_1 : decode cX8_save 1 = .ok (.iconst 0, 1) := by decide +kernel
theorem dX8_save_2 : decode cX8_save 2 = .ok (.iconst 1, 1) := by decide +kernel
theorem dX8_save_3 : decode cX8_save 3 = .ok (.invokestatic 56, 3) := by decide +kernel
theorem dX8_save_6 : decode cX8_save 6 = .ok (.ifCond .ne 9, 3) := by decide +kernel
theorem dX8_save_9 : decode cX8_save 9 = .ok (.aload_n 0, 1) := by decide +kernel
theorem dX8_save_10 : decode cX8_save 10 = .ok (.iconst 1, 1) := by decide +kernel
theorem dX8_save_11 : decode cX8_save 11 = .ok (.invokevirtual 206, 3) := by decide +kernel
theorem dX8_save_14 : decode cX8_save 14 = .ok (.ireturn, 1) := by decide +kernel
theorem dX8_save_15 : decode cX8_save 15 = .ok (.iconst 0, 1) := by decide +kernel
theorem dX8_save_16 : decode cX8_save 16 = .ok (.istore_n 2, 1) := by decide +kernel
theorem dX8_save_17 : decode cX8_save 17 = .ok (.iload_n 2, 1) := by decide +kernel
theorem dX8_save_18 : decode cX8_save 18 = .ok (.bipush 56, 2) := by decide +kernel
theorem dX8_save_20 : decode cX8_save 20 = .ok (.if_icmp .ge 26, 3) := by decide +kernel
theorem dX8_save_23 : decode cX8_save 23 = .ok (.aload_n 0, 1) := by decide +kernel
theorem dX8_save_24 : decode cX8_save 24 = .ok (.getfield 25, 3) := by decide +kernel
theorem dX8_save_27 : decode cX8_save 27 = .ok (.iload_n 1, 1) := by decide +kernel
theorem dX8_save_28 : decode cX8_save 28 = .ok (.bipush 56, 2) := by decide +kernel
theorem dX8_save_30 : decode cX8_save 30 = .ok (.imul, 1) := by decide +kernel
theorem dX8_save_31 : decode cX8_save 31 = .ok (.iload_n 2, 1) := by decide +kernel
theorem dX8_save_32 : decode cX8_save 32 = .ok (.iadd, 1) := by decide +kernel
theorem dX8_save_33 : decode cX8_save 33 = .ok (.aload_n 0, 1) := by decide +kernel
theorem dX8_save_34 : decode cX8_save 34 = .ok (.getfield 16, 3) := by decide +kernel
theorem dX8_save_37 : decode cX8_save 37 = .ok (.iload_n 2, 1) := by decide +kernel
theorem dX8_save_38 : decode cX8_save 38 = .ok (.iaload, 1) := by decide +kernel
theorem dX8_save_39 : decode cX8_save 39 = .ok (.iastore, 1) := by decide +kernel
theorem dX8_save_40 : decode cX8_save 40 = .ok (.iinc 2 1, 3) := by decide +kernel
theorem dX8_save_43 : decode cX8_save 43 = .ok (.goto (-26), 3) := by decide +kernel
theorem dX8_save_46 : decode cX8_save 46 = .ok (.aload_n 0, 1) := by decide +kernel
theorem dX8_save_47 : decode cX8_save 47 = .ok (.dup, 1) := by decide +kernel
theorem dX8_save_48 : decode cX8_save 48 = .ok (.getfield 227, 3) := by decide +kernel
theorem dX8_save_51 : decode cX8_save 51 = .ok (.iconst 1, 1) := by decide +kernel
theorem dX8_save_52 : decode cX8_save 52 = .ok (.iload_n 1, 1) := by decide +kernel
theorem dX8_save_53 : decode cX8_save 53 = .ok (.ishl, 1) := by decide +kernel
theorem dX8_save_54 : decode cX8_save 54 = .ok (.ior, 1) := by decide +kernel
theorem dX8_save_55 : decode cX8_save 55 = .ok (.putfield 227, 3) := by decide +kernel
theorem dX8_save_58 : decode cX8_save 58 = .ok (.aload_n 0, 1) := by decide +kernel
theorem dX8_save_59 : decode cX8_save 59 = .ok (.aload_n 0, 1) := by decide +kernel
theorem dX8_save_60 : decode cX8_save 60 = .ok (.getfield 16, 3) := by decide +kernel
theorem dX8_save_63 : decode cX8_save 63 = .ok (.iconst 0, 1) := by decide +kernel
theorem dX8_save_64 : decode cX8_save 64 = .ok (.iaload, 1) := by decide +kernel
theorem dX8_save_65 : decode cX8_save 65 = .ok (.invokevirtual 212, 3) := by decide +kernel
theorem dX8_save_68 : decode cX8_save 68 = .ok (.ireturn, 1) := by decide +kernel
theorem dX8_writes_0 : decode cX8_writes 0 = .ok (.aload_n 0, 1) := by decide +kernel
theorem dX8_writes_1 : decode cX8_writes 1 = .ok (.getfield 32, 3) := by decide +kernel
theorem dX8_writes_4 : decode cX8_writes 4 = .ok (.aload_n 0, 1) := by decide +kernel
theorem dX8_writes_5 : decode cX8_writes 5 = .ok (.getfield 268, 3) := by decide +kernel
theorem dX8_writes_8 : decode cX8_writes 8 = .ok (.iload_n 1, 1) := by decide +kernel
theorem dX8_writes_9 : decode cX8_writes 9 = .ok (.i2b, 1) := by decide +kernel
theorem dX8_writes_10 : decode cX8_writes 10 = .ok (.bastore, 1) := by decide +kernel
theorem dX8_writes_11 : decode cX8_writes 11 = .ok (.aload_n 0, 1) := by decide +kernel
theorem dX8_writes_12 : decode cX8_writes 12 = .ok (.dup, 1) := by decide +kernel
theorem dX8_writes_13 : decode cX8_writes 13 = .ok (.getfield 268, 3) := by decide +kernel
theorem dX8_writes_16 : decode cX8_writes 16 = .ok (.iconst 1, 1) := by decide +kernel
theorem dX8_writes_17 : decode cX8_writes 17 = .ok (.iadd, 1) := by decide +kernel
theorem dX8_writes_18 : decode cX8_writes 18 = .ok (.putfield 268, 3) := by decide +kernel
theorem dX8_writes_21 : decode cX8_writes 21 = .ok (.return_, 1) := by decide +kernel
set_option maxRecDepth 20000 in
theorem ggX8_writesReading_X8_reading : GoodIn wsX8_writesReading wsX8_reading := goodIn_r _ [5, 6, 7, 8, 9, 4, 10, 11, 12, 13, 14, 15, 16, 17, 18, 19, 20, 21, 22, 23, 24, 25, 26, 27, 28, 29, 30, 37, 38, 39, 40, 41, 42, 43, 44, 45, 46, 47, 48, 49, 50, 51, 52, 53, 54, 55, 56, 57, 58] (by decide +kernel) (by decide +kernel)
set_option maxRecDepth 20000 in
theorem gX8_writesReading_X8_reading : GoodIn wsX8_writesReading (wsV RX8 244 RX8 yX8_reading wsX8_reading) := goodIn_app (goodIn_of _ (by decide +kernel)) ggX8_writesReading_X8_reading
set_option maxRecDepth 20000 in
theorem ggX8_writesReading_X8_writes : GoodIn wsX8_writesReading wsX8_writes := goodIn_r _ [34, 35, 36, 37, 38, 39, 40, 41, 42, 43, 44, 45, 46, 47, 48, 49, 50, 51, 52, 53, 54, 55, 56, 57, 58] (by decide +kernel) (by decide +kernel)
set_option maxRecDepth 20000 in
theorem gX8_writesReading_X8_writes : GoodIn wsX8_writesReading (wsV RX8 271 RX8 yX8_writes wsX8_writes) := goodIn_app (goodIn_of _ (by decide +kernel)) ggX8_writesReading_X8_writes
theorem dX8_writesReading_0 : decode cX8_writesReading 0 = .ok (.aload_n 0, 1) := by decide +kernel
theorem dX8_writesReading_1 : decode cX8_writesReading 1 = .ok (.iload_n 1, 1) := by decide +kernel
theorem dX8_writesReading_2 : decode cX8_writesReading 2 = .ok (.invokevirtual 244, 3) := by decide +kernel
theorem dX8_writesReading_5 : decode cX8_writesReading 5 = .ok (.istore_n 2, 1) := by decide +kernel
theorem dX8_writesReading_6 : decode cX8_writesReading 6 = .ok (.iload_n 2, 1) := by decide +kernel
theorem dX8_writesReading_7 : decode cX8_writesReading 7 = .ok (.bipush 100, 2) := by decide +kernel
theorem dX8_writesReading_9 : decode cX8_writesReading 9 = .ok (.if_icmp .ne 9, 3) := by decide +kernel
theorem dX8_writesReading_12 : decode cX8_writesReading 12 = .ok (.aload_n 0, 1) := by decide +kernel
theorem dX8_writesReading_13 : decode cX8_writesReading 13 = .ok (.bipush 49, 2) := by decide +kernel
theorem dX8_writesReading_15 : decode cX8_writesReading 15 = .ok (.invokevirtual 271, 3) := by decide +kernel
theorem dX8_writesReading_18 : decode cX8_writesReading 18 = .ok (.iload_n 2, 1) := by decide +kernel
theorem dX8_writesReading_19 : decode cX8_writesReading 19 = .ok (.bipush 9, 2) := by decide +kernel
theorem dX8_writesReading_21 : decode cX8_writesReading 21 = .ok (.if_icmp .le 17, 3) := by decide +kernel
theorem dX8_writesReading_24 : decode cX8_writesReading 24 = .ok (.aload_n 0, 1) := by decide +kernel
theorem dX8_writesReading_25 : decode cX8_writesReading 25 = .ok (.bipush 48, 2) := by decide +kernel
theorem dX8_writesReading_27 : decode cX8_writesReading 27 = .ok (.iload_n 2, 1) := by decide +kernel
theorem dX8_writesReading_28 : decode cX8_writesReading 28 = .ok (.bipush 10, 2) := by decide +kernel
theorem dX8_writesReading_30 : decode cX8_writesReading 30 = .ok (.idiv, 1) := by decide +kernel
theorem dX8_writesReading_31 : decode cX8_writesReading 31 = .ok (.bipush 10, 2) := by decide +kernel
theorem dX8_writesReading_33 : decode cX8_writesReading 33 = .ok (.irem, 1) := by decide +kernel
theorem dX8_writesReading_34 : decode cX8_writesReading 34 = .ok (.iadd, 1) := by decide +kernel
theorem dX8_writesReading_35 : decode cX8_writesReading 35 = .ok (.invokevirtual 271, 3) := by decide +kernel
theorem dX8_writesReading_38 : decode cX8_writesReading 38 = .ok (.aload_n 0, 1) := by decide +kernel
theorem dX8_writesReading_39 : decode cX8_writesReading 39 = .ok (.bipush 48, 2) := by decide +kernel
theorem dX8_writesReading_41 : decode cX8_writesReading 41 = .ok (.iload_n 2, 1) := by decide +kernel
theorem dX8_writesReading_42 : decode cX8_writesReading 42 = .ok (.bipush 10, 2) := by decide +kernel
theorem dX8_writesReading_44 : decode cX8_writesReading 44 = .ok (.irem, 1) := by decide +kernel
theorem dX8_writesReading_45 : decode cX8_writesReading 45 = .ok (.iadd, 1) := by decide +kernel
theorem dX8_writesReading_46 : decode cX8_writesReading 46 = .ok (.invokevirtual 271, 3) := by decide +kernel
theorem dX8_writesReading_49 : decode cX8_writesReading 49 = .ok (.return_, 1) := by decide +kernel
set_option maxRecDepth 20000 in
theorem ggX8_writeInstrument_X8_is : GoodIn wsX8_writeInstrument wsX8_is := goodIn_r _ [7, 2, 8, 9, 6, 10, 65, 66, 67, 68, 69, 70, 71, 72, 73, 74, 75, 76, 77, 78, 79, 80, 81, 82, 83, 84, 85, 86] (by decide +kernel) (by decide +kernel)
set_option maxRecDepth 20000 in
theorem gX8_writeInstrument_X8_is : GoodIn wsX8_writeInstrument (wsV RX8 230 RX8 yX8_is wsX8_is) := goodIn_app (goodIn_of _ (by decide +kernel)) ggX8_writeInstrument_X8_is
set_option maxRecDepth 20000 in
theorem ggX8_writeInstrument_X8_refuse : GoodIn wsX8_writeInstrument wsX8_refuse := goodIn_r _ [14, 15, 65, 66, 67, 68, 69, 70, 71, 72, 73, 74, 75, 76, 77, 78, 79, 80, 81, 82, 83, 84, 85, 86] (by decide +kernel) (by decide +kernel)
set_option maxRecDepth 20000 in
theorem gX8_writeInstrument_X8_refuse : GoodIn wsX8_writeInstrument (wsV RX8 206 RX8 yX8_refuse wsX8_refuse) := goodIn_app (goodIn_of _ (by decide +kernel)) ggX8_writeInstrument_X8_refuse
set_option maxRecDepth 20000 in
theorem ggX8_writeInstrument_X8_isOfHair : GoodIn wsX8_writeInstrument wsX8_isOfHair := goodIn_r _ [19, 2, 20, 21, 6, 22, 65, 66, 67, 68, 69, 70, 71, 72, 73, 74, 75, 76, 77, 78, 79, 80, 81, 82, 83, 84, 85, 86] (by decide +kernel) (by decide +kernel)
set_option maxRecDepth 20000 in
theorem gX8_writeInstrument_X8_isOfHair : GoodIn wsX8_writeInstrument (wsV RX8 70 RX8 yX8_isOfHair wsX8_isOfHair) := goodIn_app (goodIn_of _ (by decide +kernel)) ggX8_writeInstrument_X8_isOfHair
set_option maxRecDepth 20000 in
theorem ggX8_writeInstrument_X8_writes : GoodIn wsX8_writeInstrument wsX8_writes := goodIn_r _ [26, 27, 1, 65, 66, 67, 68, 69, 70, 71, 72, 73, 74, 75, 76, 77, 78, 79, 80, 81, 82, 83, 84, 85, 86] (by decide +kernel) (by decide +kernel)
set_option maxRecDepth 20000 in
theorem gX8_writeInstrument_X8_writes : GoodIn wsX8_writeInstrument (wsV RX8 271 RX8 yX8_writes wsX8_writes) := goodIn_app (goodIn_of _ (by decide +kernel)) ggX8_writeInstrument_X8_writes
set_option maxRecDepth 20000 in
theorem ggX8_writeInstrument_X8_writesReading : GoodIn wsX8_writeInstrument wsX8_writesReading := goodIn_r _ [31, 32, 33, 34, 6, 35, 2, 36, 37, 38, 39, 16, 17, 18, 19, 20, 21, 22, 40, 41, 42, 43, 44, 45, 46, 47, 48, 49, 50, 51, 52, 23, 24, 25, 26, 27, 1, 65, 66, 67, 68, 69, 70, 71, 72, 73, 74, 75, 76, 77, 78, 79, 80, 81, 82, 83, 84, 85, 86] (by decide +kernel) (by decide +kernel)
set_option maxRecDepth 20000 in
theorem gX8_writeInstrument_X8_writesReading : GoodIn wsX8_writeInstrument (wsV RX8 274 RX8 yX8_writesReading wsX8_writesReading) := goodIn_app (goodIn_of _ (by decide +kernel)) ggX8_writeInstrument_X8_writesReading
set_option maxRecDepth 20000 in
theorem ggX8_writeInstrument_X8_hasSettled : GoodIn wsX8_writeInstrument wsX8_hasSettled := goodIn_r _ [56, 16, 17, 18, 6, 19, 2, 20, 21, 22, 57, 58, 59, 60, 44, 45, 46, 47, 48, 49, 50, 51, 52, 65, 66, 67, 68, 69, 70, 71, 72, 73, 74, 75, 76, 77, 78, 79, 80, 81, 82, 83, 84, 85, 86] (by decide +kernel) (by decide +kernel)
set_option maxRecDepth 20000 in
theorem gX8_writeInstrument_X8_hasSettled : GoodIn wsX8_writeInstrument (wsV RX8 85 RX8 yX8_hasSettled wsX8_hasSettled) := goodIn_app (goodIn_of _ (by decide +kernel)) ggX8_writeInstrument_X8_hasSettled
set_option maxRecDepth 20000 in
theorem ggX8_writeInstrument_X8_isBoxed : GoodIn wsX8_writeInstrument wsX8_isBoxed := goodIn_r _ [52, 2, 20, 21, 6, 22, 65, 66, 67, 68, 69, 70, 71, 72, 73, 74, 75, 76, 77, 78, 79, 80, 81, 82, 83, 84, 85, 86] (by decide +kernel) (by decide +kernel)
set_option maxRecDepth 20000 in
theorem gX8_writeInstrument_X8_isBoxed : GoodIn wsX8_writeInstrument (wsV RX8 63 RX8 yX8_isBoxed wsX8_isBoxed) := goodIn_app (goodIn_of _ (by decide +kernel)) ggX8_writeInstrument_X8_isBoxed
set_option maxRecDepth 20000 in
theorem ggX8_writeInstrument_X8_i : GoodIn wsX8_writeInstrument wsX8_i := goodIn_r _ [22] (by decide +kernel) (by decide +kernel)
set_option maxRecDepth 20000 in
theorem gX8_writeInstrument_X8_i : GoodIn wsX8_writeInstrument (va_wsS RX8 50 yX8_i wsX8_i) := goodIn_app (goodIn_of _ (by decide +kernel)) ggX8_writeInstrument_X8_i
set_option maxRecDepth 20000 in
theorem ggX8_writeInstrument_X8_told : GoodIn wsX8_writeInstrument wsX8_told := goodIn_r _ [64, 15, 65, 66, 67, 68, 69, 70, 71, 72, 73, 74, 75, 76, 77, 78, 79, 80, 81, 82, 83, 84, 85, 86] (by decide +kernel) (by decide +kernel)
set_option maxRecDepth 20000 in
theorem gX8_writeInstrument_X8_told : GoodIn wsX8_writeInstrument (wsV RX8 212 RX8 yX8_told wsX8_told) := goodIn_app (goodIn_of _ (by decide +kernel)) ggX8_writeInstrument_X8_told
theorem dX8_writeInstrument_0 : decode cX8_writeInstrument 0 = .ok (.aload_n 0, 1) := by decide +kernel
theorem dX8_writeInstrument_1 : decode cX8_writeInstrument 1 = .ok (.iload_n 1, 1) := by decide +kernel
theorem dX8_writeInstrument_2 : decode cX8_writeInstrument 2 = .ok (.invokevirtual 230, 3) := by decide +kernel
theorem dX8_writeInstrument_5 : decode cX8_writeInstrument 5 = .ok (.ifCond .ne 9, 3) := by decide +kernel
theorem dX8_writeInstrument_8 : decode cX8_writeInstrument 8 = .ok (.aload_n 0, 1) := by decide +kernel
theorem dX8_writeInstrument_9 : decode cX8_writeInstrument 9 = .ok (.iconst 1, 1) := by decide +kernel
theorem dX8_writeInstrument_10 : decode cX8_writeInstrument 10 = .ok (.invokevirtual 206, 3) := by decide +kernel
theorem dX8_writeInstrument_13 : decode cX8_writeInstrument 13 = .ok (.ireturn, 1) := by decide +kernel
theorem dX8_writeInstrument_14 : decode cX8_writeInstrument 14 = .ok (.aload_n 0, 1) := by decide +kernel
theorem dX8_writeInstrument_15 : decode cX8_writeInstrument 15 = .ok (.iconst 0, 1) := by decide +kernel
theorem dX8_writeInstrument_16 : decode cX8_writeInstrument 16 = .ok (.putfield 268, 3) := by decide +kernel
theorem dX8_writeInstrument_19 : decode cX8_writeInstrument 19 = .ok (.aload_n 0, 1) := by decide +kernel
theorem dX8_writeInstrument_20 : decode cX8_writeInstrument 20 = .ok (.iload_n 1, 1) := by decide +kernel
theorem dX8_writeInstrument_21 : decode cX8_writeInstrument 21 = .ok (.invokevirtual 70, 3) := by decide +kernel
theorem dX8_writeInstrument_24 : decode cX8_writeInstrument 24 = .ok (.ifCond .eq 12, 3) := by decide +kernel
theorem dX8_writeInstrument_27 : decode cX8_writeInstrument 27 = .ok (.aload_n 0, 1) := by decide +kernel
theorem dX8_writeInstrument_28 : decode cX8_writeInstrument 28 = .ok (.bipush 104, 2) := by decide +kernel
theorem dX8_writeInstrument_30 : decode cX8_writeInstrument 30 = .ok (.invokevirtual 271, 3) := by decide +kernel
theorem dX8_writeInstrument_33 : decode cX8_writeInstrument 33 = .ok (.goto 9, 3) := by decide +kernel
theorem dX8_writeInstrument_36 : decode cX8_writeInstrument 36 = .ok (.aload_n 0, 1) := by decide +kernel
theorem dX8_writeInstrument_37 : decode cX8_writeInstrument 37 = .ok (.bipush 98, 2) := by decide +kernel
theorem dX8_writeInstrument_39 : decode cX8_writeInstrument 39 = .ok (.invokevirtual 271, 3) := by decide +kernel
theorem dX8_writeInstrument_42 : decode cX8_writeInstrument 42 = .ok (.aload_n 0, 1) := by decide +kernel
theorem dX8_writeInstrument_43 : decode cX8_writeInstrument 43 = .ok (.iload_n 1, 1) := by decide +kernel
theorem dX8_writeInstrument_44 : decode cX8_writeInstrument 44 = .ok (.invokevirtual 274, 3) := by decide +kernel
theorem dX8_writeInstrument_47 : decode cX8_writeInstrument 47 = .ok (.aload_n 0, 1) := by decide +kernel
theorem dX8_writeInstrument_48 : decode cX8_writeInstrument 48 = .ok (.iload_n 1, 1) := by decide +kernel
theorem dX8_writeInstrument_49 : decode cX8_writeInstrument 49 = .ok (.invokevirtual 85, 3) := by decide +kernel
theorem dX8_writeInstrument_52 : decode cX8_writeInstrument 52 = .ok (.ifCond .eq 9, 3) := by decide +kernel
theorem dX8_writeInstrument_55 : decode cX8_writeInstrument 55 = .ok (.aload_n 0, 1) := by decide +kernel
theorem dX8_writeInstrument_56 : decode cX8_writeInstrument 56 = .ok (.bipush 42, 2) := by decide +kernel
theorem dX8_writeInstrument_58 : decode cX8_writeInstrument 58 = .ok (.invokevirtual 271, 3) := by decide +kernel
theorem dX8_writeInstrument_61 : decode cX8_writeInstrument 61 = .ok (.aload_n 0, 1) := by decide +kernel
theorem dX8_writeInstrument_62 : decode cX8_writeInstrument 62 = .ok (.iload_n 1, 1) := by decide +kernel
theorem dX8_writeInstrument_63 : decode cX8_writeInstrument 63 = .ok (.invokevirtual 63, 3) := by decide +kernel
theorem dX8_writeInstrument_66 : decode cX8_writeInstrument 66 = .ok (.ifCond .eq 28, 3) := by decide +kernel
theorem dX8_writeInstrument_69 : decode cX8_writeInstrument 69 = .ok (.aload_n 0, 1) := by decide +kernel
theorem dX8_writeInstrument_70 : decode cX8_writeInstrument 70 = .ok (.bipush 115, 2) := by decide +kernel
theorem dX8_writeInstrument_72 : decode cX8_writeInstrument 72 = .ok (.invokevirtual 271, 3) := by decide +kernel
theorem dX8_writeInstrument_75 : decode cX8_writeInstrument 75 = .ok (.aload_n 0, 1) := by decide +kernel
theorem dX8_writeInstrument_76 : decode cX8_writeInstrument 76 = .ok (.bipush 48, 2) := by decide +kernel
theorem dX8_writeInstrument_78 : decode cX8_writeInstrument 78 = .ok (.aload_n 0, 1) := by decide +kernel
theorem dX8_writeInstrument_79 : decode cX8_writeInstrument 79 = .ok (.getfield 16, 3) := by decide +kernel
theorem dX8_writeInstrument_82 : decode cX8_writeInstrument 82 = .ok (.iload_n 1, 1) := by decide +kernel
theorem dX8_writeInstrument_83 : decode cX8_writeInstrument 83 = .ok (.invokestatic 50, 3) := by decide +kernel
theorem dX8_writeInstrument_86 : decode cX8_writeInstrument 86 = .ok (.bipush 7, 2) := by decide +kernel
theorem dX8_writeInstrument_88 : decode cX8_writeInstrument 88 = .ok (.iadd, 1) := by decide +kernel
theorem dX8_writeInstrument_89 : decode cX8_writeInstrument 89 = .ok (.iaload, 1) := by decide +kernel
theorem dX8_writeInstrument_90 : decode cX8_writeInstrument 90 = .ok (.iadd, 1) := by decide +kernel
theorem dX8_writeInstrument_91 : decode cX8_writeInstrument 91 = .ok (.invokevirtual 271, 3) := by decide +kernel
theorem dX8_writeInstrument_94 : decode cX8_writeInstrument 94 = .ok (.aload_n 0, 1) := by decide +kernel
theorem dX8_writeInstrument_95 : decode cX8_writeInstrument 95 = .ok (.aload_n 0, 1) := by decide +kernel
theorem dX8_writeInstrument_96 : decode cX8_writeInstrument 96 = .ok (.getfield 268, 3) := by decide +kernel
theorem dX8_writeInstrument_99 : decode cX8_writeInstrument 99 = .ok (.invokevirtual 212, 3) := by decide +kernel
theorem dX8_writeInstrument_102 : decode cX8_writeInstrument 102 = .ok (.ireturn, 1) := by decide +kernel
set_option maxRecDepth 20000 in
theorem ggX8_writeReadings_X8_writes : GoodIn wsX8_writeReadings wsX8_writes := goodIn_r _ [7, 8, 1, 46, 47, 48, 49, 50, 51, 52, 53, 54, 55, 56, 57, 58, 59, 60, 61, 62, 63, 64, 65, 66, 67] (by decide +kernel) (by decide +kernel)
set_option maxRecDepth 20000 in
theorem gX8_writeReadings_X8_writes : GoodIn wsX8_writeReadings (wsV RX8 271 RX8 yX8_writes wsX8_writes) := goodIn_app (goodIn_of _ (by decide +kernel)) ggX8_writeReadings_X8_writes
set_option maxRecDepth 20000 in
theorem ggX8_writeReadings_X8_writesReading : GoodIn wsX8_writeReadings wsX8_writesReading := goodIn_r _ [12, 13, 14, 15, 6, 16, 2, 17, 18, 19, 20, 21, 22, 23, 24, 25, 26, 27, 28, 29, 30, 31, 32, 33, 34, 35, 36, 37, 38, 39, 40, 3, 4, 5, 7, 8, 1, 46, 47, 48, 49, 50, 51, 52, 53, 54, 55, 56, 57, 58, 59, 60, 61, 62, 63, 64, 65, 66, 67] (by decide +kernel) (by decide +kernel)
set_option maxRecDepth 20000 in
theorem gX8_writeReadings_X8_writesReading : GoodIn wsX8_writeReadings (wsV RX8 274 RX8 yX8_writesReading wsX8_writesReading) := goodIn_app (goodIn_of _ (by decide +kernel)) ggX8_writeReadings_X8_writesReading
set_option maxRecDepth 20000 in
theorem ggX8_writeReadings_X8_told : GoodIn wsX8_writeReadings wsX8_told := goodIn_r _ [44, 45, 46, 47, 48, 49, 50, 51, 52, 53, 54, 55, 56, 57, 58, 59, 60, 61, 62, 63, 64, 65, 66, 67] (by decide +kernel) (by decide +kernel)
set_option maxRecDepth 20000 in
theorem gX8_writeReadings_X8_told : GoodIn wsX8_writeReadings (wsV RX8 212 RX8 yX8_told wsX8_told) := goodIn_app (goodIn_of _ (by decide +kernel)) ggX8_writeReadings_X8_told
theorem dX8_writeReadings_0 : decode cX8_writeReadings 0 = .ok (.aload_n 0, 1) := by decide +kernel
theorem dX8_writeReadings_1 : decode cX8_writeReadings 1 = .ok (.iconst 0, 1) := by decide +kernel
theorem dX8_writeReadings_2 : decode cX8_writeReadings 2 = .ok (.putfield 268, 3) := by decide +kernel
theorem dX8_writeReadings_5 : decode cX8_writeReadings 5 = .ok (.iconst 0, 1) := by decide +kernel
theorem dX8_writeReadings_6 : decode cX8_writeReadings 6 = .ok (.istore_n 1, 1) := by decide +kernel
theorem dX8_writeReadings_7 : decode cX8_writeReadings 7 = .ok (.iload_n 1, 1) := by decide +kernel
theorem dX8_writeReadings_8 : decode cX8_writeReadings 8 = .ok (.aload_n 0, 1) := by decide +kernel
theorem dX8_writeReadings_9 : decode cX8_writeReadings 9 = .ok (.getfield 16, 3) := by decide +kernel
theorem dX8_writeReadings_12 : decode cX8_writeReadings 12 = .ok (.iconst 5, 1) := by decide +kernel
theorem dX8_writeReadings_13 : decode cX8_writeReadings 13 = .ok (.iaload, 1) := by decide +kernel
theorem dX8_writeReadings_14 : decode cX8_writeReadings 14 = .ok (.if_icmp .ge 24, 3) := by decide +kernel
theorem dX8_writeReadings_17 : decode cX8_writeReadings 17 = .ok (.iload_n 1, 1) := by decide +kernel
theorem dX8_writeReadings_18 : decode cX8_writeReadings 18 = .ok (.ifCond .le 9, 3) := by decide +kernel
theorem dX8_writeReadings_21 : decode cX8_writeReadings 21 = .ok (.aload_n 0, 1) := by decide +kernel
theorem dX8_writeReadings_22 : decode cX8_writeReadings 22 = .ok (.bipush 32, 2) := by decide +kernel
theorem dX8_writeReadings_24 : decode cX8_writeReadings 24 = .ok (.invokevirtual 271, 3) := by decide +kernel
theorem dX8_writeReadings_27 : decode cX8_writeReadings 27 = .ok (.aload_n 0, 1) := by decide +kernel
theorem dX8_writeReadings_28 : decode cX8_writeReadings 28 = .ok (.iload_n 1, 1) := by decide +kernel
theorem dX8_writeReadings_29 : decode cX8_writeReadings 29 = .ok (.invokevirtual 274, 3) := by decide +kernel
theorem dX8_writeReadings_32 : decode cX8_writeReadings 32 = .ok (.iinc 1 1, 3) := by decide +kernel
theorem dX8_writeReadings_35 : decode cX8_writeReadings 35 = .ok (.goto (-28), 3) := by decide +kernel
theorem dX8_writeReadings_38 : decode cX8_writeReadings 38 = .ok (.aload_n 0, 1) := by decide +kernel
theorem dX8_writeReadings_39 : decode cX8_writeReadings 39 = .ok (.aload_n 0, 1) := by decide +kernel
theorem dX8_writeReadings_40 : decode cX8_writeReadings 40 = .ok (.getfield 268, 3) := by decide +kernel
theorem dX8_writeReadings_43 : decode cX8_writeReadings 43 = .ok (.invokevirtual 212, 3) := by decide +kernel
theorem dX8_writeReadings_46 : decode cX8_writeReadings 46 = .ok (.ireturn, 1) := by decide +kernel
set_option maxRecDepth 20000 in
theorem ggX8_outputByte_X8_in : GoodIn wsX8_outputByte wsX8_in := goodIn_r _ [6] (by decide +kernel) (by decide +kernel)
set_option maxRecDepth 20000 in
theorem gX8_outputByte_X8_in : GoodIn wsX8_outputByte (va_wsS RX8 56 yX8_in wsX8_in) := goodIn_app (goodIn_of _ (by decide +kernel)) ggX8_outputByte_X8_in
set_option maxRecDepth 20000 in
theorem ggX8_outputByte_X8_refuse : GoodIn wsX8_outputByte wsX8_refuse := goodIn_r _ [10, 11, 16, 17, 18, 19, 20, 21, 22, 23, 24, 25, 26, 27, 28, 29, 30, 31, 32, 33, 34, 35, 36, 37] (by decide +kernel) (by decide +kernel)
set_option maxRecDepth 20000 in
theorem gX8_outputByte_X8_refuse : GoodIn wsX8_outputByte (wsV RX8 206 RX8 yX8_refuse wsX8_refuse) := goodIn_app (goodIn_of _ (by decide +kernel)) ggX8_outputByte_X8_refuse
set_option maxRecDepth 20000 in
theorem ggX8_outputByte_X8_told : GoodIn wsX8_outputByte wsX8_told := goodIn_r _ [15, 11, 16, 17, 18, 19, 20, 21, 22, 23, 24, 25, 26, 27, 28, 29, 30, 31, 32, 33, 34, 35, 36, 37] (by decide +kernel) (by decide +kernel)
set_option maxRecDepth 20000 in
theorem gX8_outputByte_X8_told : GoodIn wsX8_outputByte (wsV RX8 212 RX8 yX8_told wsX8_told) := goodIn_app (goodIn_of _ (by decide +kernel)) ggX8_outputByte_X8_told
theorem dX8_outputByte_0 : decode cX8_outputByte 0 = .ok (.iload_n 1, 1) := by decide +kernel
theorem dX8_outputByte_1 : decode cX8_outputByte 1 = .ok (.iconst 0, 1) := by decide +kernel
theorem dX8_outputByte_2 : decode cX8_outputByte 2 = .ok (.aload_n 0, 1) := by decide +kernel
theorem dX8_outputByte_3 : decode cX8_outputByte 3 = .ok (.getfield 268, 3) := by decide +kernel
theorem dX8_outputByte_6 : decode cX8_outputByte 6 = .ok (.iconst 1, 1) := by decide +kernel
theorem dX8_outputByte_7 : decode cX8_outputByte 7 = .ok (.isub, 1) := by decide +kernel
theorem dX8_outputByte_8 : decode cX8_outputByte 8 = .ok (.invokestatic 56, 3) := by decide +kernel
theorem dX8_outputByte_11 : decode cX8_outputByte 11 = .ok (.ifCond .ne 9, 3) := by decide +kernel
theorem dX8_outputByte_14 : decode cX8_outputByte 14 = .ok (.aload_n 0, 1) := by decide +kernel
theorem dX8_outputByte_15 : decode cX8_outputByte 15 = .ok (.iconst 1, 1) := by decide +kernel
theorem dX8_outputByte_16 : decode cX8_outputByte 16 = .ok (.invokevirtual 206, 3) := by decide +kernel
theorem dX8_outputByte_19 : decode cX8_outputByte 19 = .ok (.ireturn, 1) := by decide +kernel
theorem dX8_outputByte_20 : decode cX8_outputByte 20 = .ok (.aload_n 0, 1) := by decide +kernel
theorem dX8_outputByte_21 : decode cX8_outputByte 21 = .ok (.aload_n 0, 1) := by decide +kernel
theorem dX8_outputByte_22 : decode cX8_outputByte 22 = .ok (.getfield 32, 3) := by decide +kernel
theorem dX8_outputByte_25 : decode cX8_outputByte 25 = .ok (.iload_n 1, 1) := by decide +kernel
theorem dX8_outputByte_26 : decode cX8_outputByte 26 = .ok (.baload, 1) := by decide +kernel
theorem dX8_outputByte_27 : decode cX8_outputByte 27 = .ok (.invokevirtual 212, 3) := by decide +kernel
theorem dX8_outputByte_30 : decode cX8_outputByte 30 = .ok (.ireturn, 1) := by decide +kernel
theorem dJ9_abs_0f7a4_0 : decode cJ9_abs_0f7a4 0 = .ok (.iload_n 0, 1) := by decide +kernel
theorem dJ9_abs_0f7a4_1 : decode cJ9_abs_0f7a4 1 = .ok (.ifCond .ge 8, 3) := by decide +kernel
theorem dJ9_abs_0f7a4_4 : decode cJ9_abs_0f7a4 4 = .ok (.iload_n 0, 1) := by decide +kernel
theorem dJ9_abs_0f7a4_5 : decode cJ9_abs_0f7a4 5 = .ok (.ineg, 1) := by decide +kernel
theorem dJ9_abs_0f7a4_6 : decode cJ9_abs_0f7a4 6 = .ok (.goto 4, 3) := by decide +kernel
theorem dJ9_abs_0f7a4_9 : decode cJ9_abs_0f7a4 9 = .ok (.iload_n 0, 1) := by decide +kernel
theorem dJ9_abs_0f7a4_10 : decode cJ9_abs_0f7a4 10 = .ok (.ireturn, 1) := by decide +kernel
theorem dJ9_max_7cf53_0 : decode cJ9_max_7cf53 0 = .ok (.iload_n 0, 1) := by decide +kernel
theorem dJ9_max_7cf53_1 : decode cJ9_max_7cf53 1 = .ok (.iload_n 1, 1) := by decide +kernel
theorem dJ9_max_7cf53_2 : decode cJ9_max_7cf53 2 = .ok (.if_icmp .lt 7, 3) := by decide +kernel
theorem dJ9_max_7cf53_5 : decode cJ9_max_7cf53 5 = .ok (.iload_n 0, 1) := by decide +kernel
theorem dJ9_max_7cf53_6 : decode cJ9_max_7cf53 6 = .ok (.goto 4, 3) := by decide +kernel
theorem dJ9_max_7cf53_9 : decode cJ9_max_7cf53 9 = .ok (.iload_n 1, 1) := by decide +kernel
theorem dJ9_max_7cf53_10 : decode cJ9_max_7cf53 10 = .ok (.ireturn, 1) := by decide +kernel
theorem dJ9_min_7cf53_0 : decode cJ9_min_7cf53 0 = .ok (.iload_n 0, 1) := by decide +kernel
theorem dJ9_min_7cf53_1 : decode cJ9_min_7cf53 1 = .ok (.iload_n 1, 1) := by decide +kernel
theorem dJ9_min_7cf53_2 : decode cJ9_min_7cf53 2 = .ok (.if_icmp .gt 7, 3) := by decide +kernel
theorem dJ9_min_7cf53_5 : decode cJ9_min_7cf53 5 = .ok (.iload_n 0, 1) := by decide +kernel
theorem dJ9_min_7cf53_6 : decode cJ9_min_7cf53 6 = .ok (.goto 4, 3) := by decide +kernel
theorem dJ9_min_7cf53_9 : decode cJ9_min_7cf53 9 = .ok (.iload_n 1, 1) := by decide +kernel
theorem dJ9_min_7cf53_10 : decode cJ9_min_7cf53 10 = .ok (.ireturn, 1) := by decide +kernel
set_option maxRecDepth 20000 in
theorem ggJ0_length_8abf5_J0_coder_7d493 : GoodIn wsJ0_length_8abf5 wsJ0_coder_7d493 := goodIn_r _ [6, 7, 8] (by decide +kernel) (by decide +kernel)
set_option maxRecDepth 20000 in
theorem gJ0_length_8abf5_J0_coder_7d493 : GoodIn wsJ0_length_8abf5 (wsV RJ0 335 RJ0 yJ0_coder_7d493 wsJ0_coder_7d493) := goodIn_app (goodIn_of _ (by decide +kernel)) ggJ0_length_8abf5_J0_coder_7d493
theorem dJ0_length_8abf5_0 : decode cJ0_length_8abf5 0 = .ok (.aload_n 0, 1) := by decide +kernel
theorem dJ0_length_8abf5_1 : decode cJ0_length_8abf5 1 = .ok (.getfield 9, 3) := by decide +kernel
theorem dJ0_length_8abf5_4 : decode cJ0_length_8abf5 4 = .ok (.arraylength, 1) := by decide +kernel
theorem dJ0_length_8abf5_5 : decode cJ0_length_8abf5 5 = .ok (.aload_n 0, 1) := by decide +kernel
theorem dJ0_length_8abf5_6 : decode cJ0_length_8abf5 6 = .ok (.invokevirtual 335, 3) := by decide +kernel
theorem dJ0_length_8abf5_9 : decode cJ0_length_8abf5 9 = .ok (.ishr, 1) := by decide +kernel
theorem dJ0_length_8abf5_10 : decode cJ0_length_8abf5 10 = .ok (.ireturn, 1) := by decide +kernel
set_option maxRecDepth 20000 in
theorem ggJ0_charAt_5068e_J0_isLatin1_aae02 : GoodIn wsJ0_charAt_5068e wsJ0_isLatin1_aae02 := goodIn_r _ [6, 7, 8] (by decide +kernel) (by decide +kernel)
set_option maxRecDepth 20000 in
theorem gJ0_charAt_5068e_J0_isLatin1_aae02 : GoodIn wsJ0_charAt_5068e (wsV RJ0 492 RJ0 yJ0_isLatin1_aae02 wsJ0_isLatin1_aae02) := goodIn_app (goodIn_of _ (by decide +kernel)) ggJ0_charAt_5068e_J0_isLatin1_aae02
set_option maxRecDepth 20000 in
theorem ggJ0_charAt_5068e_J1_charAt_3b067 : GoodIn wsJ0_charAt_5068e wsJ1_charAt_3b067 := goodIn_r _ [12, 13, 14, 5, 15, 16, 17, 18, 19, 20] (by decide +kernel) (by decide +kernel)
set_option maxRecDepth 20000 in
theorem gJ0_charAt_5068e_J1_charAt_3b067 : GoodIn wsJ0_charAt_5068e (va_wsS RJ0 495 yJ1_charAt_3b067 wsJ1_charAt_3b067) := goodIn_app (goodIn_of _ (by decide +kernel)) ggJ0_charAt_5068e_J1_charAt_3b067
set_option maxRecDepth 20000 in
theorem ggJ0_charAt_5068e_J2_charAt_3b067 : GoodIn wsJ0_charAt_5068e wsJ2_charAt_3b067 := goodIn_r _ [24, 25, 26, 23, 27, 28, 29, 30, 31, 14, 5, 15, 16, 17, 18, 19, 20, 32, 33, 34, 35, 36, 37] (by decide +kernel) (by decide +kernel)
set_option maxRecDepth 20000 in
theorem gJ0_charAt_5068e_J2_charAt_3b067 : GoodIn wsJ0_charAt_5068e (va_wsS RJ0 498 yJ2_charAt_3b067 wsJ2_charAt_3b067) := goodIn_app (goodIn_of _ (by decide +kernel)) ggJ0_charAt_5068e_J2_charAt_3b067
theorem dJ0_charAt_5068e_0 : decode cJ0_charAt_5068e 0 = .ok (.aload_n 0, 1) := by decide +kernel
theorem dJ0_charAt_5068e_1 : decode cJ0_charAt_5068e 1 = .ok (.invokevirtual 492, 3) := by decide +kernel
theorem dJ0_charAt_5068e_4 : decode cJ0_charAt_5068e 4 = .ok (.ifCond .eq 12, 3) := by decide +kernel
theorem dJ0_charAt_5068e_7 : decode cJ0_charAt_5068e 7 = .ok (.aload_n 0, 1) := by decide +kernel
theorem dJ0_charAt_5068e_8 : decode cJ0_charAt_5068e 8 = .ok (.getfield 9, 3) := by decide +kernel
theorem dJ0_charAt_5068e_11 : decode cJ0_charAt_5068e 11 = .ok (.iload_n 1, 1) := by decide +kernel
theorem dJ0_charAt_5068e_12 : decode cJ0_charAt_5068e 12 = .ok (.invokestatic 495, 3) := by decide +kernel
theorem dJ0_charAt_5068e_15 : decode cJ0_charAt_5068e 15 = .ok (.ireturn, 1) := by decide +kernel
theorem dJ0_charAt_5068e_16 : decode cJ0_charAt_5068e 16 = .ok (.aload_n 0, 1) := by decide +kernel
theorem dJ0_charAt_5068e_17 : decode cJ0_charAt_5068e 17 = .ok (.getfield 9, 3) := by decide +kernel
theorem dJ0_charAt_5068e_20 : decode cJ0_charAt_5068e 20 = .ok (.iload_n 1, 1) := by decide +kernel
theorem dJ0_charAt_5068e_21 : decode cJ0_charAt_5068e 21 = .ok (.invokestatic 498, 3) := by decide +kernel
theorem dJ0_charAt_5068e_24 : decode cJ0_charAt_5068e 24 = .ok (.ireturn, 1) := by decide +kernel
theorem dJ0_coder_7d493_0 : decode cJ0_coder_7d493 0 = .ok (.getstatic 38, 3) := by decide +kernel
theorem dJ0_coder_7d493_3 : decode cJ0_coder_7d493 3 = .ok (.ifCond .eq 10, 3) := by decide +kernel
theorem dJ0_coder_7d493_6 : decode cJ0_coder_7d493 6 = .ok (.aload_n 0, 1) := by decide +kernel
theorem dJ0_coder_7d493_7 : decode cJ0_coder_7d493 7 = .ok (.getfield 15, 3) := by decide +kernel
theorem dJ0_coder_7d493_10 : decode cJ0_coder_7d493 10 = .ok (.goto 4, 3) := by decide +kernel
theorem dJ0_coder_7d493_13 : decode cJ0_coder_7d493 13 = .ok (.iconst 1, 1) := by decide +kernel
theorem dJ0_coder_7d493_14 : decode cJ0_coder_7d493 14 = .ok (.ireturn, 1) := by decide +kernel
theorem dJ0_isLatin1_aae02_0 : decode cJ0_isLatin1_aae02 0 = .ok (.getstatic 38, 3) := by decide +kernel
theorem dJ0_isLatin1_aae02_3 : decode cJ0_isLatin1_aae02 3 = .ok (.ifCond .eq 14, 3) := by decide +kernel
theorem dJ0_isLatin1_aae02_6 : decode cJ0_isLatin1_aae02 6 = .ok (.aload_n 0, 1) := by decide +kernel
theorem dJ0_isLatin1_aae02_7 : decode cJ0_isLatin1_aae02 7 = .ok (.getfield 15, 3) := by decide +kernel
theorem dJ0_isLatin1_aae02_10 : decode cJ0_isLatin1_aae02 10 = .ok (.ifCond .ne 7, 3) := by decide +kernel
theorem dJ0_isLatin1_aae02_13 : decode cJ0_isLatin1_aae02 13 = .ok (.iconst 1, 1) := by decide +kernel
theorem dJ0_isLatin1_aae02_14 : decode cJ0_isLatin1_aae02 14 = .ok (.goto 4, 3) := by decide +kernel
theorem dJ0_isLatin1_aae02_17 : decode cJ0_isLatin1_aae02 17 = .ok (.iconst 0, 1) := by decide +kernel
theorem dJ0_isLatin1_aae02_18 : decode cJ0_isLatin1_aae02 18 = .ok (.ireturn, 1) := by decide +kernel
set_option maxRecDepth 20000 in
theorem ggJ0_checkIndex_df160_J3_checkIndex_8e157 : GoodIn wsJ0_checkIndex_df160 wsJ3_checkIndex_8e157 := goodIn_r _ [5] (by decide +kernel) (by decide +kernel)
set_option maxRecDepth 20000 in
theorem gJ0_checkIndex_df160_J3_checkIndex_8e157 : GoodIn wsJ0_checkIndex_df160 (va_wsS RJ0 1059 yJ3_checkIndex_8e157 wsJ3_checkIndex_8e157) := goodIn_app (goodIn_of _ (by decide +kernel)) ggJ0_checkIndex_df160_J3_checkIndex_8e157
theorem dJ0_checkIndex_df160_0 : decode cJ0_checkIndex_df160 0 = .ok (.iload_n 0, 1) := by decide +kernel
theorem dJ0_checkIndex_df160_1 : decode cJ0_checkIndex_df160 1 = .ok (.iload_n 1, 1) := by decide +kernel
theorem dJ0_checkIndex_df160_2 : decode cJ0_checkIndex_df160 2 = .ok (.getstatic 1053, 3) := by decide +kernel
theorem dJ0_checkIndex_df160_5 : decode cJ0_checkIndex_df160 5 = .ok (.invokestatic 1059, 3) := by decide +kernel
theorem dJ0_checkIndex_df160_8 : decode cJ0_checkIndex_df160 8 = .ok (.pop, 1) := by decide +kernel
theorem dJ0_checkIndex_df160_9 : decode cJ0_checkIndex_df160 9 = .ok (.return_, 1) := by decide +kernel
set_option maxRecDepth 20000 in
theorem ggJ1_charAt_3b067_J0_checkIndex_df160 : GoodIn wsJ1_charAt_3b067 wsJ0_checkIndex_df160 := goodIn_r _ [4, 5, 6, 7, 8, 9] (by decide +kernel) (by decide +kernel)
set_option maxRecDepth 20000 in
theorem gJ1_charAt_3b067_J0_checkIndex_df160 : GoodIn wsJ1_charAt_3b067 (va_wsS RJ1 9 yJ0_checkIndex_df160 wsJ0_checkIndex_df160) := goodIn_app (goodIn_of _ (by decide +kernel)) ggJ1_charAt_3b067_J0_checkIndex_df160
theorem dJ1_charAt_3b067_0 : decode cJ1_charAt_3b067 0 = .ok (.iload_n 1, 1) := by decide +kernel
theorem dJ1_charAt_3b067_1 : decode cJ1_charAt_3b067 1 = .ok (.aload_n 0, 1) := by decide +kernel
theorem dJ1_charAt_3b067_2 : decode cJ1_charAt_3b067 2 = .ok (.arraylength, 1) := by decide +kernel
theorem dJ1_charAt_3b067_3 : decode cJ1_charAt_3b067 3 = .ok (.invokestatic 9, 3) := by decide +kernel
theorem dJ1_charAt_3b067_6 : decode cJ1_charAt_3b067 6 = .ok (.aload_n 0, 1) := by decide +kernel
theorem dJ1_charAt_3b067_7 : decode cJ1_charAt_3b067 7 = .ok (.iload_n 1, 1) := by decide +kernel
theorem dJ1_charAt_3b067_8 : decode cJ1_charAt_3b067 8 = .ok (.baload, 1) := by decide +kernel
theorem dJ1_charAt_3b067_9 : decode cJ1_charAt_3b067 9 = .ok (.sipush 255, 3) := by decide +kernel
theorem dJ1_charAt_3b067_12 : decode cJ1_charAt_3b067 12 = .ok (.iand, 1) := by decide +kernel
theorem dJ1_charAt_3b067_13 : decode cJ1_charAt_3b067 13 = .ok (.i2c, 1) := by decide +kernel
theorem dJ1_charAt_3b067_14 : decode cJ1_charAt_3b067 14 = .ok (.ireturn, 1) := by decide +kernel
set_option maxRecDepth 20000 in
theorem ggJ2_getChar_3b067_J2_length_9d52b : GoodIn wsJ2_getChar_3b067 wsJ2_length_9d52b := goodIn_r _ [7] (by decide +kernel) (by decide +kernel)
set_option maxRecDepth 20000 in
theorem gJ2_getChar_3b067_J2_length_9d52b : GoodIn wsJ2_getChar_3b067 (va_wsS RJ2 48 yJ2_length_9d52b wsJ2_length_9d52b) := goodIn_app (goodIn_of _ (by decide +kernel)) ggJ2_getChar_3b067_J2_length_9d52b
theorem dJ2_getChar_3b067_0 : decode cJ2_getChar_3b067 0 = .ok (.getstatic 44, 3) := by decide +kernel
theorem dJ2_getChar_3b067_3 : decode cJ2_getChar_3b067 3 = .ok (.ifCond .ne 25, 3) := by decide +kernel
theorem dJ2_getChar_3b067_6 : decode cJ2_getChar_3b067 6 = .ok (.iload_n 1, 1) := by decide +kernel
theorem dJ2_getChar_3b067_7 : decode cJ2_getChar_3b067 7 = .ok (.ifCond .lt 11, 3) := by decide +kernel
theorem dJ2_getChar_3b067_10 : decode cJ2_getChar_3b067 10 = .ok (.iload_n 1, 1) := by decide +kernel
theorem dJ2_getChar_3b067_11 : decode cJ2_getChar_3b067 11 = .ok (.aload_n 0, 1) := by decide +kernel
theorem dJ2_getChar_3b067_12 : decode cJ2_getChar_3b067 12 = .ok (.invokestatic 48, 3) := by decide +kernel
theorem dJ2_getChar_3b067_15 : decode cJ2_getChar_3b067 15 = .ok (.if_icmp .lt 13, 3) := by decide +kernel
theorem dJ2_getChar_3b067_18 : decode cJ2_getChar_3b067 18 = .ok (.new 52, 3) := by decide +kernel
theorem dJ2_getChar_3b067_21 : decode cJ2_getChar_3b067 21 = .ok (.dup, 1) := by decide +kernel
theorem dJ2_getChar_3b067_22 : decode cJ2_getChar_3b067 22 = .ok (.ldc 54, 2) := by decide +kernel
theorem dJ2_getChar_3b067_24 : decode cJ2_getChar_3b067 24 = .ok (.invokespecial 56, 3) := by decide +kernel
theorem dJ2_getChar_3b067_27 : decode cJ2_getChar_3b067 27 = .ok (.athrow, 1) := by decide +kernel
theorem dJ2_getChar_3b067_28 : decode cJ2_getChar_3b067 28 = .ok (.iload_n 1, 1) := by decide +kernel
theorem dJ2_getChar_3b067_29 : decode cJ2_getChar_3b067 29 = .ok (.iconst 1, 1) := by decide +kernel
theorem dJ2_getChar_3b067_30 : decode cJ2_getChar_3b067 30 = .ok (.ishl, 1) := by decide +kernel
theorem dJ2_getChar_3b067_31 : decode cJ2_getChar_3b067 31 = .ok (.istore_n 1, 1) := by decide +kernel
theorem dJ2_getChar_3b067_32 : decode cJ2_getChar_3b067 32 = .ok (.aload_n 0, 1) := by decide +kernel
theorem dJ2_getChar_3b067_33 : decode cJ2_getChar_3b067 33 = .ok (.iload_n 1, 1) := by decide +kernel
theorem dJ2_getChar_3b067_34 : decode cJ2_getChar_3b067 34 = .ok (.iinc 1 1, 3) := by decide +kernel
theorem dJ2_getChar_3b067_37 : decode cJ2_getChar_3b067 37 = .ok (.baload, 1) := by decide +kernel
theorem dJ2_getChar_3b067_38 : decode cJ2_getChar_3b067 38 = .ok (.sipush 255, 3) := by decide +kernel
theorem dJ2_getChar_3b067_41 : decode cJ2_getChar_3b067 41 = .ok (.iand, 1) := by decide +kernel
theorem dJ2_getChar_3b067_42 : decode cJ2_getChar_3b067 42 = .ok (.getstatic 59, 3) := by decide +kernel
theorem dJ2_getChar_3b067_45 : decode cJ2_getChar_3b067 45 = .ok (.ishl, 1) := by decide +kernel
theorem dJ2_getChar_3b067_46 : decode cJ2_getChar_3b067 46 = .ok (.aload_n 0, 1) := by decide +kernel
theorem dJ2_getChar_3b067_47 : decode cJ2_getChar_3b067 47 = .ok (.iload_n 1, 1) := by decide +kernel
theorem dJ2_getChar_3b067_48 : decode cJ2_getChar_3b067 48 = .ok (.baload, 1) := by decide +kernel
theorem dJ2_getChar_3b067_49 : decode cJ2_getChar_3b067 49 = .ok (.sipush 255, 3) := by decide +kernel
theorem dJ2_getChar_3b067_52 : decode cJ2_getChar_3b067 52 = .ok (.iand, 1) := by decide +kernel
theorem dJ2_getChar_3b067_53 : decode cJ2_getChar_3b067 53 = .ok (.getstatic 63, 3) := by decide +kernel
theorem dJ2_getChar_3b067_56 : decode cJ2_getChar_3b067 56 = .ok (.ishl, 1) := by decide +kernel
theorem dJ2_getChar_3b067_57 : decode cJ2_getChar_3b067 57 = .ok (.ior, 1) := by decide +kernel
theorem dJ2_getChar_3b067_58 : decode cJ2_getChar_3b067 58 = .ok (.i2c, 1) := by decide +kernel
theorem dJ2_getChar_3b067_59 : decode cJ2_getChar_3b067 59 = .ok (.ireturn, 1) := by decide +kernel
theorem dJ2_length_9d52b_0 : decode cJ2_length_9d52b 0 = .ok (.aload_n 0, 1) := by decide +kernel
theorem dJ2_length_9d52b_1 : decode cJ2_length_9d52b 1 = .ok (.arraylength, 1) := by decide +kernel
theorem dJ2_length_9d52b_2 : decode cJ2_length_9d52b 2 = .ok (.iconst 1, 1) := by decide +kernel
theorem dJ2_length_9d52b_3 : decode cJ2_length_9d52b 3 = .ok (.ishr, 1) := by decide +kernel
theorem dJ2_length_9d52b_4 : decode cJ2_length_9d52b 4 = .ok (.ireturn, 1) := by decide +kernel
set_option maxRecDepth 20000 in
theorem ggJ2_charAt_3b067_J2_checkIndex_2214a : GoodIn wsJ2_charAt_3b067 wsJ2_checkIndex_2214a := goodIn_r _ [4, 5, 6, 3, 7, 8, 9, 10, 11, 12, 13, 14, 15, 16] (by decide +kernel) (by decide +kernel)
set_option maxRecDepth 20000 in
theorem gJ2_charAt_3b067_J2_checkIndex_2214a : GoodIn wsJ2_charAt_3b067 (va_wsS RJ2 67 yJ2_checkIndex_2214a wsJ2_checkIndex_2214a) := goodIn_app (goodIn_of _ (by decide +kernel)) ggJ2_charAt_3b067_J2_checkIndex_2214a
set_option maxRecDepth 20000 in
theorem ggJ2_charAt_3b067_J2_getChar_3b067 : GoodIn wsJ2_charAt_3b067 wsJ2_getChar_3b067 := goodIn_r _ [19, 20, 21, 22, 5, 6, 3, 7] (by decide +kernel) (by decide +kernel)
set_option maxRecDepth 20000 in
theorem gJ2_charAt_3b067_J2_getChar_3b067 : GoodIn wsJ2_charAt_3b067 (va_wsS RJ2 71 yJ2_getChar_3b067 wsJ2_getChar_3b067) := goodIn_app (goodIn_of _ (by decide +kernel)) ggJ2_charAt_3b067_J2_getChar_3b067
theorem dJ2_charAt_3b067_0 : decode cJ2_charAt_3b067 0 = .ok (.iload_n 1, 1) := by decide +kernel
theorem dJ2_charAt_3b067_1 : decode cJ2_charAt_3b067 1 = .ok (.aload_n 0, 1) := by decide +kernel
theorem dJ2_charAt_3b067_2 : decode cJ2_charAt_3b067 2 = .ok (.invokestatic 67, 3) := by decide +kernel
theorem dJ2_charAt_3b067_5 : decode cJ2_charAt_3b067 5 = .ok (.aload_n 0, 1) := by decide +kernel
theorem dJ2_charAt_3b067_6 : decode cJ2_charAt_3b067 6 = .ok (.iload_n 1, 1) := by decide +kernel
theorem dJ2_charAt_3b067_7 : decode cJ2_charAt_3b067 7 = .ok (.invokestatic 71, 3) := by decide +kernel
theorem dJ2_charAt_3b067_10 : decode cJ2_charAt_3b067 10 = .ok (.ireturn, 1) := by decide +kernel
set_option maxRecDepth 20000 in
theorem ggJ2_checkIndex_2214a_J2_length_9d52b : GoodIn wsJ2_checkIndex_2214a wsJ2_length_9d52b := goodIn_r _ [4] (by decide +kernel) (by decide +kernel)
set_option maxRecDepth 20000 in
theorem gJ2_checkIndex_2214a_J2_length_9d52b : GoodIn wsJ2_checkIndex_2214a (va_wsS RJ2 48 yJ2_length_9d52b wsJ2_length_9d52b) := goodIn_app (goodIn_of _ (by decide +kernel)) ggJ2_checkIndex_2214a_J2_length_9d52b
set_option maxRecDepth 20000 in
theorem ggJ2_checkIndex_2214a_J0_checkIndex_df160 : GoodIn wsJ2_checkIndex_2214a wsJ0_checkIndex_df160 := goodIn_r _ [8, 9, 10, 11, 12, 13] (by decide +kernel) (by decide +kernel)
set_option maxRecDepth 20000 in
theorem gJ2_checkIndex_2214a_J0_checkIndex_df160 : GoodIn wsJ2_checkIndex_2214a (va_wsS RJ2 414 yJ0_checkIndex_df160 wsJ0_checkIndex_df160) := goodIn_app (goodIn_of _ (by decide +kernel)) ggJ2_checkIndex_2214a_J0_checkIndex_df160
theorem dJ2_checkIndex_2214a_0 : decode cJ2_checkIndex_2214a 0 = .ok (.iload_n 0, 1) := by decide +kernel
theorem dJ2_checkIndex_2214a_1 : decode cJ2_checkIndex_2214a 1 = .ok (.aload_n 1, 1) := by decide +kernel
theorem dJ2_checkIndex_2214a_2 : decode cJ2_checkIndex_2214a 2 = .ok (.invokestatic 48, 3) := by decide +kernel
theorem dJ2_checkIndex_2214a_5 : decode cJ2_checkIndex_2214a 5 = .ok (.invokestatic 414, 3) := by decide +kernel
theorem dJ2_checkIndex_2214a_8 : decode cJ2_checkIndex_2214a 8 = .ok (.return_, 1) := by decide +kernel
theorem dJ3_checkIndex_8e157_0 : decode cJ3_checkIndex_8e157 0 = .ok (.iload_n 0, 1) := by decide +kernel
theorem dJ3_checkIndex_8e157_1 : decode cJ3_checkIndex_8e157 1 = .ok (.ifCond .lt 8, 3) := by decide +kernel
theorem dJ3_checkIndex_8e157_4 : decode cJ3_checkIndex_8e157 4 = .ok (.iload_n 0, 1) := by decide +kernel
theorem dJ3_checkIndex_8e157_5 : decode cJ3_checkIndex_8e157 5 = .ok (.iload_n 1, 1) := by decide +kernel
theorem dJ3_checkIndex_8e157_6 : decode cJ3_checkIndex_8e157 6 = .ok (.if_icmp .lt 10, 3) := by decide +kernel
theorem dJ3_checkIndex_8e157_9 : decode cJ3_checkIndex_8e157 9 = .ok (.aload_n 2, 1) := by decide +kernel
theorem dJ3_checkIndex_8e157_10 : decode cJ3_checkIndex_8e157 10 = .ok (.iload_n 0, 1) := by decide +kernel
theorem dJ3_checkIndex_8e157_11 : decode cJ3_checkIndex_8e157 11 = .ok (.iload_n 1, 1) := by decide +kernel
theorem dJ3_checkIndex_8e157_12 : decode cJ3_checkIndex_8e157 12 = .ok (.invokestatic 95, 3) := by decide +kernel
theorem dJ3_checkIndex_8e157_15 : decode cJ3_checkIndex_8e157 15 = .ok (.athrow, 1) := by decide +kernel
theorem dJ3_checkIndex_8e157_16 : decode cJ3_checkIndex_8e157 16 = .ok (.iload_n 0, 1) := by decide +kernel
theorem dJ3_checkIndex_8e157_17 : decode cJ3_checkIndex_8e157 17 = .ok (.ireturn, 1) := by decide +kernel
set_option maxRecDepth 20000 in
theorem ggL_append_X7_append : GoodIn wsL_append wsX7_append := goodIn_ca (goodIn_r _ [6, 7, 8, 9, 10, 11, 12, 13, 14, 15, 16, 17, 18, 19, 20, 21, 22, 23, 24, 25, 26, 27, 28, 29, 30, 31, 32, 33, 34] (by decide +kernel) (by decide +kernel)) (goodIn_sub (fun _ h => List.mem_cons_of_mem _ (List.mem_append_right _ h)) (by decide +kernel))
set_option maxRecDepth 20000 in
theorem gL_append_X7_append : GoodIn wsL_append (wsV RL 7 RX7 yX7_append wsX7_append) := goodIn_app (goodIn_of _ (by decide +kernel)) ggL_append_X7_append
theorem dL_append_0 : decode cL_append 0 = .ok (.aload 6, 2) := by decide +kernel
theorem dL_append_2 : decode cL_append 2 = .ok (.iconst 0, 1) := by decide +kernel
theorem dL_append_3 : decode cL_append 3 = .ok (.aload_n 0, 1) := by decide +kernel
theorem dL_append_4 : decode cL_append 4 = .ok (.iload_n 1, 1) := by decide +kernel
theorem dL_append_5 : decode cL_append 5 = .ok (.iload_n 2, 1) := by decide +kernel
theorem dL_append_6 : decode cL_append 6 = .ok (.iload_n 3, 1) := by decide +kernel
theorem dL_append_7 : decode cL_append 7 = .ok (.iload 4, 2) := by decide +kernel
theorem dL_append_9 : decode cL_append 9 = .ok (.iload 5, 2) := by decide +kernel
theorem dL_append_11 : decode cL_append 11 = .ok (.invokevirtual 7, 3) := by decide +kernel
theorem dL_append_14 : decode cL_append 14 = .ok (.i2l, 1) := by decide +kernel
theorem dL_append_15 : decode cL_append 15 = .ok (.lastore, 1) := by decide +kernel
theorem dL_append_16 : decode cL_append 16 = .ok (.goto 7, 3) := by decide +kernel
theorem dL_append_19 : decode cL_append 19 = .ok (.astore 7, 2) := by decide +kernel
theorem dL_append_21 : decode cL_append 21 = .ok (.iconst 1, 1) := by decide +kernel
theorem dL_append_22 : decode cL_append 22 = .ok (.ireturn, 1) := by decide +kernel
theorem dL_append_23 : decode cL_append 23 = .ok (.iconst 0, 1) := by decide +kernel
theorem dL_append_24 : decode cL_append 24 = .ok (.ireturn, 1) := by decide +kernel
set_option maxRecDepth 20000 in
theorem ggL_load_X7_load : GoodIn wsL_load wsX7_load := goodIn_ca (goodIn_ca (goodIn_r _ [7, 8, 9, 10, 11, 12, 13, 14, 15, 16, 17, 18, 19, 20, 21, 22, 23, 24, 25, 26, 27, 28, 29, 30, 31, 32, 33, 34, 35, 36, 37, 38, 39, 40, 41, 42, 43, 44, 45, 46, 47, 48, 49, 50, 51, 52, 53, 54, 55, 56, 57, 58, 59, 60, 61, 62, 63, 64, 65, 66, 67, 68, 69, 70, 71, 72, 73, 74, 75, 76, 77, 78, 79, 80, 81, 82, 83, 84, 85, 86, 87, 88, 89, 90, 91, 92, 93, 94, 95, 96, 97, 98, 99, 100, 101, 102, 103, 104, 105, 106, 107, 108, 109, 110, 111, 112, 113, 114, 115, 116, 117, 118, 119, 120, 121, 122, 123, 124, 125, 126, 127, 128, 129, 130, 131, 132, 133, 134, 135, 136, 137, 138, 139, 140, 141, 142, 143, 144, 145, 146, 147, 148, 149, 150, 151, 152, 153, 154, 155, 156, 157, 158, 159, 160, 161, 162, 163, 164, 165, 166, 167, 168, 169, 170, 171, 172, 173, 174, 175, 176, 177, 178, 179, 180, 181, 182, 183, 184, 185, 186, 187, 188, 189, 190, 191, 192, 193, 194, 195, 196, 197, 198, 199, 200, 201, 202, 203, 204, 205, 206, 207, 208, 209, 210, 211, 212, 213, 214, 215, 216, 217, 218, 219, 220, 221, 222, 223, 224, 225, 226, 227, 228, 229, 230, 231, 232, 233, 234, 235, 236, 237, 238, 239, 240, 6, 241, 242, 243, 244, 245, 246, 247, 248, 249, 250, 251, 252, 253, 254, 255, 256, 257, 258, 259, 260, 261, 262, 263, 264, 265, 266, 267, 268, 269, 270, 271, 272, 273, 274, 275, 276, 277, 278, 279, 280, 281, 282, 283, 284, 285, 286, 287, 288, 289, 290, 291, 292, 293, 294, 295, 296, 297, 298, 299, 300, 301, 302, 303, 304, 305, 306, 307, 308, 309, 310, 311, 312, 313, 314, 315, 316, 317, 318, 319, 320] (by decide +kernel) (by decide +kernel)) (goodIn_sub (fun _ h => List.mem_cons_of_mem _ (List.mem_append_left _ (List.mem_append_right _ h))) (by decide +kernel))) (goodIn_sub (fun _ h => List.mem_cons_of_mem _ (List.mem_append_right _ h)) (by decide +kernel))
set_option maxRecDepth 20000 in
theorem gL_load_X7_load : GoodIn wsL_load (wsV RL 15 RX7 yX7_load wsX7_load) := goodIn_app (goodIn_of _ (by decide +kernel)) ggL_load_X7_load
theorem dL_load_0 : decode cL_load 0 = .ok (.aload_n 2, 1) := by decide +kernel
theorem dL_load_1 : decode cL_load 1 = .ok (.iconst 0, 1) := by decide +kernel
theorem dL_load_2 : decode cL_load 2 = .ok (.aload_n 0, 1) := by decide +kernel
theorem dL_load_3 : decode cL_load 3 = .ok (.iload_n 1, 1) := by decide +kernel
theorem dL_load_4 : decode cL_load 4 = .ok (.invokevirtual 15, 3) := by decide +kernel
theorem dL_load_7 : decode cL_load 7 = .ok (.i2l, 1) := by decide +kernel
theorem dL_load_8 : decode cL_load 8 = .ok (.lastore, 1) := by decide +kernel
theorem dL_load_9 : decode cL_load 9 = .ok (.goto 9, 3) := by decide +kernel
theorem dL_load_12 : decode cL_load 12 = .ok (.astore_n 3, 1) := by decide +kernel
theorem dL_load_13 : decode cL_load 13 = .ok (.iconst 1, 1) := by decide +kernel
theorem dL_load_14 : decode cL_load 14 = .ok (.ireturn, 1) := by decide +kernel
theorem dL_load_15 : decode cL_load 15 = .ok (.astore_n 3, 1) := by decide +kernel
theorem dL_load_16 : decode cL_load 16 = .ok (.iconst 2, 1) := by decide +kernel
theorem dL_load_17 : decode cL_load 17 = .ok (.ireturn, 1) := by decide +kernel
theorem dL_load_18 : decode cL_load 18 = .ok (.iconst 0, 1) := by decide +kernel
theorem dL_load_19 : decode cL_load 19 = .ok (.ireturn, 1) := by decide +kernel
set_option maxRecDepth 20000 in
theorem ggL_fixedPoint_X7_fixedPoint : GoodIn wsL_fixedPoint wsX7_fixedPoint := goodIn_ca (goodIn_r _ [6, 7, 8, 9, 10, 5, 11, 12, 13, 14, 15] (by decide +kernel) (by decide +kernel)) (goodIn_sub (fun _ h => List.mem_cons_of_mem _ (List.mem_append_right _ h)) (by decide +kernel))
set_option maxRecDepth 20000 in
theorem gL_fixedPoint_X7_fixedPoint : GoodIn wsL_fixedPoint (wsV RL 23 RX7 yX7_fixedPoint wsX7_fixedPoint) := goodIn_app (goodIn_of _ (by decide +kernel)) ggL_fixedPoint_X7_fixedPoint
theorem dL_fixedPoint_0 : decode cL_fixedPoint 0 = .ok (.aload_n 2, 1) := by decide +kernel
theorem dL_fixedPoint_1 : decode cL_fixedPoint 1 = .ok (.iconst 0, 1) := by decide +kernel
theorem dL_fixedPoint_2 : decode cL_fixedPoint 2 = .ok (.aload_n 0, 1) := by decide +kernel
theorem dL_fixedPoint_3 : decode cL_fixedPoint 3 = .ok (.iload_n 1, 1) := by decide +kernel
theorem dL_fixedPoint_4 : decode cL_fixedPoint 4 = .ok (.invokevirtual 23, 3) := by decide +kernel
theorem dL_fixedPoint_7 : decode cL_fixedPoint 7 = .ok (.i2l, 1) := by decide +kernel
theorem dL_fixedPoint_8 : decode cL_fixedPoint 8 = .ok (.lastore, 1) := by decide +kernel
theorem dL_fixedPoint_9 : decode cL_fixedPoint 9 = .ok (.goto 6, 3) := by decide +kernel
theorem dL_fixedPoint_12 : decode cL_fixedPoint 12 = .ok (.astore_n 3, 1) := by decide +kernel
theorem dL_fixedPoint_13 : decode cL_fixedPoint 13 = .ok (.iconst 1, 1) := by decide +kernel
theorem dL_fixedPoint_14 : decode cL_fixedPoint 14 = .ok (.ireturn, 1) := by decide +kernel
theorem dL_fixedPoint_15 : decode cL_fixedPoint 15 = .ok (.iconst 0, 1) := by decide +kernel
theorem dL_fixedPoint_16 : decode cL_fixedPoint 16 = .ok (.ireturn, 1) := by decide +kernel
set_option maxRecDepth 20000 in
theorem ggL_isHair_X7_isHair : GoodIn wsL_isHair wsX7_isHair := goodIn_ca (goodIn_r _ [6, 7, 8, 9, 10, 5, 11, 12, 13, 14, 15, 16, 17, 18, 19, 20, 21, 22, 23, 24, 25, 26, 27, 28, 29, 30, 31, 32, 33, 34, 35, 36, 37, 38, 39, 40, 41, 42, 43, 44] (by decide +kernel) (by decide +kernel)) (goodIn_sub (fun _ h => List.mem_cons_of_mem _ (List.mem_append_right _ h)) (by decide +kernel))
set_option maxRecDepth 20000 in
theorem gL_isHair_X7_isHair : GoodIn wsL_isHair (wsV RL 26 RX7 yX7_isHair wsX7_isHair) := goodIn_app (goodIn_of _ (by decide +kernel)) ggL_isHair_X7_isHair
theorem dL_isHair_0 : decode cL_isHair 0 = .ok (.aload_n 2, 1) := by decide +kernel
theorem dL_isHair_1 : decode cL_isHair 1 = .ok (.iconst 0, 1) := by decide +kernel
theorem dL_isHair_2 : decode cL_isHair 2 = .ok (.aload_n 0, 1) := by decide +kernel
theorem dL_isHair_3 : decode cL_isHair 3 = .ok (.iload_n 1, 1) := by decide +kernel
theorem dL_isHair_4 : decode cL_isHair 4 = .ok (.invokevirtual 26, 3) := by decide +kernel
theorem dL_isHair_7 : decode cL_isHair 7 = .ok (.ifCond .eq 7, 3) := by decide +kernel
theorem dL_isHair_10 : decode cL_isHair 10 = .ok (.lconst 1, 1) := by decide +kernel
theorem dL_isHair_11 : decode cL_isHair 11 = .ok (.goto 4, 3) := by decide +kernel
theorem dL_isHair_14 : decode cL_isHair 14 = .ok (.lconst 0, 1) := by decide +kernel
theorem dL_isHair_15 : decode cL_isHair 15 = .ok (.lastore, 1) := by decide +kernel
theorem dL_isHair_16 : decode cL_isHair 16 = .ok (.goto 6, 3) := by decide +kernel
theorem dL_isHair_19 : decode cL_isHair 19 = .ok (.astore_n 3, 1) := by decide +kernel
theorem dL_isHair_20 : decode cL_isHair 20 = .ok (.iconst 1, 1) := by decide +kernel
theorem dL_isHair_21 : decode cL_isHair 21 = .ok (.ireturn, 1) := by decide +kernel
theorem dL_isHair_22 : decode cL_isHair 22 = .ok (.iconst 0, 1) := by decide +kernel
theorem dL_isHair_23 : decode cL_isHair 23 = .ok (.ireturn, 1) := by decide +kernel
set_option maxRecDepth 20000 in
theorem ggL_hairsOf_X7_hairsOf : GoodIn wsL_hairsOf wsX7_hairsOf := goodIn_ca (goodIn_r _ [6, 7, 8, 9, 10, 11, 5, 12, 13, 14, 15, 16, 17, 18, 19, 20, 21, 22, 23, 24, 25, 26, 27, 28, 29, 30, 31, 32, 33, 34, 35, 36, 37, 38, 39, 40, 41, 42, 43, 44, 45] (by decide +kernel) (by decide +kernel)) (goodIn_sub (fun _ h => List.mem_cons_of_mem _ (List.mem_append_right _ h)) (by decide +kernel))
set_option maxRecDepth 20000 in
theorem gL_hairsOf_X7_hairsOf : GoodIn wsL_hairsOf (wsV RL 30 RX7 yX7_hairsOf wsX7_hairsOf) := goodIn_app (goodIn_of _ (by decide +kernel)) ggL_hairsOf_X7_hairsOf
theorem dL_hairsOf_0 : decode cL_hairsOf 0 = .ok (.aload_n 2, 1) := by decide +kernel
theorem dL_hairsOf_1 : decode cL_hairsOf 1 = .ok (.iconst 0, 1) := by decide +kernel
theorem dL_hairsOf_2 : decode cL_hairsOf 2 = .ok (.aload_n 0, 1) := by decide +kernel
theorem dL_hairsOf_3 : decode cL_hairsOf 3 = .ok (.iload_n 1, 1) := by decide +kernel
theorem dL_hairsOf_4 : decode cL_hairsOf 4 = .ok (.invokevirtual 30, 3) := by decide +kernel
theorem dL_hairsOf_7 : decode cL_hairsOf 7 = .ok (.i2l, 1) := by decide +kernel
theorem dL_hairsOf_8 : decode cL_hairsOf 8 = .ok (.lastore, 1) := by decide +kernel
theorem dL_hairsOf_9 : decode cL_hairsOf 9 = .ok (.goto 6, 3) := by decide +kernel
theorem dL_hairsOf_12 : decode cL_hairsOf 12 = .ok (.astore_n 3, 1) := by decide +kernel
theorem dL_hairsOf_13 : decode cL_hairsOf 13 = .ok (.iconst 1, 1) := by decide +kernel
theorem dL_hairsOf_14 : decode cL_hairsOf 14 = .ok (.ireturn, 1) := by decide +kernel
theorem dL_hairsOf_15 : decode cL_hairsOf 15 = .ok (.iconst 0, 1) := by decide +kernel
theorem dL_hairsOf_16 : decode cL_hairsOf 16 = .ok (.ireturn, 1) := by decide +kernel
set_option maxRecDepth 20000 in
theorem ggL_brokenOf_X7_brokenOf : GoodIn wsL_brokenOf wsX7_brokenOf := goodIn_ca (goodIn_r _ [6, 7, 8, 9, 10, 11, 5, 12, 13, 14, 15, 16, 17, 18, 19, 20, 21, 22, 23, 24, 25, 26, 27, 28, 29, 30, 31, 32, 33, 34, 35, 36, 37, 38, 39, 40, 41, 42, 43, 44, 45] (by decide +kernel) (by decide +kernel)) (goodIn_sub (fun _ h => List.mem_cons_of_mem _ (List.mem_append_right _ h)) (by decide +kernel))
set_option maxRecDepth 20000 in
theorem gL_brokenOf_X7_brokenOf : GoodIn wsL_brokenOf (wsV RL 33 RX7 yX7_brokenOf wsX7_brokenOf) := goodIn_app (goodIn_of _ (by decide +kernel)) ggL_brokenOf_X7_brokenOf
theorem dL_brokenOf_0 : decode cL_brokenOf 0 = .ok (.aload_n 2, 1) := by decide +kernel
theorem dL_brokenOf_1 : decode cL_brokenOf 1 = .ok (.iconst 0, 1) := by decide +kernel
theorem dL_brokenOf_2 : decode cL_brokenOf 2 = .ok (.aload_n 0, 1) := by decide +kernel
theorem dL_brokenOf_3 : decode cL_brokenOf 3 = .ok (.iload_n 1, 1) := by decide +kernel
theorem dL_brokenOf_4 : decode cL_brokenOf 4 = .ok (.invokevirtual 33, 3) := by decide +kernel
theorem dL_brokenOf_7 : decode cL_brokenOf 7 = .ok (.i2l, 1) := by decide +kernel
theorem dL_brokenOf_8 : decode cL_brokenOf 8 = .ok (.lastore, 1) := by decide +kernel
theorem dL_brokenOf_9 : decode cL_brokenOf 9 = .ok (.goto 6, 3) := by decide +kernel
theorem dL_brokenOf_12 : decode cL_brokenOf 12 = .ok (.astore_n 3, 1) := by decide +kernel
theorem dL_brokenOf_13 : decode cL_brokenOf 13 = .ok (.iconst 1, 1) := by decide +kernel
theorem dL_brokenOf_14 : decode cL_brokenOf 14 = .ok (.ireturn, 1) := by decide +kernel
theorem dL_brokenOf_15 : decode cL_brokenOf 15 = .ok (.iconst 0, 1) := by decide +kernel
theorem dL_brokenOf_16 : decode cL_brokenOf 16 = .ok (.ireturn, 1) := by decide +kernel
set_option maxRecDepth 20000 in
theorem ggL_wetnessOf_X7_wetnessOf : GoodIn wsL_wetnessOf wsX7_wetnessOf := goodIn_ca (goodIn_r _ [6, 7, 8, 9, 10, 11, 5, 12, 13, 14, 15, 16, 17, 18, 19, 20, 21, 22, 23, 24, 25, 26, 27, 28, 29, 30, 31, 32, 33, 34, 35, 36, 37, 38, 39, 40, 41, 42, 43, 44, 45] (by decide +kernel) (by decide +kernel)) (goodIn_sub (fun _ h => List.mem_cons_of_mem _ (List.mem_append_right _ h)) (by decide +kernel))
set_option maxRecDepth 20000 in
theorem gL_wetnessOf_X7_wetnessOf : GoodIn wsL_wetnessOf (wsV RL 36 RX7 yX7_wetnessOf wsX7_wetnessOf) := goodIn_app (goodIn_of _ (by decide +kernel)) ggL_wetnessOf_X7_wetnessOf
theorem dL_wetnessOf_0 : decode cL_wetnessOf 0 = .ok (.aload_n 2, 1) := by decide +kernel
theorem dL_wetnessOf_1 : decode cL_wetnessOf 1 = .ok (.iconst 0, 1) := by decide +kernel
theorem dL_wetnessOf_2 : decode cL_wetnessOf 2 = .ok (.aload_n 0, 1) := by decide +kernel
theorem dL_wetnessOf_3 : decode cL_wetnessOf 3 = .ok (.iload_n 1, 1) := by decide +kernel
theorem dL_wetnessOf_4 : decode cL_wetnessOf 4 = .ok (.invokevirtual 36, 3) := by decide +kernel
theorem dL_wetnessOf_7 : decode cL_wetnessOf 7 = .ok (.i2l, 1) := by decide +kernel
theorem dL_wetnessOf_8 : decode cL_wetnessOf 8 = .ok (.lastore, 1) := by decide +kernel
theorem dL_wetnessOf_9 : decode cL_wetnessOf 9 = .ok (.goto 6, 3) := by decide +kernel
theorem dL_wetnessOf_12 : decode cL_wetnessOf 12 = .ok (.astore_n 3, 1) := by decide +kernel
theorem dL_wetnessOf_13 : decode cL_wetnessOf 13 = .ok (.iconst 1, 1) := by decide +kernel
theorem dL_wetnessOf_14 : decode cL_wetnessOf 14 = .ok (.ireturn, 1) := by decide +kernel
theorem dL_wetnessOf_15 : decode cL_wetnessOf 15 = .ok (.iconst 0, 1) := by decide +kernel
theorem dL_wetnessOf_16 : decode cL_wetnessOf 16 = .ok (.ireturn, 1) := by decide +kernel
set_option maxRecDepth 20000 in
theorem ggL_slackOf_X7_slackOf : GoodIn wsL_slackOf wsX7_slackOf := goodIn_ca (goodIn_r _ [6, 7, 8, 9, 10, 11, 5, 12, 13, 14, 15, 16, 17, 18, 19, 20, 21, 22, 23, 24, 25, 26, 27, 28, 29, 30, 31, 32, 33, 34, 35, 36, 37, 38, 39, 40, 41, 42, 43, 44, 45] (by decide +kernel) (by decide +kernel)) (goodIn_sub (fun _ h => List.mem_cons_of_mem _ (List.mem_append_right _ h)) (by decide +kernel))
set_option maxRecDepth 20000 in
theorem gL_slackOf_X7_slackOf : GoodIn wsL_slackOf (wsV RL 39 RX7 yX7_slackOf wsX7_slackOf) := goodIn_app (goodIn_of _ (by decide +kernel)) ggL_slackOf_X7_slackOf
theorem dL_slackOf_0 : decode cL_slackOf 0 = .ok (.aload_n 2, 1) := by decide +kernel
theorem dL_slackOf_1 : decode cL_slackOf 1 = .ok (.iconst 0, 1) := by decide +kernel
theorem dL_slackOf_2 : decode cL_slackOf 2 = .ok (.aload_n 0, 1) := by decide +kernel
theorem dL_slackOf_3 : decode cL_slackOf 3 = .ok (.iload_n 1, 1) := by decide +kernel
theorem dL_slackOf_4 : decode cL_slackOf 4 = .ok (.invokevirtual 39, 3) := by decide +kernel
theorem dL_slackOf_7 : decode cL_slackOf 7 = .ok (.i2l, 1) := by decide +kernel
theorem dL_slackOf_8 : decode cL_slackOf 8 = .ok (.lastore, 1) := by decide +kernel
theorem dL_slackOf_9 : decode cL_slackOf 9 = .ok (.goto 6, 3) := by decide +kernel
theorem dL_slackOf_12 : decode cL_slackOf 12 = .ok (.astore_n 3, 1) := by decide +kernel
theorem dL_slackOf_13 : decode cL_slackOf 13 = .ok (.iconst 1, 1) := by decide +kernel
theorem dL_slackOf_14 : decode cL_slackOf 14 = .ok (.ireturn, 1) := by decide +kernel
theorem dL_slackOf_15 : decode cL_slackOf 15 = .ok (.iconst 0, 1) := by decide +kernel
theorem dL_slackOf_16 : decode cL_slackOf 16 = .ok (.ireturn, 1) := by decide +kernel
set_option maxRecDepth 20000 in
theorem ggL_waterOf_X7_waterOf : GoodIn wsL_waterOf wsX7_waterOf := goodIn_ca (goodIn_r _ [6, 7, 8, 9, 10, 11, 5, 12, 13, 14, 15, 16, 17, 18, 19, 20, 21, 22, 23, 24, 25, 26, 27, 28, 29, 30, 31, 32, 33, 34, 35, 36, 37, 38, 39, 40, 41, 42, 43, 44, 45] (by decide +kernel) (by decide +kernel)) (goodIn_sub (fun _ h => List.mem_cons_of_mem _ (List.mem_append_right _ h)) (by decide +kernel))
set_option maxRecDepth 20000 in
theorem gL_waterOf_X7_waterOf : GoodIn wsL_waterOf (wsV RL 42 RX7 yX7_waterOf wsX7_waterOf) := goodIn_app (goodIn_of _ (by decide +kernel)) ggL_waterOf_X7_waterOf
theorem dL_waterOf_0 : decode cL_waterOf 0 = .ok (.aload_n 2, 1) := by decide +kernel
theorem dL_waterOf_1 : decode cL_waterOf 1 = .ok (.iconst 0, 1) := by decide +kernel
theorem dL_waterOf_2 : decode cL_waterOf 2 = .ok (.aload_n 0, 1) := by decide +kernel
theorem dL_waterOf_3 : decode cL_waterOf 3 = .ok (.iload_n 1, 1) := by decide +kernel
theorem dL_waterOf_4 : decode cL_waterOf 4 = .ok (.invokevirtual 42, 3) := by decide +kernel
theorem dL_waterOf_7 : decode cL_waterOf 7 = .ok (.i2l, 1) := by decide +kernel
theorem dL_waterOf_8 : decode cL_waterOf 8 = .ok (.lastore, 1) := by decide +kernel
theorem dL_waterOf_9 : decode cL_waterOf 9 = .ok (.goto 6, 3) := by decide +kernel
theorem dL_waterOf_12 : decode cL_waterOf 12 = .ok (.astore_n 3, 1) := by decide +kernel
theorem dL_waterOf_13 : decode cL_waterOf 13 = .ok (.iconst 1, 1) := by decide +kernel
theorem dL_waterOf_14 : decode cL_waterOf 14 = .ok (.ireturn, 1) := by decide +kernel
theorem dL_waterOf_15 : decode cL_waterOf 15 = .ok (.iconst 0, 1) := by decide +kernel
theorem dL_waterOf_16 : decode cL_waterOf 16 = .ok (.ireturn, 1) := by decide +kernel
set_option maxRecDepth 20000 in
theorem ggL_depressionOf_X7_depressionOf : GoodIn wsL_depressionOf wsX7_depressionOf := goodIn_ca (goodIn_r _ [6, 7, 8, 9, 10, 11, 5, 12, 13, 14, 15, 16, 17, 18, 19, 20, 21, 22, 23, 24, 25, 26, 27, 28, 29, 30, 31, 32, 33, 34, 35, 36, 37, 38, 39, 40, 41, 42, 43, 44, 45, 46, 47, 48, 49, 50, 51, 52, 53, 54, 55, 56, 57, 58, 59] (by decide +kernel) (by decide +kernel)) (goodIn_sub (fun _ h => List.mem_cons_of_mem _ (List.mem_append_right _ h)) (by decide +kernel))
set_option maxRecDepth 20000 in
theorem gL_depressionOf_X7_depressionOf : GoodIn wsL_depressionOf (wsV RL 45 RX7 yX7_depressionOf wsX7_depressionOf) := goodIn_app (goodIn_of _ (by decide +kernel)) ggL_depressionOf_X7_depressionOf
theorem dL_depressionOf_0 : decode cL_depressionOf 0 = .ok (.aload_n 2, 1) := by decide +kernel
theorem dL_depressionOf_1 : decode cL_depressionOf 1 = .ok (.iconst 0, 1) := by decide +kernel
theorem dL_depressionOf_2 : decode cL_depressionOf 2 = .ok (.aload_n 0, 1) := by decide +kernel
theorem dL_depressionOf_3 : decode cL_depressionOf 3 = .ok (.iload_n 1, 1) := by decide +kernel
theorem dL_depressionOf_4 : decode cL_depressionOf 4 = .ok (.invokevirtual 45, 3) := by decide +kernel
theorem dL_depressionOf_7 : decode cL_depressionOf 7 = .ok (.i2l, 1) := by decide +kernel
theorem dL_depressionOf_8 : decode cL_depressionOf 8 = .ok (.lastore, 1) := by decide +kernel
theorem dL_depressionOf_9 : decode cL_depressionOf 9 = .ok (.goto 6, 3) := by decide +kernel
theorem dL_depressionOf_12 : decode cL_depressionOf 12 = .ok (.astore_n 3, 1) := by decide +kernel
theorem dL_depressionOf_13 : decode cL_depressionOf 13 = .ok (.iconst 1, 1) := by decide +kernel
theorem dL_depressionOf_14 : decode cL_depressionOf 14 = .ok (.ireturn, 1) := by decide +kernel
theorem dL_depressionOf_15 : decode cL_depressionOf 15 = .ok (.iconst 0, 1) := by decide +kernel
theorem dL_depressionOf_16 : decode cL_depressionOf 16 = .ok (.ireturn, 1) := by decide +kernel
set_option maxRecDepth 20000 in
theorem ggL_zeroOf_X7_zeroOf : GoodIn wsL_zeroOf wsX7_zeroOf := goodIn_ca (goodIn_r _ [6, 7, 8, 9, 10, 5, 11, 12, 13, 14, 15, 16, 17, 18, 19, 20, 21, 22, 23, 24, 25, 26, 27, 28, 29, 30, 31, 32, 33, 34, 35, 36, 37, 38, 39, 40, 41, 42, 43, 44] (by decide +kernel) (by decide +kernel)) (goodIn_sub (fun _ h => List.mem_cons_of_mem _ (List.mem_append_right _ h)) (by decide +kernel))
set_option maxRecDepth 20000 in
theorem gL_zeroOf_X7_zeroOf : GoodIn wsL_zeroOf (wsV RL 48 RX7 yX7_zeroOf wsX7_zeroOf) := goodIn_app (goodIn_of _ (by decide +kernel)) ggL_zeroOf_X7_zeroOf
theorem dL_zeroOf_0 : decode cL_zeroOf 0 = .ok (.aload_n 2, 1) := by decide +kernel
theorem dL_zeroOf_1 : decode cL_zeroOf 1 = .ok (.iconst 0, 1) := by decide +kernel
theorem dL_zeroOf_2 : decode cL_zeroOf 2 = .ok (.aload_n 0, 1) := by decide +kernel
theorem dL_zeroOf_3 : decode cL_zeroOf 3 = .ok (.iload_n 1, 1) := by decide +kernel
theorem dL_zeroOf_4 : decode cL_zeroOf 4 = .ok (.invokevirtual 48, 3) := by decide +kernel
theorem dL_zeroOf_7 : decode cL_zeroOf 7 = .ok (.i2l, 1) := by decide +kernel
theorem dL_zeroOf_8 : decode cL_zeroOf 8 = .ok (.lastore, 1) := by decide +kernel
theorem dL_zeroOf_9 : decode cL_zeroOf 9 = .ok (.goto 6, 3) := by decide +kernel
theorem dL_zeroOf_12 : decode cL_zeroOf 12 = .ok (.astore_n 3, 1) := by decide +kernel
theorem dL_zeroOf_13 : decode cL_zeroOf 13 = .ok (.iconst 1, 1) := by decide +kernel
theorem dL_zeroOf_14 : decode cL_zeroOf 14 = .ok (.ireturn, 1) := by decide +kernel
theorem dL_zeroOf_15 : decode cL_zeroOf 15 = .ok (.iconst 0, 1) := by decide +kernel
theorem dL_zeroOf_16 : decode cL_zeroOf 16 = .ok (.ireturn, 1) := by decide +kernel
set_option maxRecDepth 20000 in
theorem ggL_boxOf_X7_boxOf : GoodIn wsL_boxOf wsX7_boxOf := goodIn_ca (goodIn_r _ [6, 7, 8, 9, 10, 5, 11, 12, 13, 14, 15, 16, 17, 18, 19, 20, 21, 22, 23, 24, 25, 26, 27, 28, 29, 30, 31, 32, 33, 34, 35, 36, 37, 38, 39, 40, 41, 42, 43, 44] (by decide +kernel) (by decide +kernel)) (goodIn_sub (fun _ h => List.mem_cons_of_mem _ (List.mem_append_right _ h)) (by decide +kernel))
set_option maxRecDepth 20000 in
theorem gL_boxOf_X7_boxOf : GoodIn wsL_boxOf (wsV RL 51 RX7 yX7_boxOf wsX7_boxOf) := goodIn_app (goodIn_of _ (by decide +kernel)) ggL_boxOf_X7_boxOf
theorem dL_boxOf_0 : decode cL_boxOf 0 = .ok (.aload_n 2, 1) := by decide +kernel
theorem dL_boxOf_1 : decode cL_boxOf 1 = .ok (.iconst 0, 1) := by decide +kernel
theorem dL_boxOf_2 : decode cL_boxOf 2 = .ok (.aload_n 0, 1) := by decide +kernel
theorem dL_boxOf_3 : decode cL_boxOf 3 = .ok (.iload_n 1, 1) := by decide +kernel
theorem dL_boxOf_4 : decode cL_boxOf 4 = .ok (.invokevirtual 51, 3) := by decide +kernel
theorem dL_boxOf_7 : decode cL_boxOf 7 = .ok (.i2l, 1) := by decide +kernel
theorem dL_boxOf_8 : decode cL_boxOf 8 = .ok (.lastore, 1) := by decide +kernel
theorem dL_boxOf_9 : decode cL_boxOf 9 = .ok (.goto 6, 3) := by decide +kernel
theorem dL_boxOf_12 : decode cL_boxOf 12 = .ok (.astore_n 3, 1) := by decide +kernel
theorem dL_boxOf_13 : decode cL_boxOf 13 = .ok (.iconst 1, 1) := by decide +kernel
theorem dL_boxOf_14 : decode cL_boxOf 14 = .ok (.ireturn, 1) := by decide +kernel
theorem dL_boxOf_15 : decode cL_boxOf 15 = .ok (.iconst 0, 1) := by decide +kernel
theorem dL_boxOf_16 : decode cL_boxOf 16 = .ok (.ireturn, 1) := by decide +kernel
set_option maxRecDepth 20000 in
theorem ggL_surroundingOf_X7_surroundingOf : GoodIn wsL_surroundingOf wsX7_surroundingOf := goodIn_ca (goodIn_r _ [6, 7, 8, 9, 10, 5, 11, 12, 13, 14, 15, 16, 17, 18, 19, 20, 21, 22, 23, 24, 25, 26, 27, 28, 29, 30, 31, 32, 33, 34, 35, 36, 37, 38, 39, 40, 41, 42, 43, 44, 45, 46, 47, 48, 49, 50, 51, 52] (by decide +kernel) (by decide +kernel)) (goodIn_sub (fun _ h => List.mem_cons_of_mem _ (List.mem_append_right _ h)) (by decide +kernel))
set_option maxRecDepth 20000 in
theorem gL_surroundingOf_X7_surroundingOf : GoodIn wsL_surroundingOf (wsV RL 54 RX7 yX7_surroundingOf wsX7_surroundingOf) := goodIn_app (goodIn_of _ (by decide +kernel)) ggL_surroundingOf_X7_surroundingOf
theorem dL_surroundingOf_0 : decode cL_surroundingOf 0 = .ok (.aload_n 2, 1) := by decide +kernel
theorem dL_surroundingOf_1 : decode cL_surroundingOf 1 = .ok (.iconst 0, 1) := by decide +kernel
theorem dL_surroundingOf_2 : decode cL_surroundingOf 2 = .ok (.aload_n 0, 1) := by decide +kernel
theorem dL_surroundingOf_3 : decode cL_surroundingOf 3 = .ok (.iload_n 1, 1) := by decide +kernel
theorem dL_surroundingOf_4 : decode cL_surroundingOf 4 = .ok (.invokevirtual 54, 3) := by decide +kernel
theorem dL_surroundingOf_7 : decode cL_surroundingOf 7 = .ok (.i2l, 1) := by decide +kernel
theorem dL_surroundingOf_8 : decode cL_surroundingOf 8 = .ok (.lastore, 1) := by decide +kernel
theorem dL_surroundingOf_9 : decode cL_surroundingOf 9 = .ok (.goto 6, 3) := by decide +kernel
theorem dL_surroundingOf_12 : decode cL_surroundingOf 12 = .ok (.astore_n 3, 1) := by decide +kernel
theorem dL_surroundingOf_13 : decode cL_surroundingOf 13 = .ok (.iconst 1, 1) := by decide +kernel
theorem dL_surroundingOf_14 : decode cL_surroundingOf 14 = .ok (.ireturn, 1) := by decide +kernel
theorem dL_surroundingOf_15 : decode cL_surroundingOf 15 = .ok (.iconst 0, 1) := by decide +kernel
theorem dL_surroundingOf_16 : decode cL_surroundingOf 16 = .ok (.ireturn, 1) := by decide +kernel
set_option maxRecDepth 20000 in
theorem ggL_rawValue_X7_rawValue : GoodIn wsL_rawValue wsX7_rawValue := goodIn_ca (goodIn_r _ [6, 7, 8, 9, 10, 5, 11, 12, 13, 14, 15, 16, 17, 18, 19, 20, 21, 22, 23, 24, 25, 26, 27, 28, 29, 30, 31, 32, 33, 34, 35, 36, 37, 38, 39, 40, 41, 42, 43, 44, 45, 46, 47, 48, 49, 50, 51, 52, 53, 54, 55, 56, 57, 58, 59, 60, 61, 62, 63, 64, 65, 66, 67] (by decide +kernel) (by decide +kernel)) (goodIn_sub (fun _ h => List.mem_cons_of_mem _ (List.mem_append_right _ h)) (by decide +kernel))
set_option maxRecDepth 20000 in
theorem gL_rawValue_X7_rawValue : GoodIn wsL_rawValue (wsV RL 57 RX7 yX7_rawValue wsX7_rawValue) := goodIn_app (goodIn_of _ (by decide +kernel)) ggL_rawValue_X7_rawValue
theorem dL_rawValue_0 : decode cL_rawValue 0 = .ok (.aload_n 2, 1) := by decide +kernel
theorem dL_rawValue_1 : decode cL_rawValue 1 = .ok (.iconst 0, 1) := by decide +kernel
theorem dL_rawValue_2 : decode cL_rawValue 2 = .ok (.aload_n 0, 1) := by decide +kernel
theorem dL_rawValue_3 : decode cL_rawValue 3 = .ok (.iload_n 1, 1) := by decide +kernel
theorem dL_rawValue_4 : decode cL_rawValue 4 = .ok (.invokevirtual 57, 3) := by decide +kernel
theorem dL_rawValue_7 : decode cL_rawValue 7 = .ok (.i2l, 1) := by decide +kernel
theorem dL_rawValue_8 : decode cL_rawValue 8 = .ok (.lastore, 1) := by decide +kernel
theorem dL_rawValue_9 : decode cL_rawValue 9 = .ok (.goto 6, 3) := by decide +kernel
theorem dL_rawValue_12 : decode cL_rawValue 12 = .ok (.astore_n 3, 1) := by decide +kernel
theorem dL_rawValue_13 : decode cL_rawValue 13 = .ok (.iconst 1, 1) := by decide +kernel
theorem dL_rawValue_14 : decode cL_rawValue 14 = .ok (.ireturn, 1) := by decide +kernel
theorem dL_rawValue_15 : decode cL_rawValue 15 = .ok (.iconst 0, 1) := by decide +kernel
theorem dL_rawValue_16 : decode cL_rawValue 16 = .ok (.ireturn, 1) := by decide +kernel
set_option maxRecDepth 20000 in
theorem ggL_readingOf_X7_readingOf : GoodIn wsL_readingOf wsX7_readingOf := goodIn_ca (goodIn_r _ [6, 7, 8, 9, 10, 5, 11, 12, 13, 14, 15, 16, 17, 18, 19, 20, 21, 22, 23, 24, 25, 26, 27, 28, 29, 30, 31, 32, 33, 34, 35, 36, 37, 38, 39, 40, 41, 42, 43, 44, 45, 46, 47, 48, 49, 50, 51, 52, 53, 54, 55, 56, 57, 58, 59, 60, 61, 62, 63, 64, 65, 66, 67, 68, 69, 70, 71, 72, 73, 74, 75, 76, 77, 78, 79] (by decide +kernel) (by decide +kernel)) (goodIn_sub (fun _ h => List.mem_cons_of_mem _ (List.mem_append_right _ h)) (by decide +kernel))
set_option maxRecDepth 20000 in
theorem gL_readingOf_X7_readingOf : GoodIn wsL_readingOf (wsV RL 60 RX7 yX7_readingOf wsX7_readingOf) := goodIn_app (goodIn_of _ (by decide +kernel)) ggL_readingOf_X7_readingOf
theorem dL_readingOf_0 : decode cL_readingOf 0 = .ok (.aload_n 2, 1) := by decide +kernel
theorem dL_readingOf_1 : decode cL_readingOf 1 = .ok (.iconst 0, 1) := by decide +kernel
theorem dL_readingOf_2 : decode cL_readingOf 2 = .ok (.aload_n 0, 1) := by decide +kernel
theorem dL_readingOf_3 : decode cL_readingOf 3 = .ok (.iload_n 1, 1) := by decide +kernel
theorem dL_readingOf_4 : decode cL_readingOf 4 = .ok (.invokevirtual 60, 3) := by decide +kernel
theorem dL_readingOf_7 : decode cL_readingOf 7 = .ok (.i2l, 1) := by decide +kernel
theorem dL_readingOf_8 : decode cL_readingOf 8 = .ok (.lastore, 1) := by decide +kernel
theorem dL_readingOf_9 : decode cL_readingOf 9 = .ok (.goto 6, 3) := by decide +kernel
theorem dL_readingOf_12 : decode cL_readingOf 12 = .ok (.astore_n 3, 1) := by decide +kernel
theorem dL_readingOf_13 : decode cL_readingOf 13 = .ok (.iconst 1, 1) := by decide +kernel
theorem dL_readingOf_14 : decode cL_readingOf 14 = .ok (.ireturn, 1) := by decide +kernel
theorem dL_readingOf_15 : decode cL_readingOf 15 = .ok (.iconst 0, 1) := by decide +kernel
theorem dL_readingOf_16 : decode cL_readingOf 16 = .ok (.ireturn, 1) := by decide +kernel
set_option maxRecDepth 20000 in
theorem ggL_errorOf_X7_errorOf : GoodIn wsL_errorOf wsX7_errorOf := goodIn_ca (goodIn_r _ [6, 7, 8, 9, 10, 5, 11, 12, 13, 14, 15, 16, 17, 18, 19, 20, 21, 22, 23, 24, 25, 26, 27, 28, 29, 30, 31, 32, 33, 34, 35, 36, 37, 38, 39, 40, 41, 42, 43, 44, 45, 46, 47, 48, 49, 50, 51, 52, 53, 54, 55, 56, 57, 58, 59, 60, 61, 62, 63, 64, 65, 66, 67, 68, 69, 70, 71, 72, 73, 74, 75, 76, 77, 78, 79, 80] (by decide +kernel) (by decide +kernel)) (goodIn_sub (fun _ h => List.mem_cons_of_mem _ (List.mem_append_right _ h)) (by decide +kernel))
set_option maxRecDepth 20000 in
theorem gL_errorOf_X7_errorOf : GoodIn wsL_errorOf (wsV RL 63 RX7 yX7_errorOf wsX7_errorOf) := goodIn_app (goodIn_of _ (by decide +kernel)) ggL_errorOf_X7_errorOf
theorem dL_errorOf_0 : decode cL_errorOf 0 = .ok (.aload_n 2, 1) := by decide +kernel
theorem dL_errorOf_1 : decode cL_errorOf 1 = .ok (.iconst 0, 1) := by decide +kernel
theorem dL_errorOf_2 : decode cL_errorOf 2 = .ok (.aload_n 0, 1) := by decide +kernel
theorem dL_errorOf_3 : decode cL_errorOf 3 = .ok (.iload_n 1, 1) := by decide +kernel
theorem dL_errorOf_4 : decode cL_errorOf 4 = .ok (.invokevirtual 63, 3) := by decide +kernel
theorem dL_errorOf_7 : decode cL_errorOf 7 = .ok (.i2l, 1) := by decide +kernel
theorem dL_errorOf_8 : decode cL_errorOf 8 = .ok (.lastore, 1) := by decide +kernel
theorem dL_errorOf_9 : decode cL_errorOf 9 = .ok (.goto 6, 3) := by decide +kernel
theorem dL_errorOf_12 : decode cL_errorOf 12 = .ok (.astore_n 3, 1) := by decide +kernel
theorem dL_errorOf_13 : decode cL_errorOf 13 = .ok (.iconst 1, 1) := by decide +kernel
theorem dL_errorOf_14 : decode cL_errorOf 14 = .ok (.ireturn, 1) := by decide +kernel
theorem dL_errorOf_15 : decode cL_errorOf 15 = .ok (.iconst 0, 1) := by decide +kernel
theorem dL_errorOf_16 : decode cL_errorOf 16 = .ok (.ireturn, 1) := by decide +kernel
set_option maxRecDepth 20000 in
theorem ggL_isSettled_X7_isSettled : GoodIn wsL_isSettled wsX7_isSettled := goodIn_ca (goodIn_r _ [6, 7, 8, 9, 10, 5, 11, 12, 13, 14, 15, 16, 17, 18, 19, 20, 21, 22, 23, 24, 25, 26, 27, 28, 29, 30, 31, 32, 33, 34, 35, 36, 37, 38, 39, 40, 41, 42, 43, 44, 45, 46, 47, 48, 49, 50, 51, 52, 53, 54, 55, 56, 57, 58, 59] (by decide +kernel) (by decide +kernel)) (goodIn_sub (fun _ h => List.mem_cons_of_mem _ (List.mem_append_right _ h)) (by decide +kernel))
set_option maxRecDepth 20000 in
theorem gL_isSettled_X7_isSettled : GoodIn wsL_isSettled (wsV RL 66 RX7 yX7_isSettled wsX7_isSettled) := goodIn_app (goodIn_of _ (by decide +kernel)) ggL_isSettled_X7_isSettled
theorem dL_isSettled_0 : decode cL_isSettled 0 = .ok (.aload_n 2, 1) := by decide +kernel
theorem dL_isSettled_1 : decode cL_isSettled 1 = .ok (.iconst 0, 1) := by decide +kernel
theorem dL_isSettled_2 : decode cL_isSettled 2 = .ok (.aload_n 0, 1) := by decide +kernel
theorem dL_isSettled_3 : decode cL_isSettled 3 = .ok (.iload_n 1, 1) := by decide +kernel
theorem dL_isSettled_4 : decode cL_isSettled 4 = .ok (.invokevirtual 66, 3) := by decide +kernel
theorem dL_isSettled_7 : decode cL_isSettled 7 = .ok (.ifCond .eq 7, 3) := by decide +kernel
theorem dL_isSettled_10 : decode cL_isSettled 10 = .ok (.lconst 1, 1) := by decide +kernel
theorem dL_isSettled_11 : decode cL_isSettled 11 = .ok (.goto 4, 3) := by decide +kernel
theorem dL_isSettled_14 : decode cL_isSettled 14 = .ok (.lconst 0, 1) := by decide +kernel
theorem dL_isSettled_15 : decode cL_isSettled 15 = .ok (.lastore, 1) := by decide +kernel
theorem dL_isSettled_16 : decode cL_isSettled 16 = .ok (.goto 6, 3) := by decide +kernel
theorem dL_isSettled_19 : decode cL_isSettled 19 = .ok (.astore_n 3, 1) := by decide +kernel
theorem dL_isSettled_20 : decode cL_isSettled 20 = .ok (.iconst 1, 1) := by decide +kernel
theorem dL_isSettled_21 : decode cL_isSettled 21 = .ok (.ireturn, 1) := by decide +kernel
theorem dL_isSettled_22 : decode cL_isSettled 22 = .ok (.iconst 0, 1) := by decide +kernel
theorem dL_isSettled_23 : decode cL_isSettled 23 = .ok (.ireturn, 1) := by decide +kernel
set_option maxRecDepth 20000 in
theorem ggL_whyUnusable_X7_whyUnusable : GoodIn wsL_whyUnusable wsX7_whyUnusable := goodIn_ca (goodIn_r _ [6, 7, 8, 9, 5, 10, 11, 12, 13, 14, 15, 16, 17, 18, 19, 20, 21, 22, 23, 24, 25, 26, 27, 28, 29, 30, 31, 32, 33, 34, 35, 36, 37, 38, 39, 40, 41, 42, 43, 44, 45, 46, 47, 48, 49, 50, 51, 52, 53, 54, 55, 56, 57] (by decide +kernel) (by decide +kernel)) (goodIn_sub (fun _ h => List.mem_cons_of_mem _ (List.mem_append_right _ h)) (by decide +kernel))
set_option maxRecDepth 20000 in
theorem gL_whyUnusable_X7_whyUnusable : GoodIn wsL_whyUnusable (wsV RL 69 RX7 yX7_whyUnusable wsX7_whyUnusable) := goodIn_app (goodIn_of _ (by decide +kernel)) ggL_whyUnusable_X7_whyUnusable
theorem dL_whyUnusable_0 : decode cL_whyUnusable 0 = .ok (.aload_n 2, 1) := by decide +kernel
theorem dL_whyUnusable_1 : decode cL_whyUnusable 1 = .ok (.iconst 0, 1) := by decide +kernel
theorem dL_whyUnusable_2 : decode cL_whyUnusable 2 = .ok (.aload_n 0, 1) := by decide +kernel
theorem dL_whyUnusable_3 : decode cL_whyUnusable 3 = .ok (.iload_n 1, 1) := by decide +kernel
theorem dL_whyUnusable_4 : decode cL_whyUnusable 4 = .ok (.invokevirtual 69, 3) := by decide +kernel
theorem dL_whyUnusable_7 : decode cL_whyUnusable 7 = .ok (.i2l, 1) := by decide +kernel
theorem dL_whyUnusable_8 : decode cL_whyUnusable 8 = .ok (.lastore, 1) := by decide +kernel
theorem dL_whyUnusable_9 : decode cL_whyUnusable 9 = .ok (.goto 6, 3) := by decide +kernel
theorem dL_whyUnusable_12 : decode cL_whyUnusable 12 = .ok (.astore_n 3, 1) := by decide +kernel
theorem dL_whyUnusable_13 : decode cL_whyUnusable 13 = .ok (.iconst 1, 1) := by decide +kernel
theorem dL_whyUnusable_14 : decode cL_whyUnusable 14 = .ok (.ireturn, 1) := by decide +kernel
theorem dL_whyUnusable_15 : decode cL_whyUnusable 15 = .ok (.iconst 0, 1) := by decide +kernel
theorem dL_whyUnusable_16 : decode cL_whyUnusable 16 = .ok (.ireturn, 1) := by decide +kernel
set_option maxRecDepth 20000 in
theorem ggL_weightOf_X7_weightOf : GoodIn wsL_weightOf wsX7_weightOf := goodIn_ca (goodIn_r _ [6, 7, 8, 9, 5, 10, 11, 12, 13, 14, 15, 16, 17, 18, 19, 20, 21, 22, 23, 24, 25, 26, 27, 28, 29, 30, 31, 32, 33, 34, 35, 36, 37, 38, 39, 40, 41, 42, 43, 44, 45, 46, 47, 48, 49, 50, 51, 52, 53, 54, 55, 56, 57, 58, 59, 60, 61] (by decide +kernel) (by decide +kernel)) (goodIn_sub (fun _ h => List.mem_cons_of_mem _ (List.mem_append_right _ h)) (by decide +kernel))
set_option maxRecDepth 20000 in
theorem gL_weightOf_X7_weightOf : GoodIn wsL_weightOf (wsV RL 72 RX7 yX7_weightOf wsX7_weightOf) := goodIn_app (goodIn_of _ (by decide +kernel)) ggL_weightOf_X7_weightOf
theorem dL_weightOf_0 : decode cL_weightOf 0 = .ok (.aload_n 2, 1) := by decide +kernel
theorem dL_weightOf_1 : decode cL_weightOf 1 = .ok (.iconst 0, 1) := by decide +kernel
theorem dL_weightOf_2 : decode cL_weightOf 2 = .ok (.aload_n 0, 1) := by decide +kernel
theorem dL_weightOf_3 : decode cL_weightOf 3 = .ok (.iload_n 1, 1) := by decide +kernel
theorem dL_weightOf_4 : decode cL_weightOf 4 = .ok (.invokevirtual 72, 3) := by decide +kernel
theorem dL_weightOf_7 : decode cL_weightOf 7 = .ok (.i2l, 1) := by decide +kernel
theorem dL_weightOf_8 : decode cL_weightOf 8 = .ok (.lastore, 1) := by decide +kernel
theorem dL_weightOf_9 : decode cL_weightOf 9 = .ok (.goto 6, 3) := by decide +kernel
theorem dL_weightOf_12 : decode cL_weightOf 12 = .ok (.astore_n 3, 1) := by decide +kernel
theorem dL_weightOf_13 : decode cL_weightOf 13 = .ok (.iconst 1, 1) := by decide +kernel
theorem dL_weightOf_14 : decode cL_weightOf 14 = .ok (.ireturn, 1) := by decide +kernel
theorem dL_weightOf_15 : decode cL_weightOf 15 = .ok (.iconst 0, 1) := by decide +kernel
theorem dL_weightOf_16 : decode cL_weightOf 16 = .ok (.ireturn, 1) := by decide +kernel
set_option maxRecDepth 20000 in
theorem ggL_calibrationObstacle_X7_calibrationObstacle : GoodIn wsL_calibrationObstacle wsX7_calibrationObstacle := goodIn_ca (goodIn_r _ [6, 7, 8, 9, 10, 5, 11, 12, 13, 14, 15, 16, 17, 18, 19, 20, 21, 22, 23, 24, 25, 26, 27, 28, 29, 30, 31, 32, 33, 34, 35, 36, 37, 38, 39, 40, 41, 42, 43, 44, 45, 46, 47, 48, 49, 50, 51, 52, 53, 54, 55, 56, 57, 58, 59, 60, 61, 62, 63, 64, 65, 66, 67, 68, 69] (by decide +kernel) (by decide +kernel)) (goodIn_sub (fun _ h => List.mem_cons_of_mem _ (List.mem_append_right _ h)) (by decide +kernel))
set_option maxRecDepth 20000 in
theorem gL_calibrationObstacle_X7_calibrationObstacle : GoodIn wsL_calibrationObstacle (wsV RL 75 RX7 yX7_calibrationObstacle wsX7_calibrationObstacle) := goodIn_app (goodIn_of _ (by decide +kernel)) ggL_calibrationObstacle_X7_calibrationObstacle
theorem dL_calibrationObstacle_0 : decode cL_calibrationObstacle 0 = .ok (.aload_n 2, 1) := by decide +kernel
theorem dL_calibrationObstacle_1 : decode cL_calibrationObstacle 1 = .ok (.iconst 0, 1) := by decide +kernel
theorem dL_calibrationObstacle_2 : decode cL_calibrationObstacle 2 = .ok (.aload_n 0, 1) := by decide +kernel
theorem dL_calibrationObstacle_3 : decode cL_calibrationObstacle 3 = .ok (.iload_n 1, 1) := by decide +kernel
theorem dL_calibrationObstacle_4 : decode cL_calibrationObstacle 4 = .ok (.invokevirtual 75, 3) := by decide +kernel
theorem dL_calibrationObstacle_7 : decode cL_calibrationObstacle 7 = .ok (.i2l, 1) := by decide +kernel
theorem dL_calibrationObstacle_8 : decode cL_calibrationObstacle 8 = .ok (.lastore, 1) := by decide +kernel
theorem dL_calibrationObstacle_9 : decode cL_calibrationObstacle 9 = .ok (.goto 6, 3) := by decide +kernel
theorem dL_calibrationObstacle_12 : decode cL_calibrationObstacle 12 = .ok (.astore_n 3, 1) := by decide +kernel
theorem dL_calibrationObstacle_13 : decode cL_calibrationObstacle 13 = .ok (.iconst 1, 1) := by decide +kernel
theorem dL_calibrationObstacle_14 : decode cL_calibrationObstacle 14 = .ok (.ireturn, 1) := by decide +kernel
theorem dL_calibrationObstacle_15 : decode cL_calibrationObstacle 15 = .ok (.iconst 0, 1) := by decide +kernel
theorem dL_calibrationObstacle_16 : decode cL_calibrationObstacle 16 = .ok (.ireturn, 1) := by decide +kernel
set_option maxRecDepth 20000 in
theorem ggL_readingAfter_X7_readingAfter : GoodIn wsL_readingAfter wsX7_readingAfter := goodIn_ca (goodIn_ca (goodIn_r _ [7, 8, 9, 10, 11, 12, 13, 14, 15, 6, 16, 17, 18, 19, 20, 21, 22, 23, 24, 25, 26, 27, 28, 29, 30, 31, 32, 33, 34, 35, 36, 37, 38, 39, 40, 41, 42, 43, 44, 45, 46, 47, 48, 49, 50, 51, 52, 53, 54, 55, 56, 57, 58, 59, 60, 61, 62, 63, 64, 65, 66, 67, 68, 69, 70, 71, 72, 73, 74, 75, 76, 77, 78, 79, 80, 81, 82, 83, 84, 85, 86, 87, 88, 89, 90, 91, 92, 93, 94, 95, 96, 97, 98, 99, 100, 101, 102, 103, 104, 105, 106, 107, 108, 109] (by decide +kernel) (by decide +kernel)) (goodIn_sub (fun _ h => List.mem_cons_of_mem _ (List.mem_append_left _ (List.mem_append_right _ h))) (by decide +kernel))) (goodIn_sub (fun _ h => List.mem_cons_of_mem _ (List.mem_append_right _ h)) (by decide +kernel))
set_option maxRecDepth 20000 in
theorem gL_readingAfter_X7_readingAfter : GoodIn wsL_readingAfter (wsV RL 78 RX7 yX7_readingAfter wsX7_readingAfter) := goodIn_app (goodIn_of _ (by decide +kernel)) ggL_readingAfter_X7_readingAfter
theorem dL_readingAfter_0 : decode cL_readingAfter 0 = .ok (.aload_n 3, 1) := by decide +kernel
theorem dL_readingAfter_1 : decode cL_readingAfter 1 = .ok (.iconst 0, 1) := by decide +kernel
theorem dL_readingAfter_2 : decode cL_readingAfter 2 = .ok (.aload_n 0, 1) := by decide +kernel
theorem dL_readingAfter_3 : decode cL_readingAfter 3 = .ok (.iload_n 1, 1) := by decide +kernel
theorem dL_readingAfter_4 : decode cL_readingAfter 4 = .ok (.iload_n 2, 1) := by decide +kernel
theorem dL_readingAfter_5 : decode cL_readingAfter 5 = .ok (.invokevirtual 78, 3) := by decide +kernel
theorem dL_readingAfter_8 : decode cL_readingAfter 8 = .ok (.i2l, 1) := by decide +kernel
theorem dL_readingAfter_9 : decode cL_readingAfter 9 = .ok (.lastore, 1) := by decide +kernel
theorem dL_readingAfter_10 : decode cL_readingAfter 10 = .ok (.goto 11, 3) := by decide +kernel
theorem dL_readingAfter_13 : decode cL_readingAfter 13 = .ok (.astore 4, 2) := by decide +kernel
theorem dL_readingAfter_15 : decode cL_readingAfter 15 = .ok (.iconst 1, 1) := by decide +kernel
theorem dL_readingAfter_16 : decode cL_readingAfter 16 = .ok (.ireturn, 1) := by decide +kernel
theorem dL_readingAfter_17 : decode cL_readingAfter 17 = .ok (.astore 4, 2) := by decide +kernel
theorem dL_readingAfter_19 : decode cL_readingAfter 19 = .ok (.iconst 2, 1) := by decide +kernel
theorem dL_readingAfter_20 : decode cL_readingAfter 20 = .ok (.ireturn, 1) := by decide +kernel
theorem dL_readingAfter_21 : decode cL_readingAfter 21 = .ok (.iconst 0, 1) := by decide +kernel
theorem dL_readingAfter_22 : decode cL_readingAfter 22 = .ok (.ireturn, 1) := by decide +kernel
set_option maxRecDepth 20000 in
theorem ggL_minutesUntilStill_X7_minutesUntilStill : GoodIn wsL_minutesUntilStill wsX7_minutesUntilStill := goodIn_ca (goodIn_r _ [6, 7, 8, 9, 10, 11, 12, 5, 13, 14, 15, 16, 17, 18, 19, 20, 21, 22, 23, 24, 25, 26, 27, 28, 29, 30, 31, 32, 33, 34, 35, 36, 37, 38, 39, 40, 41, 42, 43, 44, 45, 46, 47, 48, 49, 50, 51, 52, 53, 54, 55, 56, 57, 58, 59, 60, 61, 62, 63, 64, 65, 66, 67, 68, 69, 70, 71, 72, 73, 74, 75, 76, 77, 78, 79, 80, 81, 82, 83, 84, 85, 86, 87, 88, 89, 90, 91, 92, 93, 94, 95, 96, 97] (by decide +kernel) (by decide +kernel)) (goodIn_sub (fun _ h => List.mem_cons_of_mem _ (List.mem_append_right _ h)) (by decide +kernel))
set_option maxRecDepth 20000 in
theorem gL_minutesUntilStill_X7_minutesUntilStill : GoodIn wsL_minutesUntilStill (wsV RL 82 RX7 yX7_minutesUntilStill wsX7_minutesUntilStill) := goodIn_app (goodIn_of _ (by decide +kernel)) ggL_minutesUntilStill_X7_minutesUntilStill
theorem dL_minutesUntilStill_0 : decode cL_minutesUntilStill 0 = .ok (.aload_n 2, 1) := by decide +kernel
theorem dL_minutesUntilStill_1 : decode cL_minutesUntilStill 1 = .ok (.iconst 0, 1) := by decide +kernel
theorem dL_minutesUntilStill_2 : decode cL_minutesUntilStill 2 = .ok (.aload_n 0, 1) := by decide +kernel
theorem dL_minutesUntilStill_3 : decode cL_minutesUntilStill 3 = .ok (.iload_n 1, 1) := by decide +kernel
theorem dL_minutesUntilStill_4 : decode cL_minutesUntilStill 4 = .ok (.invokevirtual 82, 3) := by decide +kernel
theorem dL_minutesUntilStill_7 : decode cL_minutesUntilStill 7 = .ok (.i2l, 1) := by decide +kernel
theorem dL_minutesUntilStill_8 : decode cL_minutesUntilStill 8 = .ok (.lastore, 1) := by decide +kernel
theorem dL_minutesUntilStill_9 : decode cL_minutesUntilStill 9 = .ok (.goto 6, 3) := by decide +kernel
theorem dL_minutesUntilStill_12 : decode cL_minutesUntilStill 12 = .ok (.astore_n 3, 1) := by decide +kernel
theorem dL_minutesUntilStill_13 : decode cL_minutesUntilStill 13 = .ok (.iconst 1, 1) := by decide +kernel
theorem dL_minutesUntilStill_14 : decode cL_minutesUntilStill 14 = .ok (.ireturn, 1) := by decide +kernel
theorem dL_minutesUntilStill_15 : decode cL_minutesUntilStill 15 = .ok (.iconst 0, 1) := by decide +kernel
theorem dL_minutesUntilStill_16 : decode cL_minutesUntilStill 16 = .ok (.ireturn, 1) := by decide +kernel
set_option maxRecDepth 20000 in
theorem ggL_advance_X7_advance : GoodIn wsL_advance wsX7_advance := goodIn_ca (goodIn_ca (goodIn_r _ [7, 8, 9, 10, 11, 12, 13, 14, 15, 16, 17, 18, 19, 20, 21, 22, 23, 24, 25, 26, 27, 28, 29, 30, 31, 32, 33, 34, 35, 36, 37, 38, 39, 40, 41, 42, 43, 44, 45, 46, 47, 48, 49, 50, 51, 52, 53, 54, 55, 56, 57, 58, 59, 60, 61, 62, 63, 6, 64, 65, 66, 67, 68, 69, 70, 71, 72, 73, 74, 75, 76, 77, 78, 79, 80, 81, 82, 83, 84, 85, 86, 87, 88, 89, 90, 91, 92, 93, 94, 95, 96, 97, 98, 99, 100, 101, 102, 103, 104, 105, 106, 107, 108, 109, 110] (by decide +kernel) (by decide +kernel)) (goodIn_sub (fun _ h => List.mem_cons_of_mem _ (List.mem_append_left _ (List.mem_append_right _ h))) (by decide +kernel))) (goodIn_sub (fun _ h => List.mem_cons_of_mem _ (List.mem_append_right _ h)) (by decide +kernel))
set_option maxRecDepth 20000 in
theorem gL_advance_X7_advance : GoodIn wsL_advance (wsV RL 85 RX7 yX7_advance wsX7_advance) := goodIn_app (goodIn_of _ (by decide +kernel)) ggL_advance_X7_advance
theorem dL_advance_0 : decode cL_advance 0 = .ok (.aload_n 2, 1) := by decide +kernel
theorem dL_advance_1 : decode cL_advance 1 = .ok (.iconst 0, 1) := by decide +kernel
theorem dL_advance_2 : decode cL_advance 2 = .ok (.aload_n 0, 1) := by decide +kernel
theorem dL_advance_3 : decode cL_advance 3 = .ok (.iload_n 1, 1) := by decide +kernel
theorem dL_advance_4 : decode cL_advance 4 = .ok (.invokevirtual 85, 3) := by decide +kernel
theorem dL_advance_7 : decode cL_advance 7 = .ok (.i2l, 1) := by decide +kernel
theorem dL_advance_8 : decode cL_advance 8 = .ok (.lastore, 1) := by decide +kernel
theorem dL_advance_9 : decode cL_advance 9 = .ok (.goto 9, 3) := by decide +kernel
theorem dL_advance_12 : decode cL_advance 12 = .ok (.astore_n 3, 1) := by decide +kernel
theorem dL_advance_13 : decode cL_advance 13 = .ok (.iconst 1, 1) := by decide +kernel
theorem dL_advance_14 : decode cL_advance 14 = .ok (.ireturn, 1) := by decide +kernel
theorem dL_advance_15 : decode cL_advance 15 = .ok (.astore_n 3, 1) := by decide +kernel
theorem dL_advance_16 : decode cL_advance 16 = .ok (.iconst 2, 1) := by decide +kernel
theorem dL_advance_17 : decode cL_advance 17 = .ok (.ireturn, 1) := by decide +kernel
theorem dL_advance_18 : decode cL_advance 18 = .ok (.iconst 0, 1) := by decide +kernel
theorem dL_advance_19 : decode cL_advance 19 = .ok (.ireturn, 1) := by decide +kernel
set_option maxRecDepth 20000 in
theorem ggL_setHumidity_X7_setHumidity : GoodIn wsL_setHumidity wsX7_setHumidity := goodIn_ca (goodIn_r _ [6, 7, 8, 9, 10, 11, 12, 13, 14, 15, 16, 17, 18, 19, 20, 21, 22, 23, 24, 25, 26, 27, 28, 29, 30, 31, 32, 33, 34, 35, 36, 37, 38, 39, 40, 41, 42, 43, 44, 45, 46, 47, 48, 49, 50, 51, 52, 53, 54, 55, 56, 57, 58, 59, 60, 61, 62, 63, 64, 65, 66, 67, 68, 69, 70, 71, 72, 73, 74, 75, 76] (by decide +kernel) (by decide +kernel)) (goodIn_sub (fun _ h => List.mem_cons_of_mem _ (List.mem_append_right _ h)) (by decide +kernel))
set_option maxRecDepth 20000 in
theorem gL_setHumidity_X7_setHumidity : GoodIn wsL_setHumidity (wsV RL 88 RX7 yX7_setHumidity wsX7_setHumidity) := goodIn_app (goodIn_of _ (by decide +kernel)) ggL_setHumidity_X7_setHumidity
theorem dL_setHumidity_0 : decode cL_setHumidity 0 = .ok (.aload_n 2, 1) := by decide +kernel
theorem dL_setHumidity_1 : decode cL_setHumidity 1 = .ok (.iconst 0, 1) := by decide +kernel
theorem dL_setHumidity_2 : decode cL_setHumidity 2 = .ok (.aload_n 0, 1) := by decide +kernel
theorem dL_setHumidity_3 : decode cL_setHumidity 3 = .ok (.iload_n 1, 1) := by decide +kernel
theorem dL_setHumidity_4 : decode cL_setHumidity 4 = .ok (.invokevirtual 88, 3) := by decide +kernel
theorem dL_setHumidity_7 : decode cL_setHumidity 7 = .ok (.i2l, 1) := by decide +kernel
theorem dL_setHumidity_8 : decode cL_setHumidity 8 = .ok (.lastore, 1) := by decide +kernel
theorem dL_setHumidity_9 : decode cL_setHumidity 9 = .ok (.goto 6, 3) := by decide +kernel
theorem dL_setHumidity_12 : decode cL_setHumidity 12 = .ok (.astore_n 3, 1) := by decide +kernel
theorem dL_setHumidity_13 : decode cL_setHumidity 13 = .ok (.iconst 1, 1) := by decide +kernel
theorem dL_setHumidity_14 : decode cL_setHumidity 14 = .ok (.ireturn, 1) := by decide +kernel
theorem dL_setHumidity_15 : decode cL_setHumidity 15 = .ok (.iconst 0, 1) := by decide +kernel
theorem dL_setHumidity_16 : decode cL_setHumidity 16 = .ok (.ireturn, 1) := by decide +kernel
set_option maxRecDepth 20000 in
theorem ggL_setTemperature_X7_setTemperature : GoodIn wsL_setTemperature wsX7_setTemperature := goodIn_ca (goodIn_r _ [6, 7, 8, 9, 10, 11, 12, 13, 14, 15, 16, 17, 18, 19, 20, 21, 22, 23, 24, 25, 26, 27, 28, 29, 30, 31, 32, 33, 34, 35, 36, 37, 38, 39, 40, 41, 42, 43, 44, 45, 46, 47, 48, 49, 50, 51, 52, 53, 54, 55, 56, 57, 58, 59, 60, 61, 62, 63, 64, 65, 66, 67, 68, 69, 70, 71, 72, 73, 74, 75, 76] (by decide +kernel) (by decide +kernel)) (goodIn_sub (fun _ h => List.mem_cons_of_mem _ (List.mem_append_right _ h)) (by decide +kernel))
set_option maxRecDepth 20000 in
theorem gL_setTemperature_X7_setTemperature : GoodIn wsL_setTemperature (wsV RL 91 RX7 yX7_setTemperature wsX7_setTemperature) := goodIn_app (goodIn_of _ (by decide +kernel)) ggL_setTemperature_X7_setTemperature
theorem dL_setTemperature_0 : decode cL_setTemperature 0 = .ok (.aload_n 2, 1) := by decide +kernel
theorem dL_setTemperature_1 : decode cL_setTemperature 1 = .ok (.iconst 0, 1) := by decide +kernel
theorem dL_setTemperature_2 : decode cL_setTemperature 2 = .ok (.aload_n 0, 1) := by decide +kernel
theorem dL_setTemperature_3 : decode cL_setTemperature 3 = .ok (.iload_n 1, 1) := by decide +kernel
theorem dL_setTemperature_4 : decode cL_setTemperature 4 = .ok (.invokevirtual 91, 3) := by decide +kernel
theorem dL_setTemperature_7 : decode cL_setTemperature 7 = .ok (.i2l, 1) := by decide +kernel
theorem dL_setTemperature_8 : decode cL_setTemperature 8 = .ok (.lastore, 1) := by decide +kernel
theorem dL_setTemperature_9 : decode cL_setTemperature 9 = .ok (.goto 6, 3) := by decide +kernel
theorem dL_setTemperature_12 : decode cL_setTemperature 12 = .ok (.astore_n 3, 1) := by decide +kernel
theorem dL_setTemperature_13 : decode cL_setTemperature 13 = .ok (.iconst 1, 1) := by decide +kernel
theorem dL_setTemperature_14 : decode cL_setTemperature 14 = .ok (.ireturn, 1) := by decide +kernel
theorem dL_setTemperature_15 : decode cL_setTemperature 15 = .ok (.iconst 0, 1) := by decide +kernel
theorem dL_setTemperature_16 : decode cL_setTemperature 16 = .ok (.ireturn, 1) := by decide +kernel
set_option maxRecDepth 20000 in
theorem ggL_setSkill_X7_setSkill : GoodIn wsL_setSkill wsX7_setSkill := goodIn_ca (goodIn_r _ [6, 7, 8, 9, 10, 11, 12, 13, 14, 15, 16, 17, 18, 19, 20, 21, 22, 23, 24, 25, 26, 27, 28, 29, 30, 31, 32, 33, 34, 35, 36, 37, 38, 39, 40, 41, 42, 43, 44, 45, 46, 47, 48, 49, 50, 51, 52, 53, 54, 55, 56, 57, 58, 59, 60, 61, 62, 63, 64, 65, 66, 67, 68, 69, 70, 71, 72, 73, 74, 75, 76] (by decide +kernel) (by decide +kernel)) (goodIn_sub (fun _ h => List.mem_cons_of_mem _ (List.mem_append_right _ h)) (by decide +kernel))
set_option maxRecDepth 20000 in
theorem gL_setSkill_X7_setSkill : GoodIn wsL_setSkill (wsV RL 94 RX7 yX7_setSkill wsX7_setSkill) := goodIn_app (goodIn_of _ (by decide +kernel)) ggL_setSkill_X7_setSkill
theorem dL_setSkill_0 : decode cL_setSkill 0 = .ok (.aload_n 2, 1) := by decide +kernel
theorem dL_setSkill_1 : decode cL_setSkill 1 = .ok (.iconst 0, 1) := by decide +kernel
theorem dL_setSkill_2 : decode cL_setSkill 2 = .ok (.aload_n 0, 1) := by decide +kernel
theorem dL_setSkill_3 : decode cL_setSkill 3 = .ok (.iload_n 1, 1) := by decide +kernel
theorem dL_setSkill_4 : decode cL_setSkill 4 = .ok (.invokevirtual 94, 3) := by decide +kernel
theorem dL_setSkill_7 : decode cL_setSkill 7 = .ok (.i2l, 1) := by decide +kernel
theorem dL_setSkill_8 : decode cL_setSkill 8 = .ok (.lastore, 1) := by decide +kernel
theorem dL_setSkill_9 : decode cL_setSkill 9 = .ok (.goto 6, 3) := by decide +kernel
theorem dL_setSkill_12 : decode cL_setSkill 12 = .ok (.astore_n 3, 1) := by decide +kernel
theorem dL_setSkill_13 : decode cL_setSkill 13 = .ok (.iconst 1, 1) := by decide +kernel
theorem dL_setSkill_14 : decode cL_setSkill 14 = .ok (.ireturn, 1) := by decide +kernel
theorem dL_setSkill_15 : decode cL_setSkill 15 = .ok (.iconst 0, 1) := by decide +kernel
theorem dL_setSkill_16 : decode cL_setSkill 16 = .ok (.ireturn, 1) := by decide +kernel
set_option maxRecDepth 20000 in
theorem ggL_putInBox_X7_putInBox : GoodIn wsL_putInBox wsX7_putInBox := goodIn_ca (goodIn_ca (goodIn_ca (goodIn_r _ [8, 9, 10, 11, 12, 13, 14, 15, 16, 17, 18, 7, 19, 20, 21, 22, 23, 24, 25, 26, 27, 28, 29, 30, 31, 32, 33, 34, 35, 36, 37, 38, 39, 40, 41, 42, 43, 44, 45, 46, 47, 48, 49, 50, 51, 52, 53, 54, 55, 56, 57, 58, 59, 60, 61, 62, 63, 64, 65, 66, 67, 68, 69, 70, 71, 72, 73, 74, 75, 76, 77, 78, 79, 80, 81, 82, 83, 84, 85, 86, 87, 88, 89, 90, 91, 92, 93, 94, 95, 96, 97, 98, 99, 100, 101, 102, 103, 104, 105] (by decide +kernel) (by decide +kernel)) (goodIn_sub (fun _ h => List.mem_cons_of_mem _ (List.mem_append_left _ (List.mem_append_left _ (List.mem_append_right _ h)))) (by decide +kernel))) (goodIn_sub (fun _ h => List.mem_cons_of_mem _ (List.mem_append_left _ (List.mem_append_right _ h))) (by decide +kernel))) (goodIn_sub (fun _ h => List.mem_cons_of_mem _ (List.mem_append_right _ h)) (by decide +kernel))
set_option maxRecDepth 20000 in
theorem gL_putInBox_X7_putInBox : GoodIn wsL_putInBox (wsV RL 97 RX7 yX7_putInBox wsX7_putInBox) := goodIn_app (goodIn_of _ (by decide +kernel)) ggL_putInBox_X7_putInBox
theorem dL_putInBox_0 : decode cL_putInBox 0 = .ok (.aload_n 3, 1) := by decide +kernel
theorem dL_putInBox_1 : decode cL_putInBox 1 = .ok (.iconst 0, 1) := by decide +kernel
theorem dL_putInBox_2 : decode cL_putInBox 2 = .ok (.aload_n 0, 1) := by decide +kernel
theorem dL_putInBox_3 : decode cL_putInBox 3 = .ok (.iload_n 1, 1) := by decide +kernel
theorem dL_putInBox_4 : decode cL_putInBox 4 = .ok (.iload_n 2, 1) := by decide +kernel
theorem dL_putInBox_5 : decode cL_putInBox 5 = .ok (.invokevirtual 97, 3) := by decide +kernel
theorem dL_putInBox_8 : decode cL_putInBox 8 = .ok (.i2l, 1) := by decide +kernel
theorem dL_putInBox_9 : decode cL_putInBox 9 = .ok (.lastore, 1) := by decide +kernel
theorem dL_putInBox_10 : decode cL_putInBox 10 = .ok (.goto 15, 3) := by decide +kernel
theorem dL_putInBox_13 : decode cL_putInBox 13 = .ok (.astore 4, 2) := by decide +kernel
theorem dL_putInBox_15 : decode cL_putInBox 15 = .ok (.iconst 1, 1) := by decide +kernel
theorem dL_putInBox_16 : decode cL_putInBox 16 = .ok (.ireturn, 1) := by decide +kernel
theorem dL_putInBox_17 : decode cL_putInBox 17 = .ok (.astore 4, 2) := by decide +kernel
theorem dL_putInBox_19 : decode cL_putInBox 19 = .ok (.iconst 2, 1) := by decide +kernel
theorem dL_putInBox_20 : decode cL_putInBox 20 = .ok (.ireturn, 1) := by decide +kernel
theorem dL_putInBox_21 : decode cL_putInBox 21 = .ok (.astore 4, 2) := by decide +kernel
theorem dL_putInBox_23 : decode cL_putInBox 23 = .ok (.iconst 3, 1) := by decide +kernel
theorem dL_putInBox_24 : decode cL_putInBox 24 = .ok (.ireturn, 1) := by decide +kernel
theorem dL_putInBox_25 : decode cL_putInBox 25 = .ok (.iconst 0, 1) := by decide +kernel
theorem dL_putInBox_26 : decode cL_putInBox 26 = .ok (.ireturn, 1) := by decide +kernel
set_option maxRecDepth 20000 in
theorem ggL_takeOut_X7_takeOut : GoodIn wsL_takeOut wsX7_takeOut := goodIn_ca (goodIn_ca (goodIn_r _ [7, 8, 9, 10, 11, 12, 13, 14, 15, 6, 16, 17, 18, 19, 20, 21, 22, 23, 24, 25, 26, 27, 28, 29, 30, 31, 32, 33, 34, 35, 36, 37, 38, 39, 40, 41, 42, 43, 44, 45, 46, 47, 48, 49, 50, 51, 52, 53, 54, 55, 56, 57, 58, 59, 60, 61, 62, 63, 64, 65, 66, 67, 68, 69, 70, 71, 72, 73, 74, 75, 76, 77, 78, 79, 80, 81, 82, 83, 84, 85, 86, 87, 88, 89, 90, 91] (by decide +kernel) (by decide +kernel)) (goodIn_sub (fun _ h => List.mem_cons_of_mem _ (List.mem_append_left _ (List.mem_append_right _ h))) (by decide +kernel))) (goodIn_sub (fun _ h => List.mem_cons_of_mem _ (List.mem_append_right _ h)) (by decide +kernel))
set_option maxRecDepth 20000 in
theorem gL_takeOut_X7_takeOut : GoodIn wsL_takeOut (wsV RL 100 RX7 yX7_takeOut wsX7_takeOut) := goodIn_app (goodIn_of _ (by decide +kernel)) ggL_takeOut_X7_takeOut
theorem dL_takeOut_0 : decode cL_takeOut 0 = .ok (.aload_n 2, 1) := by decide +kernel
theorem dL_takeOut_1 : decode cL_takeOut 1 = .ok (.iconst 0, 1) := by decide +kernel
theorem dL_takeOut_2 : decode cL_takeOut 2 = .ok (.aload_n 0, 1) := by decide +kernel
theorem dL_takeOut_3 : decode cL_takeOut 3 = .ok (.iload_n 1, 1) := by decide +kernel
theorem dL_takeOut_4 : decode cL_takeOut 4 = .ok (.invokevirtual 100, 3) := by decide +kernel
theorem dL_takeOut_7 : decode cL_takeOut 7 = .ok (.i2l, 1) := by decide +kernel
theorem dL_takeOut_8 : decode cL_takeOut 8 = .ok (.lastore, 1) := by decide +kernel
theorem dL_takeOut_9 : decode cL_takeOut 9 = .ok (.goto 9, 3) := by decide +kernel
theorem dL_takeOut_12 : decode cL_takeOut 12 = .ok (.astore_n 3, 1) := by decide +kernel
theorem dL_takeOut_13 : decode cL_takeOut 13 = .ok (.iconst 1, 1) := by decide +kernel
theorem dL_takeOut_14 : decode cL_takeOut 14 = .ok (.ireturn, 1) := by decide +kernel
theorem dL_takeOut_15 : decode cL_takeOut 15 = .ok (.astore_n 3, 1) := by decide +kernel
theorem dL_takeOut_16 : decode cL_takeOut 16 = .ok (.iconst 2, 1) := by decide +kernel
theorem dL_takeOut_17 : decode cL_takeOut 17 = .ok (.ireturn, 1) := by decide +kernel
theorem dL_takeOut_18 : decode cL_takeOut 18 = .ok (.iconst 0, 1) := by decide +kernel
theorem dL_takeOut_19 : decode cL_takeOut 19 = .ok (.ireturn, 1) := by decide +kernel
set_option maxRecDepth 20000 in
theorem ggL_calibrate_X7_calibrate : GoodIn wsL_calibrate wsX7_calibrate := goodIn_ca (goodIn_ca (goodIn_r _ [7, 8, 9, 10, 11, 12, 13, 14, 15, 6, 16, 17, 18, 19, 20, 21, 22, 23, 24, 25, 26, 27, 28, 29, 30, 31, 32, 33, 34, 35, 36, 37, 38, 39, 40, 41, 42, 43, 44, 45, 46, 47, 48, 49, 50, 51, 52, 53, 54, 55, 56, 57, 58, 59, 60, 61, 62, 63, 64, 65, 66, 67, 68, 69, 70, 71, 72, 73, 74, 75, 76, 77, 78, 79, 80, 81, 82, 83, 84, 85, 86, 87, 88, 89, 90, 91, 92, 93, 94, 95, 96, 97, 98, 99, 100, 101, 102, 103, 104, 105, 106, 107, 108, 109, 110, 111, 112, 113, 114, 115, 116, 117, 118, 119, 120, 121, 122] (by decide +kernel) (by decide +kernel)) (goodIn_sub (fun _ h => List.mem_cons_of_mem _ (List.mem_append_left _ (List.mem_append_right _ h))) (by decide +kernel))) (goodIn_sub (fun _ h => List.mem_cons_of_mem _ (List.mem_append_right _ h)) (by decide +kernel))
set_option maxRecDepth 20000 in
theorem gL_calibrate_X7_calibrate : GoodIn wsL_calibrate (wsV RL 103 RX7 yX7_calibrate wsX7_calibrate) := goodIn_app (goodIn_of _ (by decide +kernel)) ggL_calibrate_X7_calibrate
theorem dL_calibrate_0 : decode cL_calibrate 0 = .ok (.aload_n 2, 1) := by decide +kernel
theorem dL_calibrate_1 : decode cL_calibrate 1 = .ok (.iconst 0, 1) := by decide +kernel
theorem dL_calibrate_2 : decode cL_calibrate 2 = .ok (.aload_n 0, 1) := by decide +kernel
theorem dL_calibrate_3 : decode cL_calibrate 3 = .ok (.iload_n 1, 1) := by decide +kernel
theorem dL_calibrate_4 : decode cL_calibrate 4 = .ok (.invokevirtual 103, 3) := by decide +kernel
theorem dL_calibrate_7 : decode cL_calibrate 7 = .ok (.i2l, 1) := by decide +kernel
theorem dL_calibrate_8 : decode cL_calibrate 8 = .ok (.lastore, 1) := by decide +kernel
theorem dL_calibrate_9 : decode cL_calibrate 9 = .ok (.goto 9, 3) := by decide +kernel
theorem dL_calibrate_12 : decode cL_calibrate 12 = .ok (.astore_n 3, 1) := by decide +kernel
theorem dL_calibrate_13 : decode cL_calibrate 13 = .ok (.iconst 1, 1) := by decide +kernel
theorem dL_calibrate_14 : decode cL_calibrate 14 = .ok (.ireturn, 1) := by decide +kernel
theorem dL_calibrate_15 : decode cL_calibrate 15 = .ok (.astore_n 3, 1) := by decide +kernel
theorem dL_calibrate_16 : decode cL_calibrate 16 = .ok (.iconst 2, 1) := by decide +kernel
theorem dL_calibrate_17 : decode cL_calibrate 17 = .ok (.ireturn, 1) := by decide +kernel
theorem dL_calibrate_18 : decode cL_calibrate 18 = .ok (.iconst 0, 1) := by decide +kernel
theorem dL_calibrate_19 : decode cL_calibrate 19 = .ok (.ireturn, 1) := by decide +kernel
set_option maxRecDepth 20000 in
theorem ggL_tighten_X7_tighten : GoodIn wsL_tighten wsX7_tighten := goodIn_ca (goodIn_ca (goodIn_r _ [7, 8, 9, 10, 11, 12, 13, 14, 15, 16, 17, 6, 18, 19, 20, 21, 22, 23, 24, 25, 26, 27, 28, 29, 30, 31, 32, 33, 34, 35, 36, 37, 38, 39, 40, 41, 42, 43, 44, 45, 46, 47, 48, 49, 50, 51, 52, 53, 54, 55, 56, 57, 58, 59, 60, 61, 62, 63, 64, 65, 66, 67, 68, 69, 70, 71, 72, 73, 74, 75, 76, 77, 78, 79, 80, 81, 82, 83, 84, 85, 86, 87, 88, 89, 90, 91, 92, 93] (by decide +kernel) (by decide +kernel)) (goodIn_sub (fun _ h => List.mem_cons_of_mem _ (List.mem_append_left _ (List.mem_append_right _ h))) (by decide +kernel))) (goodIn_sub (fun _ h => List.mem_cons_of_mem _ (List.mem_append_right _ h)) (by decide +kernel))
set_option maxRecDepth 20000 in
theorem gL_tighten_X7_tighten : GoodIn wsL_tighten (wsV RL 106 RX7 yX7_tighten wsX7_tighten) := goodIn_app (goodIn_of _ (by decide +kernel)) ggL_tighten_X7_tighten
theorem dL_tighten_0 : decode cL_tighten 0 = .ok (.aload_n 2, 1) := by decide +kernel
theorem dL_tighten_1 : decode cL_tighten 1 = .ok (.iconst 0, 1) := by decide +kernel
theorem dL_tighten_2 : decode cL_tighten 2 = .ok (.aload_n 0, 1) := by decide +kernel
theorem dL_tighten_3 : decode cL_tighten 3 = .ok (.iload_n 1, 1) := by decide +kernel
theorem dL_tighten_4 : decode cL_tighten 4 = .ok (.invokevirtual 106, 3) := by decide +kernel
theorem dL_tighten_7 : decode cL_tighten 7 = .ok (.i2l, 1) := by decide +kernel
theorem dL_tighten_8 : decode cL_tighten 8 = .ok (.lastore, 1) := by decide +kernel
theorem dL_tighten_9 : decode cL_tighten 9 = .ok (.goto 9, 3) := by decide +kernel
theorem dL_tighten_12 : decode cL_tighten 12 = .ok (.astore_n 3, 1) := by decide +kernel
theorem dL_tighten_13 : decode cL_tighten 13 = .ok (.iconst 1, 1) := by decide +kernel
theorem dL_tighten_14 : decode cL_tighten 14 = .ok (.ireturn, 1) := by decide +kernel
theorem dL_tighten_15 : decode cL_tighten 15 = .ok (.astore_n 3, 1) := by decide +kernel
theorem dL_tighten_16 : decode cL_tighten 16 = .ok (.iconst 2, 1) := by decide +kernel
theorem dL_tighten_17 : decode cL_tighten 17 = .ok (.ireturn, 1) := by decide +kernel
theorem dL_tighten_18 : decode cL_tighten 18 = .ok (.iconst 0, 1) := by decide +kernel
theorem dL_tighten_19 : decode cL_tighten 19 = .ok (.ireturn, 1) := by decide +kernel
set_option maxRecDepth 20000 in
theorem ggL_moisten_X7_moisten : GoodIn wsL_moisten wsX7_moisten := goodIn_ca (goodIn_ca (goodIn_r _ [7, 8, 9, 10, 11, 12, 13, 14, 15, 16, 6, 17, 18, 19, 20, 21, 22, 23, 24, 25, 26, 27, 28, 29, 30, 31, 32, 33, 34, 35, 36, 37, 38, 39, 40, 41, 42, 43, 44, 45, 46, 47, 48, 49, 50, 51, 52, 53, 54, 55, 56, 57, 58, 59, 60, 61, 62, 63, 64, 65, 66, 67, 68, 69, 70, 71, 72, 73, 74, 75, 76, 77, 78, 79, 80, 81, 82, 83, 84, 85, 86, 87, 88] (by decide +kernel) (by decide +kernel)) (goodIn_sub (fun _ h => List.mem_cons_of_mem _ (List.mem_append_left _ (List.mem_append_right _ h))) (by decide +kernel))) (goodIn_sub (fun _ h => List.mem_cons_of_mem _ (List.mem_append_right _ h)) (by decide +kernel))
set_option maxRecDepth 20000 in
theorem gL_moisten_X7_moisten : GoodIn wsL_moisten (wsV RL 109 RX7 yX7_moisten wsX7_moisten) := goodIn_app (goodIn_of _ (by decide +kernel)) ggL_moisten_X7_moisten
theorem dL_moisten_0 : decode cL_moisten 0 = .ok (.aload_n 2, 1) := by decide +kernel
theorem dL_moisten_1 : decode cL_moisten 1 = .ok (.iconst 0, 1) := by decide +kernel
theorem dL_moisten_2 : decode cL_moisten 2 = .ok (.aload_n 0, 1) := by decide +kernel
theorem dL_moisten_3 : decode cL_moisten 3 = .ok (.iload_n 1, 1) := by decide +kernel
theorem dL_moisten_4 : decode cL_moisten 4 = .ok (.invokevirtual 109, 3) := by decide +kernel
theorem dL_moisten_7 : decode cL_moisten 7 = .ok (.i2l, 1) := by decide +kernel
theorem dL_moisten_8 : decode cL_moisten 8 = .ok (.lastore, 1) := by decide +kernel
theorem dL_moisten_9 : decode cL_moisten 9 = .ok (.goto 9, 3) := by decide +kernel
theorem dL_moisten_12 : decode cL_moisten 12 = .ok (.astore_n 3, 1) := by decide +kernel
theorem dL_moisten_13 : decode cL_moisten 13 = .ok (.iconst 1, 1) := by decide +kernel
theorem dL_moisten_14 : decode cL_moisten 14 = .ok (.ireturn, 1) := by decide +kernel
theorem dL_moisten_15 : decode cL_moisten 15 = .ok (.astore_n 3, 1) := by decide +kernel
theorem dL_moisten_16 : decode cL_moisten 16 = .ok (.iconst 2, 1) := by decide +kernel
