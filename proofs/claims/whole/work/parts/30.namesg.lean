theorem dX8_zeroOf_25 : decode cX8_zeroOf 25 = .ok (.iadd, 1) := by decide +kernel
theorem dX8_zeroOf_26 : decode cX8_zeroOf 26 = .ok (.iaload, 1) := by decide +kernel
theorem dX8_zeroOf_27 : decode cX8_zeroOf 27 = .ok (.invokevirtual 212, 3) := by decide +kernel
theorem dX8_zeroOf_30 : decode cX8_zeroOf 30 = .ok (.ireturn, 1) := by decide +kernel
set_option maxRecDepth 20000 in
theorem ggX8_boxOf_X8_is : GoodIn wsX8_boxOf wsX8_is := goodIn_r _ [6, 1, 7, 8, 5, 9, 22, 23, 24, 25, 26, 27, 28, 29, 30, 31, 32, 33, 34, 35, 36, 37, 38, 39, 40, 41, 42, 43] (by decide +kernel) (by decide +kernel)
set_option maxRecDepth 20000 in
theorem gX8_boxOf_X8_is : GoodIn wsX8_boxOf (wsV RX8 230 RX8 yX8_is wsX8_is) := goodIn_app (goodIn_of _ (by decide +kernel)) ggX8_boxOf_X8_is
set_option maxRecDepth 20000 in
theorem ggX8_boxOf_X8_refuse : GoodIn wsX8_boxOf wsX8_refuse := goodIn_r _ [13, 14, 22, 23, 24, 25, 26, 27, 28, 29, 30, 31, 32, 33, 34, 35, 36, 37, 38, 39, 40, 41, 42, 43] (by decide +kernel) (by decide +kernel)
set_option maxRecDepth 20000 in
theorem gX8_boxOf_X8_refuse : GoodIn wsX8_boxOf (wsV RX8 206 RX8 yX8_refuse wsX8_refuse) := goodIn_app (goodIn_of _ (by decide +kernel)) ggX8_boxOf_X8_refuse
set_option maxRecDepth 20000 in
theorem ggX8_boxOf_X8_i : GoodIn wsX8_boxOf wsX8_i := goodIn_r _ [17] (by decide +kernel) (by decide +kernel)
set_option maxRecDepth 20000 in
theorem gX8_boxOf_X8_i : GoodIn wsX8_boxOf (va_wsS RX8 50 yX8_i wsX8_i) := goodIn_app (goodIn_of _ (by decide +kernel)) ggX8_boxOf_X8_i
set_option maxRecDepth 20000 in
theorem ggX8_boxOf_X8_told : GoodIn wsX8_boxOf wsX8_told := goodIn_r _ [21, 14, 22, 23, 24, 25, 26, 27, 28, 29, 30, 31, 32, 33, 34, 35, 36, 37, 38, 39, 40, 41, 42, 43] (by decide +kernel) (by decide +kernel)
set_option maxRecDepth 20000 in
theorem gX8_boxOf_X8_told : GoodIn wsX8_boxOf (wsV RX8 212 RX8 yX8_told wsX8_told) := goodIn_app (goodIn_of _ (by decide +kernel)) ggX8_boxOf_X8_told
theorem dX8_boxOf_0 : decode cX8_boxOf 0 = .ok (.aload_n 0, 1) := by decide +kernel
theorem dX8_boxOf_1 : decode cX8_boxOf 1 = .ok (.iload_n 1, 1) := by decide +kernel
theorem dX8_boxOf_2 : decode cX8_boxOf 2 = .ok (.invokevirtual 230, 3) := by decide +kernel
theorem dX8_boxOf_5 : decode cX8_boxOf 5 = .ok (.ifCond .ne 9, 3) := by decide +kernel
theorem dX8_boxOf_8 : decode cX8_boxOf 8 = .ok (.aload_n 0, 1) := by decide +kernel
theorem dX8_boxOf_9 : decode cX8_boxOf 9 = .ok (.iconst 1, 1) := by decide +kernel
theorem dX8_boxOf_10 : decode cX8_boxOf 10 = .ok (.invokevirtual 206, 3) := by decide +kernel
theorem dX8_boxOf_13 : decode cX8_boxOf 13 = .ok (.ireturn, 1) := by decide +kernel
theorem dX8_boxOf_14 : decode cX8_boxOf 14 = .ok (.aload_n 0, 1) := by decide +kernel
theorem dX8_boxOf_15 : decode cX8_boxOf 15 = .ok (.aload_n 0, 1) := by decide +kernel
theorem dX8_boxOf_16 : decode cX8_boxOf 16 = .ok (.getfield 16, 3) := by decide +kernel
theorem dX8_boxOf_19 : decode cX8_boxOf 19 = .ok (.iload_n 1, 1) := by decide +kernel
theorem dX8_boxOf_20 : decode cX8_boxOf 20 = .ok (.invokestatic 50, 3) := by decide +kernel
theorem dX8_boxOf_23 : decode cX8_boxOf 23 = .ok (.bipush 7, 2) := by decide +kernel
theorem dX8_boxOf_25 : decode cX8_boxOf 25 = .ok (.iadd, 1) := by decide +kernel
theorem dX8_boxOf_26 : decode cX8_boxOf 26 = .ok (.iaload, 1) := by decide +kernel
theorem dX8_boxOf_27 : decode cX8_boxOf 27 = .ok (.invokevirtual 212, 3) := by decide +kernel
theorem dX8_boxOf_30 : decode cX8_boxOf 30 = .ok (.ireturn, 1) := by decide +kernel
set_option maxRecDepth 20000 in
theorem ggX8_surroundingOf_X8_is : GoodIn wsX8_surroundingOf wsX8_is := goodIn_r _ [5, 6, 7, 8, 4, 9, 31, 32, 33, 34, 35, 36, 37, 38, 39, 40, 41, 42, 43, 44, 45, 46, 47, 48, 49, 50, 51, 52] (by decide +kernel) (by decide +kernel)
set_option maxRecDepth 20000 in
theorem gX8_surroundingOf_X8_is : GoodIn wsX8_surroundingOf (wsV RX8 230 RX8 yX8_is wsX8_is) := goodIn_app (goodIn_of _ (by decide +kernel)) ggX8_surroundingOf_X8_is
set_option maxRecDepth 20000 in
theorem ggX8_surroundingOf_X8_refuse : GoodIn wsX8_surroundingOf wsX8_refuse := goodIn_r _ [13, 14, 31, 32, 33, 34, 35, 36, 37, 38, 39, 40, 41, 42, 43, 44, 45, 46, 47, 48, 49, 50, 51, 52] (by decide +kernel) (by decide +kernel)
set_option maxRecDepth 20000 in
theorem gX8_surroundingOf_X8_refuse : GoodIn wsX8_surroundingOf (wsV RX8 206 RX8 yX8_refuse wsX8_refuse) := goodIn_app (goodIn_of _ (by decide +kernel)) ggX8_surroundingOf_X8_refuse
set_option maxRecDepth 20000 in
theorem ggX8_surroundingOf_X8_around : GoodIn wsX8_surroundingOf wsX8_around := goodIn_r _ [18, 19, 6, 20, 21, 22, 4, 23, 24, 25, 26, 31, 32, 33, 34, 35, 36, 37, 38, 39, 40, 41, 42, 43, 44, 45, 46, 47, 48, 49, 50, 51, 52] (by decide +kernel) (by decide +kernel)
set_option maxRecDepth 20000 in
theorem gX8_surroundingOf_X8_around : GoodIn wsX8_surroundingOf (wsV RX8 67 RX8 yX8_around wsX8_around) := goodIn_app (goodIn_of _ (by decide +kernel)) ggX8_surroundingOf_X8_around
set_option maxRecDepth 20000 in
theorem ggX8_surroundingOf_X8_told : GoodIn wsX8_surroundingOf wsX8_told := goodIn_r _ [30, 14, 31, 32, 33, 34, 35, 36, 37, 38, 39, 40, 41, 42, 43, 44, 45, 46, 47, 48, 49, 50, 51, 52] (by decide +kernel) (by decide +kernel)
set_option maxRecDepth 20000 in
theorem gX8_surroundingOf_X8_told : GoodIn wsX8_surroundingOf (wsV RX8 212 RX8 yX8_told wsX8_told) := goodIn_app (goodIn_of _ (by decide +kernel)) ggX8_surroundingOf_X8_told
theorem dX8_surroundingOf_0 : decode cX8_surroundingOf 0 = .ok (.aload_n 0, 1) := by decide +kernel
theorem dX8_surroundingOf_1 : decode cX8_surroundingOf 1 = .ok (.iload_n 1, 1) := by decide +kernel
theorem dX8_surroundingOf_2 : decode cX8_surroundingOf 2 = .ok (.invokevirtual 230, 3) := by decide +kernel
theorem dX8_surroundingOf_5 : decode cX8_surroundingOf 5 = .ok (.ifCond .ne 9, 3) := by decide +kernel
theorem dX8_surroundingOf_8 : decode cX8_surroundingOf 8 = .ok (.aload_n 0, 1) := by decide +kernel
theorem dX8_surroundingOf_9 : decode cX8_surroundingOf 9 = .ok (.iconst 1, 1) := by decide +kernel
theorem dX8_surroundingOf_10 : decode cX8_surroundingOf 10 = .ok (.invokevirtual 206, 3) := by decide +kernel
theorem dX8_surroundingOf_13 : decode cX8_surroundingOf 13 = .ok (.ireturn, 1) := by decide +kernel
theorem dX8_surroundingOf_14 : decode cX8_surroundingOf 14 = .ok (.aload_n 0, 1) := by decide +kernel
theorem dX8_surroundingOf_15 : decode cX8_surroundingOf 15 = .ok (.aload_n 0, 1) := by decide +kernel
theorem dX8_surroundingOf_16 : decode cX8_surroundingOf 16 = .ok (.iload_n 1, 1) := by decide +kernel
theorem dX8_surroundingOf_17 : decode cX8_surroundingOf 17 = .ok (.invokevirtual 67, 3) := by decide +kernel
theorem dX8_surroundingOf_20 : decode cX8_surroundingOf 20 = .ok (.invokevirtual 212, 3) := by decide +kernel
theorem dX8_surroundingOf_23 : decode cX8_surroundingOf 23 = .ok (.ireturn, 1) := by decide +kernel
set_option maxRecDepth 20000 in
theorem ggX8_rawValue_X8_is : GoodIn wsX8_rawValue wsX8_is := goodIn_r _ [5, 6, 7, 8, 4, 9, 43, 44, 45, 46, 47, 48, 49, 50, 51, 52, 53, 54, 55, 56, 57, 58, 59, 60, 61, 62, 63, 64] (by decide +kernel) (by decide +kernel)
set_option maxRecDepth 20000 in
theorem gX8_rawValue_X8_is : GoodIn wsX8_rawValue (wsV RX8 230 RX8 yX8_is wsX8_is) := goodIn_app (goodIn_of _ (by decide +kernel)) ggX8_rawValue_X8_is
set_option maxRecDepth 20000 in
theorem ggX8_rawValue_X8_refuse : GoodIn wsX8_rawValue wsX8_refuse := goodIn_r _ [13, 14, 43, 44, 45, 46, 47, 48, 49, 50, 51, 52, 53, 54, 55, 56, 57, 58, 59, 60, 61, 62, 63, 64] (by decide +kernel) (by decide +kernel)
set_option maxRecDepth 20000 in
theorem gX8_rawValue_X8_refuse : GoodIn wsX8_rawValue (wsV RX8 206 RX8 yX8_refuse wsX8_refuse) := goodIn_app (goodIn_of _ (by decide +kernel)) ggX8_rawValue_X8_refuse
set_option maxRecDepth 20000 in
theorem ggX8_rawValue_X8_raw : GoodIn wsX8_rawValue wsX8_raw := goodIn_r _ [18, 6, 19, 20, 21, 4, 22, 23, 24, 25, 26, 27, 28, 29, 30, 31, 32, 33, 34, 35, 36, 37, 38, 43, 44, 45, 46, 47, 48, 49, 50, 51, 52, 53, 54, 55, 56, 57, 58, 59, 60, 61, 62, 63, 64] (by decide +kernel) (by decide +kernel)
set_option maxRecDepth 20000 in
theorem gX8_rawValue_X8_raw : GoodIn wsX8_rawValue (wsV RX8 76 RX8 yX8_raw wsX8_raw) := goodIn_app (goodIn_of _ (by decide +kernel)) ggX8_rawValue_X8_raw
set_option maxRecDepth 20000 in
theorem ggX8_rawValue_X8_told : GoodIn wsX8_rawValue wsX8_told := goodIn_r _ [42, 14, 43, 44, 45, 46, 47, 48, 49, 50, 51, 52, 53, 54, 55, 56, 57, 58, 59, 60, 61, 62, 63, 64] (by decide +kernel) (by decide +kernel)
set_option maxRecDepth 20000 in
theorem gX8_rawValue_X8_told : GoodIn wsX8_rawValue (wsV RX8 212 RX8 yX8_told wsX8_told) := goodIn_app (goodIn_of _ (by decide +kernel)) ggX8_rawValue_X8_told
theorem dX8_rawValue_0 : decode cX8_rawValue 0 = .ok (.aload_n 0, 1) := by decide +kernel
theorem dX8_rawValue_1 : decode cX8_rawValue 1 = .ok (.iload_n 1, 1) := by decide +kernel
theorem dX8_rawValue_2 : decode cX8_rawValue 2 = .ok (.invokevirtual 230, 3) := by decide +kernel
theorem dX8_rawValue_5 : decode cX8_rawValue 5 = .ok (.ifCond .ne 9, 3) := by decide +kernel
theorem dX8_rawValue_8 : decode cX8_rawValue 8 = .ok (.aload_n 0, 1) := by decide +kernel
theorem dX8_rawValue_9 : decode cX8_rawValue 9 = .ok (.iconst 1, 1) := by decide +kernel
theorem dX8_rawValue_10 : decode cX8_rawValue 10 = .ok (.invokevirtual 206, 3) := by decide +kernel
theorem dX8_rawValue_13 : decode cX8_rawValue 13 = .ok (.ireturn, 1) := by decide +kernel
theorem dX8_rawValue_14 : decode cX8_rawValue 14 = .ok (.aload_n 0, 1) := by decide +kernel
theorem dX8_rawValue_15 : decode cX8_rawValue 15 = .ok (.aload_n 0, 1) := by decide +kernel
theorem dX8_rawValue_16 : decode cX8_rawValue 16 = .ok (.iload_n 1, 1) := by decide +kernel
theorem dX8_rawValue_17 : decode cX8_rawValue 17 = .ok (.invokevirtual 76, 3) := by decide +kernel
theorem dX8_rawValue_20 : decode cX8_rawValue 20 = .ok (.invokevirtual 212, 3) := by decide +kernel
theorem dX8_rawValue_23 : decode cX8_rawValue 23 = .ok (.ireturn, 1) := by decide +kernel
set_option maxRecDepth 20000 in
theorem ggX8_readingOf_X8_is : GoodIn wsX8_readingOf wsX8_is := goodIn_r _ [5, 6, 7, 8, 4, 9, 47, 48, 49, 50, 51, 52, 53, 54, 55, 56, 57, 58, 59, 60, 61, 62, 63, 64, 65, 66, 67, 68] (by decide +kernel) (by decide +kernel)
set_option maxRecDepth 20000 in
theorem gX8_readingOf_X8_is : GoodIn wsX8_readingOf (wsV RX8 230 RX8 yX8_is wsX8_is) := goodIn_app (goodIn_of _ (by decide +kernel)) ggX8_readingOf_X8_is
set_option maxRecDepth 20000 in
theorem ggX8_readingOf_X8_refuse : GoodIn wsX8_readingOf wsX8_refuse := goodIn_r _ [13, 14, 47, 48, 49, 50, 51, 52, 53, 54, 55, 56, 57, 58, 59, 60, 61, 62, 63, 64, 65, 66, 67, 68] (by decide +kernel) (by decide +kernel)
set_option maxRecDepth 20000 in
theorem gX8_readingOf_X8_refuse : GoodIn wsX8_readingOf (wsV RX8 206 RX8 yX8_refuse wsX8_refuse) := goodIn_app (goodIn_of _ (by decide +kernel)) ggX8_readingOf_X8_refuse
set_option maxRecDepth 20000 in
theorem ggX8_readingOf_X8_reading : GoodIn wsX8_readingOf wsX8_reading := goodIn_r _ [18, 6, 19, 20, 21, 4, 22, 23, 24, 25, 26, 27, 28, 29, 30, 31, 32, 33, 34, 35, 36, 37, 38, 39, 40, 41, 42, 47, 48, 49, 50, 51, 52, 53, 54, 55, 56, 57, 58, 59, 60, 61, 62, 63, 64, 65, 66, 67, 68] (by decide +kernel) (by decide +kernel)
set_option maxRecDepth 20000 in
theorem gX8_readingOf_X8_reading : GoodIn wsX8_readingOf (wsV RX8 244 RX8 yX8_reading wsX8_reading) := goodIn_app (goodIn_of _ (by decide +kernel)) ggX8_readingOf_X8_reading
set_option maxRecDepth 20000 in
theorem ggX8_readingOf_X8_told : GoodIn wsX8_readingOf wsX8_told := goodIn_r _ [46, 14, 47, 48, 49, 50, 51, 52, 53, 54, 55, 56, 57, 58, 59, 60, 61, 62, 63, 64, 65, 66, 67, 68] (by decide +kernel) (by decide +kernel)
set_option maxRecDepth 20000 in
theorem gX8_readingOf_X8_told : GoodIn wsX8_readingOf (wsV RX8 212 RX8 yX8_told wsX8_told) := goodIn_app (goodIn_of _ (by decide +kernel)) ggX8_readingOf_X8_told
theorem dX8_readingOf_0 : decode cX8_readingOf 0 = .ok (.aload_n 0, 1) := by decide +kernel
theorem dX8_readingOf_1 : decode cX8_readingOf 1 = .ok (.iload_n 1, 1) := by decide +kernel
theorem dX8_readingOf_2 : decode cX8_readingOf 2 = .ok (.invokevirtual 230, 3) := by decide +kernel
theorem dX8_readingOf_5 : decode cX8_readingOf 5 = .ok (.ifCond .ne 9, 3) := by decide +kernel
theorem dX8_readingOf_8 : decode cX8_readingOf 8 = .ok (.aload_n 0, 1) := by decide +kernel
theorem dX8_readingOf_9 : decode cX8_readingOf 9 = .ok (.iconst 1, 1) := by decide +kernel
theorem dX8_readingOf_10 : decode cX8_readingOf 10 = .ok (.invokevirtual 206, 3) := by decide +kernel
theorem dX8_readingOf_13 : decode cX8_readingOf 13 = .ok (.ireturn, 1) := by decide +kernel
theorem dX8_readingOf_14 : decode cX8_readingOf 14 = .ok (.aload_n 0, 1) := by decide +kernel
theorem dX8_readingOf_15 : decode cX8_readingOf 15 = .ok (.aload_n 0, 1) := by decide +kernel
theorem dX8_readingOf_16 : decode cX8_readingOf 16 = .ok (.iload_n 1, 1) := by decide +kernel
theorem dX8_readingOf_17 : decode cX8_readingOf 17 = .ok (.invokevirtual 244, 3) := by decide +kernel
theorem dX8_readingOf_20 : decode cX8_readingOf 20 = .ok (.invokevirtual 212, 3) := by decide +kernel
theorem dX8_readingOf_23 : decode cX8_readingOf 23 = .ok (.ireturn, 1) := by decide +kernel
set_option maxRecDepth 20000 in
theorem ggX8_errorOf_X8_is : GoodIn wsX8_errorOf wsX8_is := goodIn_r _ [5, 6, 7, 8, 4, 9, 47, 48, 49, 50, 51, 52, 53, 54, 55, 56, 57, 58, 59, 60, 61, 62, 63, 64, 65, 66, 67, 68] (by decide +kernel) (by decide +kernel)
set_option maxRecDepth 20000 in
theorem gX8_errorOf_X8_is : GoodIn wsX8_errorOf (wsV RX8 230 RX8 yX8_is wsX8_is) := goodIn_app (goodIn_of _ (by decide +kernel)) ggX8_errorOf_X8_is
set_option maxRecDepth 20000 in
theorem ggX8_errorOf_X8_refuse : GoodIn wsX8_errorOf wsX8_refuse := goodIn_r _ [13, 14, 47, 48, 49, 50, 51, 52, 53, 54, 55, 56, 57, 58, 59, 60, 61, 62, 63, 64, 65, 66, 67, 68] (by decide +kernel) (by decide +kernel)
set_option maxRecDepth 20000 in
theorem gX8_errorOf_X8_refuse : GoodIn wsX8_errorOf (wsV RX8 206 RX8 yX8_refuse wsX8_refuse) := goodIn_app (goodIn_of _ (by decide +kernel)) ggX8_errorOf_X8_refuse
set_option maxRecDepth 20000 in
theorem ggX8_errorOf_X8_reading : GoodIn wsX8_errorOf wsX8_reading := goodIn_r _ [18, 6, 19, 20, 21, 4, 22, 23, 24, 25, 26, 27, 28, 29, 30, 31, 32, 33, 34, 35, 36, 37, 38, 39, 40, 41, 42, 47, 48, 49, 50, 51, 52, 53, 54, 55, 56, 57, 58, 59, 60, 61, 62, 63, 64, 65, 66, 67, 68] (by decide +kernel) (by decide +kernel)
set_option maxRecDepth 20000 in
theorem gX8_errorOf_X8_reading : GoodIn wsX8_errorOf (wsV RX8 244 RX8 yX8_reading wsX8_reading) := goodIn_app (goodIn_of _ (by decide +kernel)) ggX8_errorOf_X8_reading
set_option maxRecDepth 20000 in
theorem ggX8_errorOf_X8_around : GoodIn wsX8_errorOf wsX8_around := goodIn_r _ [37, 38, 6, 39, 40, 41, 4, 42, 27, 28, 29, 47, 48, 49, 50, 51, 52, 53, 54, 55, 56, 57, 58, 59, 60, 61, 62, 63, 64, 65, 66, 67, 68] (by decide +kernel) (by decide +kernel)
set_option maxRecDepth 20000 in
theorem gX8_errorOf_X8_around : GoodIn wsX8_errorOf (wsV RX8 67 RX8 yX8_around wsX8_around) := goodIn_app (goodIn_of _ (by decide +kernel)) ggX8_errorOf_X8_around
set_option maxRecDepth 20000 in
theorem ggX8_errorOf_X8_told : GoodIn wsX8_errorOf wsX8_told := goodIn_r _ [46, 14, 47, 48, 49, 50, 51, 52, 53, 54, 55, 56, 57, 58, 59, 60, 61, 62, 63, 64, 65, 66, 67, 68] (by decide +kernel) (by decide +kernel)
set_option maxRecDepth 20000 in
theorem gX8_errorOf_X8_told : GoodIn wsX8_errorOf (wsV RX8 212 RX8 yX8_told wsX8_told) := goodIn_app (goodIn_of _ (by decide +kernel)) ggX8_errorOf_X8_told
theorem dX8_errorOf_0 : decode cX8_errorOf 0 = .ok (.aload_n 0, 1) := by decide +kernel
theorem dX8_errorOf_1 : decode cX8_errorOf 1 = .ok (.iload_n 1, 1) := by decide +kernel
theorem dX8_errorOf_2 : decode cX8_errorOf 2 = .ok (.invokevirtual 230, 3) := by decide +kernel
theorem dX8_errorOf_5 : decode cX8_errorOf 5 = .ok (.ifCond .ne 9, 3) := by decide +kernel
theorem dX8_errorOf_8 : decode cX8_errorOf 8 = .ok (.aload_n 0, 1) := by decide +kernel
theorem dX8_errorOf_9 : decode cX8_errorOf 9 = .ok (.iconst 1, 1) := by decide +kernel
theorem dX8_errorOf_10 : decode cX8_errorOf 10 = .ok (.invokevirtual 206, 3) := by decide +kernel
theorem dX8_errorOf_13 : decode cX8_errorOf 13 = .ok (.ireturn, 1) := by decide +kernel
theorem dX8_errorOf_14 : decode cX8_errorOf 14 = .ok (.aload_n 0, 1) := by decide +kernel
theorem dX8_errorOf_15 : decode cX8_errorOf 15 = .ok (.aload_n 0, 1) := by decide +kernel
theorem dX8_errorOf_16 : decode cX8_errorOf 16 = .ok (.iload_n 1, 1) := by decide +kernel
theorem dX8_errorOf_17 : decode cX8_errorOf 17 = .ok (.invokevirtual 244, 3) := by decide +kernel
theorem dX8_errorOf_20 : decode cX8_errorOf 20 = .ok (.aload_n 0, 1) := by decide +kernel
theorem dX8_errorOf_21 : decode cX8_errorOf 21 = .ok (.iload_n 1, 1) := by decide +kernel
theorem dX8_errorOf_22 : decode cX8_errorOf 22 = .ok (.invokevirtual 67, 3) := by decide +kernel
theorem dX8_errorOf_25 : decode cX8_errorOf 25 = .ok (.isub, 1) := by decide +kernel
theorem dX8_errorOf_26 : decode cX8_errorOf 26 = .ok (.invokevirtual 212, 3) := by decide +kernel
theorem dX8_errorOf_29 : decode cX8_errorOf 29 = .ok (.ireturn, 1) := by decide +kernel
set_option maxRecDepth 20000 in
theorem ggX8_isSettled_X8_is : GoodIn wsX8_isSettled wsX8_is := goodIn_r _ [5, 6, 7, 8, 4, 9, 43, 44, 45, 46, 47, 48, 49, 50, 51, 52, 53, 54, 55, 56, 57, 58, 59, 60, 61, 62, 63, 64] (by decide +kernel) (by decide +kernel)
set_option maxRecDepth 20000 in
theorem gX8_isSettled_X8_is : GoodIn wsX8_isSettled (wsV RX8 230 RX8 yX8_is wsX8_is) := goodIn_app (goodIn_of _ (by decide +kernel)) ggX8_isSettled_X8_is
set_option maxRecDepth 20000 in
theorem ggX8_isSettled_X8_refuses : GoodIn wsX8_isSettled wsX8_refuses := goodIn_r _ [13, 14, 43, 44, 45, 46, 47, 48, 49, 50, 51, 52, 53, 54, 55, 56, 57, 58, 59, 60, 61, 62, 63, 64] (by decide +kernel) (by decide +kernel)
set_option maxRecDepth 20000 in
theorem gX8_isSettled_X8_refuses : GoodIn wsX8_isSettled (wsV RX8 233 RX8 yX8_refuses wsX8_refuses) := goodIn_app (goodIn_of _ (by decide +kernel)) ggX8_isSettled_X8_refuses
set_option maxRecDepth 20000 in
theorem ggX8_isSettled_X8_hasSettled : GoodIn wsX8_isSettled wsX8_hasSettled := goodIn_r _ [18, 19, 20, 21, 4, 22, 6, 23, 24, 25, 26, 27, 28, 29, 30, 31, 32, 33, 34, 35, 36, 37, 38, 43, 44, 45, 46, 47, 48, 49, 50, 51, 52, 53, 54, 55, 56, 57, 58, 59, 60, 61, 62, 63, 64] (by decide +kernel) (by decide +kernel)
set_option maxRecDepth 20000 in
theorem gX8_isSettled_X8_hasSettled : GoodIn wsX8_isSettled (wsV RX8 85 RX8 yX8_hasSettled wsX8_hasSettled) := goodIn_app (goodIn_of _ (by decide +kernel)) ggX8_isSettled_X8_hasSettled
set_option maxRecDepth 20000 in
theorem ggX8_isSettled_X8_says : GoodIn wsX8_isSettled wsX8_says := goodIn_r _ [42, 14, 43, 44, 45, 46, 47, 48, 49, 50, 51, 52, 53, 54, 55, 56, 57, 58, 59, 60, 61, 62, 63, 64] (by decide +kernel) (by decide +kernel)
set_option maxRecDepth 20000 in
theorem gX8_isSettled_X8_says : GoodIn wsX8_isSettled (wsV RX8 236 RX8 yX8_says wsX8_says) := goodIn_app (goodIn_of _ (by decide +kernel)) ggX8_isSettled_X8_says
theorem dX8_isSettled_0 : decode cX8_isSettled 0 = .ok (.aload_n 0, 1) := by decide +kernel
theorem dX8_isSettled_1 : decode cX8_isSettled 1 = .ok (.iload_n 1, 1) := by decide +kernel
theorem dX8_isSettled_2 : decode cX8_isSettled 2 = .ok (.invokevirtual 230, 3) := by decide +kernel
theorem dX8_isSettled_5 : decode cX8_isSettled 5 = .ok (.ifCond .ne 8, 3) := by decide +kernel
theorem dX8_isSettled_8 : decode cX8_isSettled 8 = .ok (.aload_n 0, 1) := by decide +kernel
theorem dX8_isSettled_9 : decode cX8_isSettled 9 = .ok (.invokevirtual 233, 3) := by decide +kernel
theorem dX8_isSettled_12 : decode cX8_isSettled 12 = .ok (.ireturn, 1) := by decide +kernel
theorem dX8_isSettled_13 : decode cX8_isSettled 13 = .ok (.aload_n 0, 1) := by decide +kernel
theorem dX8_isSettled_14 : decode cX8_isSettled 14 = .ok (.aload_n 0, 1) := by decide +kernel
theorem dX8_isSettled_15 : decode cX8_isSettled 15 = .ok (.iload_n 1, 1) := by decide +kernel
theorem dX8_isSettled_16 : decode cX8_isSettled 16 = .ok (.invokevirtual 85, 3) := by decide +kernel
theorem dX8_isSettled_19 : decode cX8_isSettled 19 = .ok (.invokevirtual 236, 3) := by decide +kernel
theorem dX8_isSettled_22 : decode cX8_isSettled 22 = .ok (.ireturn, 1) := by decide +kernel
set_option maxRecDepth 20000 in
theorem ggX8_whyUnusable_X8_is : GoodIn wsX8_whyUnusable wsX8_is := goodIn_r _ [5, 6, 7, 8, 4, 9, 34, 35, 36, 37, 38, 39, 40, 41, 42, 43, 44, 45, 46, 47, 48, 49, 50, 51, 52, 53, 54, 55] (by decide +kernel) (by decide +kernel)
set_option maxRecDepth 20000 in
theorem gX8_whyUnusable_X8_is : GoodIn wsX8_whyUnusable (wsV RX8 230 RX8 yX8_is wsX8_is) := goodIn_app (goodIn_of _ (by decide +kernel)) ggX8_whyUnusable_X8_is
set_option maxRecDepth 20000 in
theorem ggX8_whyUnusable_X8_refuse : GoodIn wsX8_whyUnusable wsX8_refuse := goodIn_r _ [13, 14, 34, 35, 36, 37, 38, 39, 40, 41, 42, 43, 44, 45, 46, 47, 48, 49, 50, 51, 52, 53, 54, 55] (by decide +kernel) (by decide +kernel)
set_option maxRecDepth 20000 in
theorem gX8_whyUnusable_X8_refuse : GoodIn wsX8_whyUnusable (wsV RX8 206 RX8 yX8_refuse wsX8_refuse) := goodIn_app (goodIn_of _ (by decide +kernel)) ggX8_whyUnusable_X8_refuse
set_option maxRecDepth 20000 in
theorem ggX8_whyUnusable_X8_flaw : GoodIn wsX8_whyUnusable wsX8_flaw := goodIn_r _ [18, 6, 19, 20, 4, 21, 22, 23, 24, 25, 26, 27, 28, 29, 34, 35, 36, 37, 38, 39, 40, 41, 42, 43, 44, 45, 46, 47, 48, 49, 50, 51, 52, 53, 54, 55] (by decide +kernel) (by decide +kernel)
set_option maxRecDepth 20000 in
theorem gX8_whyUnusable_X8_flaw : GoodIn wsX8_whyUnusable (wsV RX8 82 RX8 yX8_flaw wsX8_flaw) := goodIn_app (goodIn_of _ (by decide +kernel)) ggX8_whyUnusable_X8_flaw
set_option maxRecDepth 20000 in
theorem ggX8_whyUnusable_X8_told : GoodIn wsX8_whyUnusable wsX8_told := goodIn_r _ [33, 14, 34, 35, 36, 37, 38, 39, 40, 41, 42, 43, 44, 45, 46, 47, 48, 49, 50, 51, 52, 53, 54, 55] (by decide +kernel) (by decide +kernel)
set_option maxRecDepth 20000 in
theorem gX8_whyUnusable_X8_told : GoodIn wsX8_whyUnusable (wsV RX8 212 RX8 yX8_told wsX8_told) := goodIn_app (goodIn_of _ (by decide +kernel)) ggX8_whyUnusable_X8_told
theorem dX8_whyUnusable_0 : decode cX8_whyUnusable 0 = .ok (.aload_n 0, 1) := by decide +kernel
theorem dX8_whyUnusable_1 : decode cX8_whyUnusable 1 = .ok (.iload_n 1, 1) := by decide +kernel
theorem dX8_whyUnusable_2 : decode cX8_whyUnusable 2 = .ok (.invokevirtual 230, 3) := by decide +kernel
theorem dX8_whyUnusable_5 : decode cX8_whyUnusable 5 = .ok (.ifCond .ne 9, 3) := by decide +kernel
theorem dX8_whyUnusable_8 : decode cX8_whyUnusable 8 = .ok (.aload_n 0, 1) := by decide +kernel
theorem dX8_whyUnusable_9 : decode cX8_whyUnusable 9 = .ok (.iconst 1, 1) := by decide +kernel
theorem dX8_whyUnusable_10 : decode cX8_whyUnusable 10 = .ok (.invokevirtual 206, 3) := by decide +kernel
theorem dX8_whyUnusable_13 : decode cX8_whyUnusable 13 = .ok (.ireturn, 1) := by decide +kernel
theorem dX8_whyUnusable_14 : decode cX8_whyUnusable 14 = .ok (.aload_n 0, 1) := by decide +kernel
theorem dX8_whyUnusable_15 : decode cX8_whyUnusable 15 = .ok (.aload_n 0, 1) := by decide +kernel
theorem dX8_whyUnusable_16 : decode cX8_whyUnusable 16 = .ok (.iload_n 1, 1) := by decide +kernel
theorem dX8_whyUnusable_17 : decode cX8_whyUnusable 17 = .ok (.invokevirtual 82, 3) := by decide +kernel
theorem dX8_whyUnusable_20 : decode cX8_whyUnusable 20 = .ok (.invokevirtual 212, 3) := by decide +kernel
theorem dX8_whyUnusable_23 : decode cX8_whyUnusable 23 = .ok (.ireturn, 1) := by decide +kernel
set_option maxRecDepth 20000 in
theorem ggX8_weightOf_X8_is : GoodIn wsX8_weightOf wsX8_is := goodIn_r _ [5, 6, 7, 8, 4, 9, 38, 39, 40, 41, 42, 43, 44, 45, 46, 47, 48, 49, 50, 51, 52, 53, 54, 55, 56, 57, 58, 59] (by decide +kernel) (by decide +kernel)
set_option maxRecDepth 20000 in
theorem gX8_weightOf_X8_is : GoodIn wsX8_weightOf (wsV RX8 230 RX8 yX8_is wsX8_is) := goodIn_app (goodIn_of _ (by decide +kernel)) ggX8_weightOf_X8_is
set_option maxRecDepth 20000 in
theorem ggX8_weightOf_X8_refuse : GoodIn wsX8_weightOf wsX8_refuse := goodIn_r _ [13, 14, 38, 39, 40, 41, 42, 43, 44, 45, 46, 47, 48, 49, 50, 51, 52, 53, 54, 55, 56, 57, 58, 59] (by decide +kernel) (by decide +kernel)
set_option maxRecDepth 20000 in
theorem gX8_weightOf_X8_refuse : GoodIn wsX8_weightOf (wsV RX8 206 RX8 yX8_refuse wsX8_refuse) := goodIn_app (goodIn_of _ (by decide +kernel)) ggX8_weightOf_X8_refuse
set_option maxRecDepth 20000 in
theorem ggX8_weightOf_X8_weight : GoodIn wsX8_weightOf wsX8_weight := goodIn_r _ [18, 6, 19, 20, 21, 4, 22, 23, 24, 25, 26, 27, 28, 29, 30, 31, 32, 33, 38, 39, 40, 41, 42, 43, 44, 45, 46, 47, 48, 49, 50, 51, 52, 53, 54, 55, 56, 57, 58, 59] (by decide +kernel) (by decide +kernel)
set_option maxRecDepth 20000 in
theorem gX8_weightOf_X8_weight : GoodIn wsX8_weightOf (wsV RX8 247 RX8 yX8_weight wsX8_weight) := goodIn_app (goodIn_of _ (by decide +kernel)) ggX8_weightOf_X8_weight
set_option maxRecDepth 20000 in
theorem ggX8_weightOf_X8_told : GoodIn wsX8_weightOf wsX8_told := goodIn_r _ [37, 14, 38, 39, 40, 41, 42, 43, 44, 45, 46, 47, 48, 49, 50, 51, 52, 53, 54, 55, 56, 57, 58, 59] (by decide +kernel) (by decide +kernel)
set_option maxRecDepth 20000 in
theorem gX8_weightOf_X8_told : GoodIn wsX8_weightOf (wsV RX8 212 RX8 yX8_told wsX8_told) := goodIn_app (goodIn_of _ (by decide +kernel)) ggX8_weightOf_X8_told
theorem dX8_weightOf_0 : decode cX8_weightOf 0 = .ok (.aload_n 0, 1) := by decide +kernel
theorem dX8_weightOf_1 : decode cX8_weightOf 1 = .ok (.iload_n 1, 1) := by decide +kernel
theorem dX8_weightOf_2 : decode cX8_weightOf 2 = .ok (.invokevirtual 230, 3) := by decide +kernel
theorem dX8_weightOf_5 : decode cX8_weightOf 5 = .ok (.ifCond .ne 9, 3) := by decide +kernel
theorem dX8_weightOf_8 : decode cX8_weightOf 8 = .ok (.aload_n 0, 1) := by decide +kernel
theorem dX8_weightOf_9 : decode cX8_weightOf 9 = .ok (.iconst 1, 1) := by decide +kernel
theorem dX8_weightOf_10 : decode cX8_weightOf 10 = .ok (.invokevirtual 206, 3) := by decide +kernel
theorem dX8_weightOf_13 : decode cX8_weightOf 13 = .ok (.ireturn, 1) := by decide +kernel
theorem dX8_weightOf_14 : decode cX8_weightOf 14 = .ok (.aload_n 0, 1) := by decide +kernel
theorem dX8_weightOf_15 : decode cX8_weightOf 15 = .ok (.aload_n 0, 1) := by decide +kernel
theorem dX8_weightOf_16 : decode cX8_weightOf 16 = .ok (.iload_n 1, 1) := by decide +kernel
theorem dX8_weightOf_17 : decode cX8_weightOf 17 = .ok (.invokevirtual 247, 3) := by decide +kernel
theorem dX8_weightOf_20 : decode cX8_weightOf 20 = .ok (.invokevirtual 212, 3) := by decide +kernel
theorem dX8_weightOf_23 : decode cX8_weightOf 23 = .ok (.ireturn, 1) := by decide +kernel
set_option maxRecDepth 20000 in
theorem ggX8_calibrationObstacle_X8_is : GoodIn wsX8_calibrationObstacle wsX8_is := goodIn_r _ [5, 6, 7, 8, 4, 9, 47, 48, 49, 50, 51, 52, 53, 54, 55, 56, 57, 58, 59, 60, 61, 62, 63, 64, 65, 66, 67, 68] (by decide +kernel) (by decide +kernel)
set_option maxRecDepth 20000 in
theorem gX8_calibrationObstacle_X8_is : GoodIn wsX8_calibrationObstacle (wsV RX8 230 RX8 yX8_is wsX8_is) := goodIn_app (goodIn_of _ (by decide +kernel)) ggX8_calibrationObstacle_X8_is
set_option maxRecDepth 20000 in
theorem ggX8_calibrationObstacle_X8_refuse : GoodIn wsX8_calibrationObstacle wsX8_refuse := goodIn_r _ [13, 14, 47, 48, 49, 50, 51, 52, 53, 54, 55, 56, 57, 58, 59, 60, 61, 62, 63, 64, 65, 66, 67, 68] (by decide +kernel) (by decide +kernel)
set_option maxRecDepth 20000 in
theorem gX8_calibrationObstacle_X8_refuse : GoodIn wsX8_calibrationObstacle (wsV RX8 206 RX8 yX8_refuse wsX8_refuse) := goodIn_app (goodIn_of _ (by decide +kernel)) ggX8_calibrationObstacle_X8_refuse
set_option maxRecDepth 20000 in
theorem ggX8_calibrationObstacle_X8_hindrance : GoodIn wsX8_calibrationObstacle wsX8_hindrance := goodIn_r _ [18, 19, 20, 21, 4, 22, 6, 23, 24, 25, 26, 27, 28, 29, 30, 31, 32, 33, 34, 35, 36, 37, 38, 39, 40, 41, 42, 47, 48, 49, 50, 51, 52, 53, 54, 55, 56, 57, 58, 59, 60, 61, 62, 63, 64, 65, 66, 67, 68] (by decide +kernel) (by decide +kernel)
set_option maxRecDepth 20000 in
theorem gX8_calibrationObstacle_X8_hindrance : GoodIn wsX8_calibrationObstacle (wsV RX8 250 RX8 yX8_hindrance wsX8_hindrance) := goodIn_app (goodIn_of _ (by decide +kernel)) ggX8_calibrationObstacle_X8_hindrance
set_option maxRecDepth 20000 in
theorem ggX8_calibrationObstacle_X8_told : GoodIn wsX8_calibrationObstacle wsX8_told := goodIn_r _ [46, 14, 47, 48, 49, 50, 51, 52, 53, 54, 55, 56, 57, 58, 59, 60, 61, 62, 63, 64, 65, 66, 67, 68] (by decide +kernel) (by decide +kernel)
set_option maxRecDepth 20000 in
theorem gX8_calibrationObstacle_X8_told : GoodIn wsX8_calibrationObstacle (wsV RX8 212 RX8 yX8_told wsX8_told) := goodIn_app (goodIn_of _ (by decide +kernel)) ggX8_calibrationObstacle_X8_told
theorem dX8_calibrationObstacle_0 : decode cX8_calibrationObstacle 0 = .ok (.aload_n 0, 1) := by decide +kernel
theorem dX8_calibrationObstacle_1 : decode cX8_calibrationObstacle 1 = .ok (.iload_n 1, 1) := by decide +kernel
theorem dX8_calibrationObstacle_2 : decode cX8_calibrationObstacle 2 = .ok (.invokevirtual 230, 3) := by decide +kernel
theorem dX8_calibrationObstacle_5 : decode cX8_calibrationObstacle 5 = .ok (.ifCond .ne 9, 3) := by decide +kernel
theorem dX8_calibrationObstacle_8 : decode cX8_calibrationObstacle 8 = .ok (.aload_n 0, 1) := by decide +kernel
theorem dX8_calibrationObstacle_9 : decode cX8_calibrationObstacle 9 = .ok (.iconst 1, 1) := by decide +kernel
theorem dX8_calibrationObstacle_10 : decode cX8_calibrationObstacle 10 = .ok (.invokevirtual 206, 3) := by decide +kernel
theorem dX8_calibrationObstacle_13 : decode cX8_calibrationObstacle 13 = .ok (.ireturn, 1) := by decide +kernel
theorem dX8_calibrationObstacle_14 : decode cX8_calibrationObstacle 14 = .ok (.aload_n 0, 1) := by decide +kernel
theorem dX8_calibrationObstacle_15 : decode cX8_calibrationObstacle 15 = .ok (.aload_n 0, 1) := by decide +kernel
theorem dX8_calibrationObstacle_16 : decode cX8_calibrationObstacle 16 = .ok (.iload_n 1, 1) := by decide +kernel
theorem dX8_calibrationObstacle_17 : decode cX8_calibrationObstacle 17 = .ok (.invokevirtual 250, 3) := by decide +kernel
theorem dX8_calibrationObstacle_20 : decode cX8_calibrationObstacle 20 = .ok (.invokevirtual 212, 3) := by decide +kernel
theorem dX8_calibrationObstacle_23 : decode cX8_calibrationObstacle 23 = .ok (.ireturn, 1) := by decide +kernel
set_option maxRecDepth 20000 in
theorem ggX8_usable_X8_flaw : GoodIn wsX8_usable wsX8_flaw := goodIn_r _ [6, 1, 7, 8, 5, 9, 10, 11, 12, 13, 14, 15, 16, 17, 18, 19, 20, 21, 22, 23, 24, 25, 26, 27, 28, 29, 30, 31, 32, 33, 34, 35, 36, 37, 38, 39] (by decide +kernel) (by decide +kernel)
set_option maxRecDepth 20000 in
theorem gX8_usable_X8_flaw : GoodIn wsX8_usable (wsV RX8 82 RX8 yX8_flaw wsX8_flaw) := goodIn_app (goodIn_of _ (by decide +kernel)) ggX8_usable_X8_flaw
theorem dX8_usable_0 : decode cX8_usable 0 = .ok (.iconst 0, 1) := by decide +kernel
theorem dX8_usable_1 : decode cX8_usable 1 = .ok (.istore_n 1, 1) := by decide +kernel
theorem dX8_usable_2 : decode cX8_usable 2 = .ok (.iconst 0, 1) := by decide +kernel
theorem dX8_usable_3 : decode cX8_usable 3 = .ok (.istore_n 2, 1) := by decide +kernel
theorem dX8_usable_4 : decode cX8_usable 4 = .ok (.iload_n 2, 1) := by decide +kernel
theorem dX8_usable_5 : decode cX8_usable 5 = .ok (.aload_n 0, 1) := by decide +kernel
theorem dX8_usable_6 : decode cX8_usable 6 = .ok (.getfield 16, 3) := by decide +kernel
theorem dX8_usable_9 : decode cX8_usable 9 = .ok (.iconst 5, 1) := by decide +kernel
theorem dX8_usable_10 : decode cX8_usable 10 = .ok (.iaload, 1) := by decide +kernel
theorem dX8_usable_11 : decode cX8_usable 11 = .ok (.if_icmp .ge 20, 3) := by decide +kernel
theorem dX8_usable_14 : decode cX8_usable 14 = .ok (.aload_n 0, 1) := by decide +kernel
theorem dX8_usable_15 : decode cX8_usable 15 = .ok (.iload_n 2, 1) := by decide +kernel
theorem dX8_usable_16 : decode cX8_usable 16 = .ok (.invokevirtual 82, 3) := by decide +kernel
theorem dX8_usable_19 : decode cX8_usable 19 = .ok (.ifCond .ne 6, 3) := by decide +kernel
theorem dX8_usable_22 : decode cX8_usable 22 = .ok (.iinc 1 1, 3) := by decide +kernel
theorem dX8_usable_25 : decode cX8_usable 25 = .ok (.iinc 2 1, 3) := by decide +kernel
theorem dX8_usable_28 : decode cX8_usable 28 = .ok (.goto (-24), 3) := by decide +kernel
theorem dX8_usable_31 : decode cX8_usable 31 = .ok (.iload_n 1, 1) := by decide +kernel
theorem dX8_usable_32 : decode cX8_usable 32 = .ok (.ireturn, 1) := by decide +kernel
set_option maxRecDepth 20000 in
theorem ggX8_usableInstruments_X8_usable : GoodIn wsX8_usableInstruments wsX8_usable := goodIn_r _ [5, 6, 7, 8, 9, 4, 10, 11, 12, 13, 14, 15, 16, 17, 18, 19, 20, 21, 27, 28, 29, 30, 31, 32, 33, 34, 35, 36, 37, 38, 39, 40, 41, 42, 43, 44, 45, 46, 47, 48] (by decide +kernel) (by decide +kernel)
set_option maxRecDepth 20000 in
theorem gX8_usableInstruments_X8_usable : GoodIn wsX8_usableInstruments (wsV RX8 253 RX8 yX8_usable wsX8_usable) := goodIn_app (goodIn_of _ (by decide +kernel)) ggX8_usableInstruments_X8_usable
set_option maxRecDepth 20000 in
theorem ggX8_usableInstruments_X8_told : GoodIn wsX8_usableInstruments wsX8_told := goodIn_r _ [25, 26, 27, 28, 29, 30, 31, 32, 33, 34, 35, 36, 37, 38, 39, 40, 41, 42, 43, 44, 45, 46, 47, 48] (by decide +kernel) (by decide +kernel)
set_option maxRecDepth 20000 in
theorem gX8_usableInstruments_X8_told : GoodIn wsX8_usableInstruments (wsV RX8 212 RX8 yX8_told wsX8_told) := goodIn_app (goodIn_of _ (by decide +kernel)) ggX8_usableInstruments_X8_told
theorem dX8_usableInstruments_0 : decode cX8_usableInstruments 0 = .ok (.aload_n 0, 1) := by decide +kernel
theorem dX8_usableInstruments_1 : decode cX8_usableInstruments 1 = .ok (.aload_n 0, 1) := by decide +kernel
theorem dX8_usableInstruments_2 : decode cX8_usableInstruments 2 = .ok (.invokevirtual 253, 3) := by decide +kernel
theorem dX8_usableInstruments_5 : decode cX8_usableInstruments 5 = .ok (.invokevirtual 212, 3) := by decide +kernel
theorem dX8_usableInstruments_8 : decode cX8_usableInstruments 8 = .ok (.ireturn, 1) := by decide +kernel
set_option maxRecDepth 20000 in
theorem ggX8_blend_X8_reading : GoodIn wsX8_blend wsX8_reading := goodIn_r _ [6, 1, 7, 8, 9, 5, 10, 11, 12, 13, 14, 15, 16, 17, 18, 19, 20, 21, 22, 23, 24, 25, 26, 27, 28, 29, 30, 44, 45, 46, 47, 48, 49, 50, 51, 52, 53, 54, 55, 56, 57, 58, 59, 60, 61, 62, 63, 64, 65] (by decide +kernel) (by decide +kernel)
set_option maxRecDepth 20000 in
theorem gX8_blend_X8_reading : GoodIn wsX8_blend (wsV RX8 244 RX8 yX8_reading wsX8_reading) := goodIn_app (goodIn_of _ (by decide +kernel)) ggX8_blend_X8_reading
set_option maxRecDepth 20000 in
theorem ggX8_blend_X8_weight : GoodIn wsX8_blend wsX8_weight := goodIn_r _ [34, 1, 35, 36, 37, 5, 38, 15, 16, 17, 27, 28, 29, 30, 11, 12, 13, 14, 44, 45, 46, 47, 48, 49, 50, 51, 52, 53, 54, 55, 56, 57, 58, 59, 60, 61, 62, 63, 64, 65] (by decide +kernel) (by decide +kernel)
set_option maxRecDepth 20000 in
theorem gX8_blend_X8_weight : GoodIn wsX8_blend (wsV RX8 247 RX8 yX8_weight wsX8_weight) := goodIn_app (goodIn_of _ (by decide +kernel)) ggX8_blend_X8_weight
set_option maxRecDepth 20000 in
theorem ggX8_blend_X8_told : GoodIn wsX8_blend wsX8_told := goodIn_r _ [42, 43, 44, 45, 46, 47, 48, 49, 50, 51, 52, 53, 54, 55, 56, 57, 58, 59, 60, 61, 62, 63, 64, 65] (by decide +kernel) (by decide +kernel)
set_option maxRecDepth 20000 in
theorem gX8_blend_X8_told : GoodIn wsX8_blend (wsV RX8 212 RX8 yX8_told wsX8_told) := goodIn_app (goodIn_of _ (by decide +kernel)) ggX8_blend_X8_told
theorem dX8_blend_0 : decode cX8_blend 0 = .ok (.iconst 0, 1) := by decide +kernel
theorem dX8_blend_1 : decode cX8_blend 1 = .ok (.istore_n 1, 1) := by decide +kernel
theorem dX8_blend_2 : decode cX8_blend 2 = .ok (.iconst 0, 1) := by decide +kernel
theorem dX8_blend_3 : decode cX8_blend 3 = .ok (.istore_n 2, 1) := by decide +kernel
theorem dX8_blend_4 : decode cX8_blend 4 = .ok (.iconst 0, 1) := by decide +kernel
theorem dX8_blend_5 : decode cX8_blend 5 = .ok (.istore_n 3, 1) := by decide +kernel
theorem dX8_blend_6 : decode cX8_blend 6 = .ok (.iload_n 3, 1) := by decide +kernel
theorem dX8_blend_7 : decode cX8_blend 7 = .ok (.aload_n 0, 1) := by decide +kernel
theorem dX8_blend_8 : decode cX8_blend 8 = .ok (.getfield 16, 3) := by decide +kernel
theorem dX8_blend_11 : decode cX8_blend 11 = .ok (.iconst 5, 1) := by decide +kernel
theorem dX8_blend_12 : decode cX8_blend 12 = .ok (.iaload, 1) := by decide +kernel
theorem dX8_blend_13 : decode cX8_blend 13 = .ok (.if_icmp .ge 31, 3) := by decide +kernel
theorem dX8_blend_16 : decode cX8_blend 16 = .ok (.iload_n 1, 1) := by decide +kernel
theorem dX8_blend_17 : decode cX8_blend 17 = .ok (.aload_n 0, 1) := by decide +kernel
theorem dX8_blend_18 : decode cX8_blend 18 = .ok (.iload_n 3, 1) := by decide +kernel
theorem dX8_blend_19 : decode cX8_blend 19 = .ok (.invokevirtual 244, 3) := by decide +kernel
theorem dX8_blend_22 : decode cX8_blend 22 = .ok (.aload_n 0, 1) := by decide +kernel
theorem dX8_blend_23 : decode cX8_blend 23 = .ok (.iload_n 3, 1) := by decide +kernel
theorem dX8_blend_24 : decode cX8_blend 24 = .ok (.invokevirtual 247, 3) := by decide +kernel
theorem dX8_blend_27 : decode cX8_blend 27 = .ok (.imul, 1) := by decide +kernel
theorem dX8_blend_28 : decode cX8_blend 28 = .ok (.iadd, 1) := by decide +kernel
theorem dX8_blend_29 : decode cX8_blend 29 = .ok (.istore_n 1, 1) := by decide +kernel
theorem dX8_blend_30 : decode cX8_blend 30 = .ok (.iload_n 2, 1) := by decide +kernel
theorem dX8_blend_31 : decode cX8_blend 31 = .ok (.aload_n 0, 1) := by decide +kernel
theorem dX8_blend_32 : decode cX8_blend 32 = .ok (.iload_n 3, 1) := by decide +kernel
theorem dX8_blend_33 : decode cX8_blend 33 = .ok (.invokevirtual 247, 3) := by decide +kernel
theorem dX8_blend_36 : decode cX8_blend 36 = .ok (.iadd, 1) := by decide +kernel
theorem dX8_blend_37 : decode cX8_blend 37 = .ok (.istore_n 2, 1) := by decide +kernel
theorem dX8_blend_38 : decode cX8_blend 38 = .ok (.iinc 3 1, 3) := by decide +kernel
theorem dX8_blend_41 : decode cX8_blend 41 = .ok (.goto (-35), 3) := by decide +kernel
theorem dX8_blend_44 : decode cX8_blend 44 = .ok (.iload_n 2, 1) := by decide +kernel
theorem dX8_blend_45 : decode cX8_blend 45 = .ok (.ifCond .ne 9, 3) := by decide +kernel
theorem dX8_blend_48 : decode cX8_blend 48 = .ok (.aload_n 0, 1) := by decide +kernel
theorem dX8_blend_49 : decode cX8_blend 49 = .ok (.iconst (-1), 1) := by decide +kernel
theorem dX8_blend_50 : decode cX8_blend 50 = .ok (.invokevirtual 212, 3) := by decide +kernel
theorem dX8_blend_53 : decode cX8_blend 53 = .ok (.ireturn, 1) := by decide +kernel
theorem dX8_blend_54 : decode cX8_blend 54 = .ok (.aload_n 0, 1) := by decide +kernel
theorem dX8_blend_55 : decode cX8_blend 55 = .ok (.iload_n 1, 1) := by decide +kernel
theorem dX8_blend_56 : decode cX8_blend 56 = .ok (.iload_n 2, 1) := by decide +kernel
theorem dX8_blend_57 : decode cX8_blend 57 = .ok (.idiv, 1) := by decide +kernel
theorem dX8_blend_58 : decode cX8_blend 58 = .ok (.invokevirtual 212, 3) := by decide +kernel
theorem dX8_blend_61 : decode cX8_blend 61 = .ok (.ireturn, 1) := by decide +kernel
set_option maxRecDepth 20000 in
theorem ggX8_distance_X8_reading : GoodIn wsX8_distance wsX8_reading := goodIn_r _ [6, 1, 7, 8, 9, 5, 10, 11, 12, 13, 14, 15, 16, 17, 18, 19, 20, 21, 22, 23, 24, 25, 26, 27, 28, 29, 30, 34, 35, 36, 37, 38, 39, 40, 41, 42, 43, 44, 45, 46, 47, 48, 49, 50, 51, 52, 53, 54, 55] (by decide +kernel) (by decide +kernel)
set_option maxRecDepth 20000 in
theorem gX8_distance_X8_reading : GoodIn wsX8_distance (wsV RX8 244 RX8 yX8_reading wsX8_reading) := goodIn_app (goodIn_of _ (by decide +kernel)) ggX8_distance_X8_reading
set_option maxRecDepth 20000 in
theorem ggX8_distance_X8_without : GoodIn wsX8_distance wsX8_without := goodIn_r _ [33] (by decide +kernel) (by decide +kernel)
set_option maxRecDepth 20000 in
theorem gX8_distance_X8_without : GoodIn wsX8_distance (va_wsS RX8 256 yX8_without wsX8_without) := goodIn_app (goodIn_of _ (by decide +kernel)) ggX8_distance_X8_without
theorem dX8_distance_0 : decode cX8_distance 0 = .ok (.aload_n 0, 1) := by decide +kernel
theorem dX8_distance_1 : decode cX8_distance 1 = .ok (.iload_n 1, 1) := by decide +kernel
theorem dX8_distance_2 : decode cX8_distance 2 = .ok (.invokevirtual 244, 3) := by decide +kernel
theorem dX8_distance_5 : decode cX8_distance 5 = .ok (.aload_n 0, 1) := by decide +kernel
theorem dX8_distance_6 : decode cX8_distance 6 = .ok (.getfield 16, 3) := by decide +kernel
theorem dX8_distance_9 : decode cX8_distance 9 = .ok (.iconst 1, 1) := by decide +kernel
theorem dX8_distance_10 : decode cX8_distance 10 = .ok (.iaload, 1) := by decide +kernel
theorem dX8_distance_11 : decode cX8_distance 11 = .ok (.isub, 1) := by decide +kernel
theorem dX8_distance_12 : decode cX8_distance 12 = .ok (.invokestatic 256, 3) := by decide +kernel
theorem dX8_distance_15 : decode cX8_distance 15 = .ok (.ireturn, 1) := by decide +kernel
set_option maxRecDepth 20000 in
theorem ggX8_bestInstrument_X8_flaw : GoodIn wsX8_bestInstrument wsX8_flaw := goodIn_r _ [6, 1, 7, 8, 5, 9, 10, 11, 12, 13, 14, 15, 16, 17, 47, 48, 49, 50, 51, 52, 53, 54, 55, 56, 57, 58, 59, 60, 61, 62, 63, 64, 65, 66, 67, 68] (by decide +kernel) (by decide +kernel)
set_option maxRecDepth 20000 in
theorem gX8_bestInstrument_X8_flaw : GoodIn wsX8_bestInstrument (wsV RX8 82 RX8 yX8_flaw wsX8_flaw) := goodIn_app (goodIn_of _ (by decide +kernel)) ggX8_bestInstrument_X8_flaw
set_option maxRecDepth 20000 in
theorem ggX8_bestInstrument_X8_distance : GoodIn wsX8_bestInstrument wsX8_distance := goodIn_r _ [21, 1, 22, 23, 24, 5, 25, 26, 27, 28, 29, 14, 15, 16, 17, 7, 8, 9, 30, 31, 32, 33, 34, 35, 36, 37, 38, 10, 11, 12, 13, 39, 40, 41, 47, 48, 49, 50, 51, 52, 53, 54, 55, 56, 57, 58, 59, 60, 61, 62, 63, 64, 65, 66, 67, 68] (by decide +kernel) (by decide +kernel)
set_option maxRecDepth 20000 in
theorem gX8_bestInstrument_X8_distance : GoodIn wsX8_bestInstrument (wsV RX8 259 RX8 yX8_distance wsX8_distance) := goodIn_app (goodIn_of _ (by decide +kernel)) ggX8_bestInstrument_X8_distance
set_option maxRecDepth 20000 in
theorem ggX8_bestInstrument_X8_told : GoodIn wsX8_bestInstrument wsX8_told := goodIn_r _ [45, 46, 47, 48, 49, 50, 51, 52, 53, 54, 55, 56, 57, 58, 59, 60, 61, 62, 63, 64, 65, 66, 67, 68] (by decide +kernel) (by decide +kernel)
set_option maxRecDepth 20000 in
theorem gX8_bestInstrument_X8_told : GoodIn wsX8_bestInstrument (wsV RX8 212 RX8 yX8_told wsX8_told) := goodIn_app (goodIn_of _ (by decide +kernel)) ggX8_bestInstrument_X8_told
theorem dX8_bestInstrument_0 : decode cX8_bestInstrument 0 = .ok (.iconst (-1), 1) := by decide +kernel
theorem dX8_bestInstrument_1 : decode cX8_bestInstrument 1 = .ok (.istore_n 1, 1) := by decide +kernel
theorem dX8_bestInstrument_2 : decode cX8_bestInstrument 2 = .ok (.iconst 0, 1) := by decide +kernel
theorem dX8_bestInstrument_3 : decode cX8_bestInstrument 3 = .ok (.istore_n 2, 1) := by decide +kernel
theorem dX8_bestInstrument_4 : decode cX8_bestInstrument 4 = .ok (.iload_n 2, 1) := by decide +kernel
theorem dX8_bestInstrument_5 : decode cX8_bestInstrument 5 = .ok (.aload_n 0, 1) := by decide +kernel
theorem dX8_bestInstrument_6 : decode cX8_bestInstrument 6 = .ok (.getfield 16, 3) := by decide +kernel
theorem dX8_bestInstrument_9 : decode cX8_bestInstrument 9 = .ok (.iconst 5, 1) := by decide +kernel
theorem dX8_bestInstrument_10 : decode cX8_bestInstrument 10 = .ok (.iaload, 1) := by decide +kernel
theorem dX8_bestInstrument_11 : decode cX8_bestInstrument 11 = .ok (.if_icmp .ge 37, 3) := by decide +kernel
theorem dX8_bestInstrument_14 : decode cX8_bestInstrument 14 = .ok (.aload_n 0, 1) := by decide +kernel
theorem dX8_bestInstrument_15 : decode cX8_bestInstrument 15 = .ok (.iload_n 2, 1) := by decide +kernel
theorem dX8_bestInstrument_16 : decode cX8_bestInstrument 16 = .ok (.invokevirtual 82, 3) := by decide +kernel
theorem dX8_bestInstrument_19 : decode cX8_bestInstrument 19 = .ok (.ifCond .ne 23, 3) := by decide +kernel
theorem dX8_bestInstrument_22 : decode cX8_bestInstrument 22 = .ok (.iload_n 1, 1) := by decide +kernel
theorem dX8_bestInstrument_23 : decode cX8_bestInstrument 23 = .ok (.iconst (-1), 1) := by decide +kernel
theorem dX8_bestInstrument_24 : decode cX8_bestInstrument 24 = .ok (.if_icmp .eq 16, 3) := by decide +kernel
theorem dX8_bestInstrument_27 : decode cX8_bestInstrument 27 = .ok (.aload_n 0, 1) := by decide +kernel
theorem dX8_bestInstrument_28 : decode cX8_bestInstrument 28 = .ok (.iload_n 2, 1) := by decide +kernel
theorem dX8_bestInstrument_29 : decode cX8_bestInstrument 29 = .ok (.invokevirtual 259, 3) := by decide +kernel
theorem dX8_bestInstrument_32 : decode cX8_bestInstrument 32 = .ok (.aload_n 0, 1) := by decide +kernel
theorem dX8_bestInstrument_33 : decode cX8_bestInstrument 33 = .ok (.iload_n 1, 1) := by decide +kernel
theorem dX8_bestInstrument_34 : decode cX8_bestInstrument 34 = .ok (.invokevirtual 259, 3) := by decide +kernel
theorem dX8_bestInstrument_37 : decode cX8_bestInstrument 37 = .ok (.if_icmp .ge 5, 3) := by decide +kernel
theorem dX8_bestInstrument_40 : decode cX8_bestInstrument 40 = .ok (.iload_n 2, 1) := by decide +kernel
theorem dX8_bestInstrument_41 : decode cX8_bestInstrument 41 = .ok (.istore_n 1, 1) := by decide +kernel
theorem dX8_bestInstrument_42 : decode cX8_bestInstrument 42 = .ok (.iinc 2 1, 3) := by decide +kernel
theorem dX8_bestInstrument_45 : decode cX8_bestInstrument 45 = .ok (.goto (-41), 3) := by decide +kernel
theorem dX8_bestInstrument_48 : decode cX8_bestInstrument 48 = .ok (.aload_n 0, 1) := by decide +kernel
theorem dX8_bestInstrument_49 : decode cX8_bestInstrument 49 = .ok (.iload_n 1, 1) := by decide +kernel
theorem dX8_bestInstrument_50 : decode cX8_bestInstrument 50 = .ok (.invokevirtual 212, 3) := by decide +kernel
theorem dX8_bestInstrument_53 : decode cX8_bestInstrument 53 = .ok (.ireturn, 1) := by decide +kernel
set_option maxRecDepth 20000 in
theorem ggX8_slackestInstrument_X8_isOfHair : GoodIn wsX8_slackestInstrument wsX8_isOfHair := goodIn_r _ [6, 1, 7, 8, 5, 9, 15, 16, 17, 18, 19, 20, 21, 22, 23, 24, 25, 26, 27, 28, 29, 30, 31, 32, 33, 34, 35, 36] (by decide +kernel) (by decide +kernel)
set_option maxRecDepth 20000 in
theorem gX8_slackestInstrument_X8_isOfHair : GoodIn wsX8_slackestInstrument (wsV RX8 70 RX8 yX8_isOfHair wsX8_isOfHair) := goodIn_app (goodIn_of _ (by decide +kernel)) ggX8_slackestInstrument_X8_isOfHair
set_option maxRecDepth 20000 in
theorem ggX8_slackestInstrument_X8_i : GoodIn wsX8_slackestInstrument wsX8_i := goodIn_r _ [9] (by decide +kernel) (by decide +kernel)
set_option maxRecDepth 20000 in
theorem gX8_slackestInstrument_X8_i : GoodIn wsX8_slackestInstrument (va_wsS RX8 50 yX8_i wsX8_i) := goodIn_app (goodIn_of _ (by decide +kernel)) ggX8_slackestInstrument_X8_i
set_option maxRecDepth 20000 in
theorem ggX8_slackestInstrument_X8_told : GoodIn wsX8_slackestInstrument wsX8_told := goodIn_r _ [13, 14, 15, 16, 17, 18, 19, 20, 21, 22, 23, 24, 25, 26, 27, 28, 29, 30, 31, 32, 33, 34, 35, 36] (by decide +kernel) (by decide +kernel)
set_option maxRecDepth 20000 in
theorem gX8_slackestInstrument_X8_told : GoodIn wsX8_slackestInstrument (wsV RX8 212 RX8 yX8_told wsX8_told) := goodIn_app (goodIn_of _ (by decide +kernel)) ggX8_slackestInstrument_X8_told
theorem dX8_slackestInstrument_0 : decode cX8_slackestInstrument 0 = .ok (.iconst (-1), 1) := by decide +kernel
theorem dX8_slackestInstrument_1 : decode cX8_slackestInstrument 1 = .ok (.istore_n 1, 1) := by decide +kernel
theorem dX8_slackestInstrument_2 : decode cX8_slackestInstrument 2 = .ok (.iconst 0, 1) := by decide +kernel
theorem dX8_slackestInstrument_3 : decode cX8_slackestInstrument 3 = .ok (.istore_n 2, 1) := by decide +kernel
theorem dX8_slackestInstrument_4 : decode cX8_slackestInstrument 4 = .ok (.iload_n 2, 1) := by decide +kernel
theorem dX8_slackestInstrument_5 : decode cX8_slackestInstrument 5 = .ok (.aload_n 0, 1) := by decide +kernel
theorem dX8_slackestInstrument_6 : decode cX8_slackestInstrument 6 = .ok (.getfield 16, 3) := by decide +kernel
theorem dX8_slackestInstrument_9 : decode cX8_slackestInstrument 9 = .ok (.iconst 5, 1) := by decide +kernel
theorem dX8_slackestInstrument_10 : decode cX8_slackestInstrument 10 = .ok (.iaload, 1) := by decide +kernel
theorem dX8_slackestInstrument_11 : decode cX8_slackestInstrument 11 = .ok (.if_icmp .ge 49, 3) := by decide +kernel
theorem dX8_slackestInstrument_14 : decode cX8_slackestInstrument 14 = .ok (.aload_n 0, 1) := by decide +kernel
theorem dX8_slackestInstrument_15 : decode cX8_slackestInstrument 15 = .ok (.iload_n 2, 1) := by decide +kernel
theorem dX8_slackestInstrument_16 : decode cX8_slackestInstrument 16 = .ok (.invokevirtual 70, 3) := by decide +kernel
theorem dX8_slackestInstrument_19 : decode cX8_slackestInstrument 19 = .ok (.ifCond .eq 35, 3) := by decide +kernel
theorem dX8_slackestInstrument_22 : decode cX8_slackestInstrument 22 = .ok (.iload_n 1, 1) := by decide +kernel
theorem dX8_slackestInstrument_23 : decode cX8_slackestInstrument 23 = .ok (.iconst (-1), 1) := by decide +kernel
theorem dX8_slackestInstrument_24 : decode cX8_slackestInstrument 24 = .ok (.if_icmp .eq 28, 3) := by decide +kernel
theorem dX8_slackestInstrument_27 : decode cX8_slackestInstrument 27 = .ok (.aload_n 0, 1) := by decide +kernel
theorem dX8_slackestInstrument_28 : decode cX8_slackestInstrument 28 = .ok (.getfield 16, 3) := by decide +kernel
theorem dX8_slackestInstrument_31 : decode cX8_slackestInstrument 31 = .ok (.iload_n 2, 1) := by decide +kernel
theorem dX8_slackestInstrument_32 : decode cX8_slackestInstrument 32 = .ok (.invokestatic 50, 3) := by decide +kernel
theorem dX8_slackestInstrument_35 : decode cX8_slackestInstrument 35 = .ok (.iconst 4, 1) := by decide +kernel
theorem dX8_slackestInstrument_36 : decode cX8_slackestInstrument 36 = .ok (.iadd, 1) := by decide +kernel
theorem dX8_slackestInstrument_37 : decode cX8_slackestInstrument 37 = .ok (.iaload, 1) := by decide +kernel
theorem dX8_slackestInstrument_38 : decode cX8_slackestInstrument 38 = .ok (.aload_n 0, 1) := by decide +kernel
theorem dX8_slackestInstrument_39 : decode cX8_slackestInstrument 39 = .ok (.getfield 16, 3) := by decide +kernel
theorem dX8_slackestInstrument_42 : decode cX8_slackestInstrument 42 = .ok (.iload_n 1, 1) := by decide +kernel
theorem dX8_slackestInstrument_43 : decode cX8_slackestInstrument 43 = .ok (.invokestatic 50, 3) := by decide +kernel
theorem dX8_slackestInstrument_46 : decode cX8_slackestInstrument 46 = .ok (.iconst 4, 1) := by decide +kernel
theorem dX8_slackestInstrument_47 : decode cX8_slackestInstrument 47 = .ok (.iadd, 1) := by decide +kernel
theorem dX8_slackestInstrument_48 : decode cX8_slackestInstrument 48 = .ok (.iaload, 1) := by decide +kernel
theorem dX8_slackestInstrument_49 : decode cX8_slackestInstrument 49 = .ok (.if_icmp .le 5, 3) := by decide +kernel
theorem dX8_slackestInstrument_52 : decode cX8_slackestInstrument 52 = .ok (.iload_n 2, 1) := by decide +kernel
theorem dX8_slackestInstrument_53 : decode cX8_slackestInstrument 53 = .ok (.istore_n 1, 1) := by decide +kernel
theorem dX8_slackestInstrument_54 : decode cX8_slackestInstrument 54 = .ok (.iinc 2 1, 3) := by decide +kernel
theorem dX8_slackestInstrument_57 : decode cX8_slackestInstrument 57 = .ok (.goto (-53), 3) := by decide +kernel
theorem dX8_slackestInstrument_60 : decode cX8_slackestInstrument 60 = .ok (.aload_n 0, 1) := by decide +kernel
theorem dX8_slackestInstrument_61 : decode cX8_slackestInstrument 61 = .ok (.iload_n 1, 1) := by decide +kernel
theorem dX8_slackestInstrument_62 : decode cX8_slackestInstrument 62 = .ok (.invokevirtual 212, 3) := by decide +kernel
theorem dX8_slackestInstrument_65 : decode cX8_slackestInstrument 65 = .ok (.ireturn, 1) := by decide +kernel
set_option maxRecDepth 20000 in
theorem ggX8_disagreements_X8_hindrance : GoodIn wsX8_disagreements wsX8_hindrance := goodIn_r _ [6, 7, 8, 9, 5, 10, 1, 11, 12, 13, 14, 15, 16, 17, 18, 19, 20, 21, 22, 23, 24, 25, 26, 27, 28, 29, 30, 48, 49, 50, 51, 52, 53, 54, 55, 56, 57, 58, 59, 60, 61, 62, 63, 64, 65, 66, 67, 68, 69] (by decide +kernel) (by decide +kernel)
set_option maxRecDepth 20000 in
theorem gX8_disagreements_X8_hindrance : GoodIn wsX8_disagreements (wsV RX8 250 RX8 yX8_hindrance wsX8_hindrance) := goodIn_app (goodIn_of _ (by decide +kernel)) ggX8_disagreements_X8_hindrance
set_option maxRecDepth 20000 in
theorem ggX8_disagreements_X8_reading : GoodIn wsX8_disagreements wsX8_reading := goodIn_r _ [34, 1, 35, 36, 37, 5, 38, 18, 19, 20, 21, 11, 12, 13, 39, 40, 41, 42, 26, 27, 28, 29, 30, 7, 8, 9, 10, 48, 49, 50, 51, 52, 53, 54, 55, 56, 57, 58, 59, 60, 61, 62, 63, 64, 65, 66, 67, 68, 69] (by decide +kernel) (by decide +kernel)
set_option maxRecDepth 20000 in
theorem gX8_disagreements_X8_reading : GoodIn wsX8_disagreements (wsV RX8 244 RX8 yX8_reading wsX8_reading) := goodIn_app (goodIn_of _ (by decide +kernel)) ggX8_disagreements_X8_reading
set_option maxRecDepth 20000 in
theorem ggX8_disagreements_X8_around : GoodIn wsX8_disagreements wsX8_around := goodIn_r _ [29, 30, 1, 7, 8, 9, 5, 10, 11, 12, 13, 48, 49, 50, 51, 52, 53, 54, 55, 56, 57, 58, 59, 60, 61, 62, 63, 64, 65, 66, 67, 68, 69] (by decide +kernel) (by decide +kernel)
set_option maxRecDepth 20000 in
theorem gX8_disagreements_X8_around : GoodIn wsX8_disagreements (wsV RX8 67 RX8 yX8_around wsX8_around) := goodIn_app (goodIn_of _ (by decide +kernel)) ggX8_disagreements_X8_around
set_option maxRecDepth 20000 in
theorem ggX8_disagreements_X8_told : GoodIn wsX8_disagreements wsX8_told := goodIn_r _ [46, 47, 48, 49, 50, 51, 52, 53, 54, 55, 56, 57, 58, 59, 60, 61, 62, 63, 64, 65, 66, 67, 68, 69] (by decide +kernel) (by decide +kernel)
set_option maxRecDepth 20000 in
theorem gX8_disagreements_X8_told : GoodIn wsX8_disagreements (wsV RX8 212 RX8 yX8_told wsX8_told) := goodIn_app (goodIn_of _ (by decide +kernel)) ggX8_disagreements_X8_told
theorem dX8_disagreements_0 : decode cX8_disagreements 0 = .ok (.iconst 0, 1) := by decide +kernel
theorem dX8_disagreements_1 : decode cX8_disagreements 1 = .ok (.istore_n 1, 1) := by decide +kernel
theorem dX8_disagreements_2 : decode cX8_disagreements 2 = .ok (.iconst 0, 1) := by decide +kernel
theorem dX8_disagreements_3 : decode cX8_disagreements 3 = .ok (.istore_n 2, 1) := by decide +kernel
theorem dX8_disagreements_4 : decode cX8_disagreements 4 = .ok (.iload_n 2, 1) := by decide +kernel
theorem dX8_disagreements_5 : decode cX8_disagreements 5 = .ok (.aload_n 0, 1) := by decide +kernel
theorem dX8_disagreements_6 : decode cX8_disagreements 6 = .ok (.getfield 16, 3) := by decide +kernel
theorem dX8_disagreements_9 : decode cX8_disagreements 9 = .ok (.iconst 5, 1) := by decide +kernel
theorem dX8_disagreements_10 : decode cX8_disagreements 10 = .ok (.iaload, 1) := by decide +kernel
theorem dX8_disagreements_11 : decode cX8_disagreements 11 = .ok (.if_icmp .ge 33, 3) := by decide +kernel
theorem dX8_disagreements_14 : decode cX8_disagreements 14 = .ok (.aload_n 0, 1) := by decide +kernel
theorem dX8_disagreements_15 : decode cX8_disagreements 15 = .ok (.iload_n 2, 1) := by decide +kernel
theorem dX8_disagreements_16 : decode cX8_disagreements 16 = .ok (.invokevirtual 250, 3) := by decide +kernel
theorem dX8_disagreements_19 : decode cX8_disagreements 19 = .ok (.ifCond .ne 19, 3) := by decide +kernel
theorem dX8_disagreements_22 : decode cX8_disagreements 22 = .ok (.aload_n 0, 1) := by decide +kernel
theorem dX8_disagreements_23 : decode cX8_disagreements 23 = .ok (.iload_n 2, 1) := by decide +kernel
theorem dX8_disagreements_24 : decode cX8_disagreements 24 = .ok (.invokevirtual 244, 3) := by decide +kernel
theorem dX8_disagreements_27 : decode cX8_disagreements 27 = .ok (.aload_n 0, 1) := by decide +kernel
theorem dX8_disagreements_28 : decode cX8_disagreements 28 = .ok (.iload_n 2, 1) := by decide +kernel
theorem dX8_disagreements_29 : decode cX8_disagreements 29 = .ok (.invokevirtual 67, 3) := by decide +kernel
theorem dX8_disagreements_32 : decode cX8_disagreements 32 = .ok (.if_icmp .eq 6, 3) := by decide +kernel
theorem dX8_disagreements_35 : decode cX8_disagreements 35 = .ok (.iinc 1 1, 3) := by decide +kernel
theorem dX8_disagreements_38 : decode cX8_disagreements 38 = .ok (.iinc 2 1, 3) := by decide +kernel
theorem dX8_disagreements_41 : decode cX8_disagreements 41 = .ok (.goto (-37), 3) := by decide +kernel
theorem dX8_disagreements_44 : decode cX8_disagreements 44 = .ok (.aload_n 0, 1) := by decide +kernel
theorem dX8_disagreements_45 : decode cX8_disagreements 45 = .ok (.iload_n 1, 1) := by decide +kernel
theorem dX8_disagreements_46 : decode cX8_disagreements 46 = .ok (.invokevirtual 212, 3) := by decide +kernel
theorem dX8_disagreements_49 : decode cX8_disagreements 49 = .ok (.ireturn, 1) := by decide +kernel
set_option maxRecDepth 20000 in
theorem ggX8_spread_X8_flaw : GoodIn wsX8_spread wsX8_flaw := goodIn_r _ [6, 1, 7, 8, 5, 9, 10, 11, 12, 13, 14, 15, 16, 17, 44, 45, 46, 47, 48, 49, 50, 51, 52, 53, 54, 55, 56, 57, 58, 59, 60, 61, 62, 63, 64, 65] (by decide +kernel) (by decide +kernel)
set_option maxRecDepth 20000 in
theorem gX8_spread_X8_flaw : GoodIn wsX8_spread (wsV RX8 82 RX8 yX8_flaw wsX8_flaw) := goodIn_app (goodIn_of _ (by decide +kernel)) ggX8_spread_X8_flaw
set_option maxRecDepth 20000 in
theorem ggX8_spread_X8_reading : GoodIn wsX8_spread wsX8_reading := goodIn_r _ [21, 1, 22, 23, 24, 5, 25, 14, 15, 16, 17, 7, 8, 9, 26, 27, 28, 29, 30, 31, 32, 33, 34, 10, 11, 12, 13, 44, 45, 46, 47, 48, 49, 50, 51, 52, 53, 54, 55, 56, 57, 58, 59, 60, 61, 62, 63, 64, 65] (by decide +kernel) (by decide +kernel)
set_option maxRecDepth 20000 in
theorem gX8_spread_X8_reading : GoodIn wsX8_spread (wsV RX8 244 RX8 yX8_reading wsX8_reading) := goodIn_app (goodIn_of _ (by decide +kernel)) ggX8_spread_X8_reading
set_option maxRecDepth 20000 in
theorem ggX8_spread_X8_usable : GoodIn wsX8_spread wsX8_usable := goodIn_r _ [38, 1, 2, 3, 4, 5, 6, 7, 8, 9, 10, 11, 12, 13, 14, 15, 16, 17, 44, 45, 46, 47, 48, 49, 50, 51, 52, 53, 54, 55, 56, 57, 58, 59, 60, 61, 62, 63, 64, 65] (by decide +kernel) (by decide +kernel)
set_option maxRecDepth 20000 in
theorem gX8_spread_X8_usable : GoodIn wsX8_spread (wsV RX8 253 RX8 yX8_usable wsX8_usable) := goodIn_app (goodIn_of _ (by decide +kernel)) ggX8_spread_X8_usable
set_option maxRecDepth 20000 in
theorem ggX8_spread_X8_told : GoodIn wsX8_spread wsX8_told := goodIn_r _ [42, 43, 44, 45, 46, 47, 48, 49, 50, 51, 52, 53, 54, 55, 56, 57, 58, 59, 60, 61, 62, 63, 64, 65] (by decide +kernel) (by decide +kernel)
set_option maxRecDepth 20000 in
theorem gX8_spread_X8_told : GoodIn wsX8_spread (wsV RX8 212 RX8 yX8_told wsX8_told) := goodIn_app (goodIn_of _ (by decide +kernel)) ggX8_spread_X8_told
theorem dX8_spread_0 : decode cX8_spread 0 = .ok (.bipush 100, 2) := by decide +kernel
theorem dX8_spread_2 : decode cX8_spread 2 = .ok (.istore_n 1, 1) := by decide +kernel
theorem dX8_spread_3 : decode cX8_spread 3 = .ok (.iconst 0, 1) := by decide +kernel
theorem dX8_spread_4 : decode cX8_spread 4 = .ok (.istore_n 2, 1) := by decide +kernel
theorem dX8_spread_5 : decode cX8_spread 5 = .ok (.iconst 0, 1) := by decide +kernel
theorem dX8_spread_6 : decode cX8_spread 6 = .ok (.istore_n 3, 1) := by decide +kernel
theorem dX8_spread_7 : decode cX8_spread 7 = .ok (.iload_n 3, 1) := by decide +kernel
theorem dX8_spread_8 : decode cX8_spread 8 = .ok (.aload_n 0, 1) := by decide +kernel
theorem dX8_spread_9 : decode cX8_spread 9 = .ok (.getfield 16, 3) := by decide +kernel
theorem dX8_spread_12 : decode cX8_spread 12 = .ok (.iconst 5, 1) := by decide +kernel
theorem dX8_spread_13 : decode cX8_spread 13 = .ok (.iaload, 1) := by decide +kernel
theorem dX8_spread_14 : decode cX8_spread 14 = .ok (.if_icmp .ge 55, 3) := by decide +kernel
theorem dX8_spread_17 : decode cX8_spread 17 = .ok (.aload_n 0, 1) := by decide +kernel
theorem dX8_spread_18 : decode cX8_spread 18 = .ok (.iload_n 3, 1) := by decide +kernel
theorem dX8_spread_19 : decode cX8_spread 19 = .ok (.invokevirtual 82, 3) := by decide +kernel
theorem dX8_spread_22 : decode cX8_spread 22 = .ok (.ifCond .ne 18, 3) := by decide +kernel
theorem dX8_spread_25 : decode cX8_spread 25 = .ok (.aload_n 0, 1) := by decide +kernel
theorem dX8_spread_26 : decode cX8_spread 26 = .ok (.iload_n 3, 1) := by decide +kernel
theorem dX8_spread_27 : decode cX8_spread 27 = .ok (.invokevirtual 244, 3) := by decide +kernel
theorem dX8_spread_30 : decode cX8_spread 30 = .ok (.iload_n 1, 1) := by decide +kernel
theorem dX8_spread_31 : decode cX8_spread 31 = .ok (.if_icmp .ge 9, 3) := by decide +kernel
theorem dX8_spread_34 : decode cX8_spread 34 = .ok (.aload_n 0, 1) := by decide +kernel
theorem dX8_spread_35 : decode cX8_spread 35 = .ok (.iload_n 3, 1) := by decide +kernel
theorem dX8_spread_36 : decode cX8_spread 36 = .ok (.invokevirtual 244, 3) := by decide +kernel
theorem dX8_spread_39 : decode cX8_spread 39 = .ok (.istore_n 1, 1) := by decide +kernel
theorem dX8_spread_40 : decode cX8_spread 40 = .ok (.aload_n 0, 1) := by decide +kernel
theorem dX8_spread_41 : decode cX8_spread 41 = .ok (.iload_n 3, 1) := by decide +kernel
theorem dX8_spread_42 : decode cX8_spread 42 = .ok (.invokevirtual 82, 3) := by decide +kernel
theorem dX8_spread_45 : decode cX8_spread 45 = .ok (.ifCond .ne 18, 3) := by decide +kernel
theorem dX8_spread_48 : decode cX8_spread 48 = .ok (.aload_n 0, 1) := by decide +kernel
theorem dX8_spread_49 : decode cX8_spread 49 = .ok (.iload_n 3, 1) := by decide +kernel
theorem dX8_spread_50 : decode cX8_spread 50 = .ok (.invokevirtual 244, 3) := by decide +kernel
theorem dX8_spread_53 : decode cX8_spread 53 = .ok (.iload_n 2, 1) := by decide +kernel
theorem dX8_spread_54 : decode cX8_spread 54 = .ok (.if_icmp .le 9, 3) := by decide +kernel
theorem dX8_spread_57 : decode cX8_spread 57 = .ok (.aload_n 0, 1) := by decide +kernel
theorem dX8_spread_58 : decode cX8_spread 58 = .ok (.iload_n 3, 1) := by decide +kernel
theorem dX8_spread_59 : decode cX8_spread 59 = .ok (.invokevirtual 244, 3) := by decide +kernel
theorem dX8_spread_62 : decode cX8_spread 62 = .ok (.istore_n 2, 1) := by decide +kernel
theorem dX8_spread_63 : decode cX8_spread 63 = .ok (.iinc 3 1, 3) := by decide +kernel
theorem dX8_spread_66 : decode cX8_spread 66 = .ok (.goto (-59), 3) := by decide +kernel
theorem dX8_spread_69 : decode cX8_spread 69 = .ok (.aload_n 0, 1) := by decide +kernel
theorem dX8_spread_70 : decode cX8_spread 70 = .ok (.invokevirtual 253, 3) := by decide +kernel
theorem dX8_spread_73 : decode cX8_spread 73 = .ok (.iconst 2, 1) := by decide +kernel
theorem dX8_spread_74 : decode cX8_spread 74 = .ok (.if_icmp .ge 9, 3) := by decide +kernel
theorem dX8_spread_77 : decode cX8_spread 77 = .ok (.aload_n 0, 1) := by decide +kernel
theorem dX8_spread_78 : decode cX8_spread 78 = .ok (.iconst 0, 1) := by decide +kernel
theorem dX8_spread_79 : decode cX8_spread 79 = .ok (.invokevirtual 212, 3) := by decide +kernel
theorem dX8_spread_82 : decode cX8_spread 82 = .ok (.ireturn, 1) := by decide +kernel
theorem dX8_spread_83 : decode cX8_spread 83 = .ok (.aload_n 0, 1) := by decide +kernel
theorem dX8_spread_84 : decode cX8_spread 84 = .ok (.iload_n 2, 1) := by decide +kernel
theorem dX8_spread_85 : decode cX8_spread 85 = .ok (.iload_n 1, 1) := by decide +kernel
theorem dX8_spread_86 : decode cX8_spread 86 = .ok (.isub, 1) := by decide +kernel
theorem dX8_spread_87 : decode cX8_spread 87 = .ok (.invokevirtual 212, 3) := by decide +kernel
theorem dX8_spread_90 : decode cX8_spread 90 = .ok (.ireturn, 1) := by decide +kernel
set_option maxRecDepth 20000 in
theorem ggX8_readingAfter_X8_is : GoodIn wsX8_readingAfter wsX8_is := goodIn_r _ [5, 6, 7, 8, 4, 9, 80, 81, 82, 83, 84, 85, 86, 87, 88, 89, 90, 91, 92, 93, 94, 95, 96, 97, 98, 99, 100, 101] (by decide +kernel) (by decide +kernel)
set_option maxRecDepth 20000 in
theorem gX8_readingAfter_X8_is : GoodIn wsX8_readingAfter (wsV RX8 230 RX8 yX8_is wsX8_is) := goodIn_app (goodIn_of _ (by decide +kernel)) ggX8_readingAfter_X8_is
set_option maxRecDepth 20000 in
theorem ggX8_readingAfter_X8_refuse : GoodIn wsX8_readingAfter wsX8_refuse := goodIn_r _ [13, 14, 80, 81, 82, 83, 84, 85, 86, 87, 88, 89, 90, 91, 92, 93, 94, 95, 96, 97, 98, 99, 100, 101] (by decide +kernel) (by decide +kernel)
set_option maxRecDepth 20000 in
theorem gX8_readingAfter_X8_refuse : GoodIn wsX8_readingAfter (wsV RX8 206 RX8 yX8_refuse wsX8_refuse) := goodIn_app (goodIn_of _ (by decide +kernel)) ggX8_readingAfter_X8_refuse
set_option maxRecDepth 20000 in
theorem ggX8_readingAfter_X8_in : GoodIn wsX8_readingAfter wsX8_in := goodIn_r _ [9] (by decide +kernel) (by decide +kernel)
set_option maxRecDepth 20000 in
theorem gX8_readingAfter_X8_in : GoodIn wsX8_readingAfter (va_wsS RX8 56 yX8_in wsX8_in) := goodIn_app (goodIn_of _ (by decide +kernel)) ggX8_readingAfter_X8_in
set_option maxRecDepth 20000 in
theorem ggX8_readingAfter_X8_putsAside : GoodIn wsX8_readingAfter wsX8_putsAside := goodIn_r _ [18, 19, 6, 80, 81, 82, 83, 84, 85, 86, 87, 88, 89, 90, 91, 92, 93, 94, 95, 96, 97, 98, 99, 100, 101] (by decide +kernel) (by decide +kernel)
set_option maxRecDepth 20000 in
theorem gX8_readingAfter_X8_putsAside : GoodIn wsX8_readingAfter (wsV RX8 215 RX8 yX8_putsAside wsX8_putsAside) := goodIn_app (goodIn_of _ (by decide +kernel)) ggX8_readingAfter_X8_putsAside
set_option maxRecDepth 20000 in
theorem ggX8_readingAfter_X8_passes : GoodIn wsX8_readingAfter wsX8_passes := goodIn_r _ [23, 24, 25, 26, 4, 27, 6, 28, 29, 30, 31, 32, 33, 34, 35, 36, 37, 38, 39, 40, 41, 42, 43, 44, 45, 46, 47, 48, 49, 50, 51, 52, 53, 54, 55, 56, 57, 58, 59, 80, 81, 82, 83, 84, 85, 86, 87, 88, 89, 90, 91, 92, 93, 94, 95, 96, 97, 98, 99, 100, 101] (by decide +kernel) (by decide +kernel)
set_option maxRecDepth 20000 in
theorem gX8_readingAfter_X8_passes : GoodIn wsX8_readingAfter (wsV RX8 46 RX8 yX8_passes wsX8_passes) := goodIn_app (goodIn_of _ (by decide +kernel)) ggX8_readingAfter_X8_passes
set_option maxRecDepth 20000 in
theorem ggX8_readingAfter_X8_reading : GoodIn wsX8_readingAfter wsX8_reading := goodIn_r _ [63, 6, 64, 65, 66, 4, 67, 35, 36, 37, 38, 32, 33, 34, 68, 69, 70, 71, 43, 44, 45, 46, 47, 48, 49, 50, 51, 80, 81, 82, 83, 84, 85, 86, 87, 88, 89, 90, 91, 92, 93, 94, 95, 96, 97, 98, 99, 100, 101] (by decide +kernel) (by decide +kernel)
set_option maxRecDepth 20000 in
theorem gX8_readingAfter_X8_reading : GoodIn wsX8_readingAfter (wsV RX8 244 RX8 yX8_reading wsX8_reading) := goodIn_app (goodIn_of _ (by decide +kernel)) ggX8_readingAfter_X8_reading
set_option maxRecDepth 20000 in
theorem ggX8_readingAfter_X8_putsBack : GoodIn wsX8_readingAfter wsX8_putsBack := goodIn_r _ [75, 6, 19, 80, 81, 82, 83, 84, 85, 86, 87, 88, 89, 90, 91, 92, 93, 94, 95, 96, 97, 98, 99, 100, 101] (by decide +kernel) (by decide +kernel)
set_option maxRecDepth 20000 in
theorem gX8_readingAfter_X8_putsBack : GoodIn wsX8_readingAfter (wsV RX8 224 RX8 yX8_putsBack wsX8_putsBack) := goodIn_app (goodIn_of _ (by decide +kernel)) ggX8_readingAfter_X8_putsBack
set_option maxRecDepth 20000 in
theorem ggX8_readingAfter_X8_told : GoodIn wsX8_readingAfter wsX8_told := goodIn_r _ [79, 14, 80, 81, 82, 83, 84, 85, 86, 87, 88, 89, 90, 91, 92, 93, 94, 95, 96, 97, 98, 99, 100, 101] (by decide +kernel) (by decide +kernel)
set_option maxRecDepth 20000 in
theorem gX8_readingAfter_X8_told : GoodIn wsX8_readingAfter (wsV RX8 212 RX8 yX8_told wsX8_told) := goodIn_app (goodIn_of _ (by decide +kernel)) ggX8_readingAfter_X8_told
theorem dX8_readingAfter_0 : decode cX8_readingAfter 0 = .ok (.aload_n 0, 1) := by decide +kernel
theorem dX8_readingAfter_1 : decode cX8_readingAfter 1 = .ok (.iload_n 1, 1) := by decide +kernel
theorem dX8_readingAfter_2 : decode cX8_readingAfter 2 = .ok (.invokevirtual 230, 3) := by decide +kernel
theorem dX8_readingAfter_5 : decode cX8_readingAfter 5 = .ok (.ifCond .ne 9, 3) := by decide +kernel
theorem dX8_readingAfter_8 : decode cX8_readingAfter 8 = .ok (.aload_n 0, 1) := by decide +kernel
theorem dX8_readingAfter_9 : decode cX8_readingAfter 9 = .ok (.iconst 1, 1) := by decide +kernel
theorem dX8_readingAfter_10 : decode cX8_readingAfter 10 = .ok (.invokevirtual 206, 3) := by decide +kernel
theorem dX8_readingAfter_13 : decode cX8_readingAfter 13 = .ok (.ireturn, 1) := by decide +kernel
theorem dX8_readingAfter_14 : decode cX8_readingAfter 14 = .ok (.iload_n 2, 1) := by decide +kernel
theorem dX8_readingAfter_15 : decode cX8_readingAfter 15 = .ok (.iconst 0, 1) := by decide +kernel
theorem dX8_readingAfter_16 : decode cX8_readingAfter 16 = .ok (.sipush 200, 3) := by decide +kernel
theorem dX8_readingAfter_19 : decode cX8_readingAfter 19 = .ok (.invokestatic 56, 3) := by decide +kernel
theorem dX8_readingAfter_22 : decode cX8_readingAfter 22 = .ok (.ifCond .ne 9, 3) := by decide +kernel
theorem dX8_readingAfter_25 : decode cX8_readingAfter 25 = .ok (.aload_n 0, 1) := by decide +kernel
theorem dX8_readingAfter_26 : decode cX8_readingAfter 26 = .ok (.iconst 2, 1) := by decide +kernel
theorem dX8_readingAfter_27 : decode cX8_readingAfter 27 = .ok (.invokevirtual 206, 3) := by decide +kernel
theorem dX8_readingAfter_30 : decode cX8_readingAfter 30 = .ok (.ireturn, 1) := by decide +kernel
theorem dX8_readingAfter_31 : decode cX8_readingAfter 31 = .ok (.aload_n 0, 1) := by decide +kernel
theorem dX8_readingAfter_32 : decode cX8_readingAfter 32 = .ok (.invokevirtual 215, 3) := by decide +kernel
theorem dX8_readingAfter_35 : decode cX8_readingAfter 35 = .ok (.aload_n 0, 1) := by decide +kernel
theorem dX8_readingAfter_36 : decode cX8_readingAfter 36 = .ok (.iload_n 2, 1) := by decide +kernel
theorem dX8_readingAfter_37 : decode cX8_readingAfter 37 = .ok (.invokevirtual 46, 3) := by decide +kernel
theorem dX8_readingAfter_40 : decode cX8_readingAfter 40 = .ok (.istore_n 3, 1) := by decide +kernel
theorem dX8_readingAfter_41 : decode cX8_readingAfter 41 = .ok (.aload_n 0, 1) := by decide +kernel
theorem dX8_readingAfter_42 : decode cX8_readingAfter 42 = .ok (.iload_n 1, 1) := by decide +kernel
theorem dX8_readingAfter_43 : decode cX8_readingAfter 43 = .ok (.invokevirtual 244, 3) := by decide +kernel
theorem dX8_readingAfter_46 : decode cX8_readingAfter 46 = .ok (.istore 4, 2) := by decide +kernel
theorem dX8_readingAfter_48 : decode cX8_readingAfter 48 = .ok (.aload_n 0, 1) := by decide +kernel
theorem dX8_readingAfter_49 : decode cX8_readingAfter 49 = .ok (.invokevirtual 224, 3) := by decide +kernel
theorem dX8_readingAfter_52 : decode cX8_readingAfter 52 = .ok (.aload_n 0, 1) := by decide +kernel
theorem dX8_readingAfter_53 : decode cX8_readingAfter 53 = .ok (.iload 4, 2) := by decide +kernel
theorem dX8_readingAfter_55 : decode cX8_readingAfter 55 = .ok (.invokevirtual 212, 3) := by decide +kernel
theorem dX8_readingAfter_58 : decode cX8_readingAfter 58 = .ok (.ireturn, 1) := by decide +kernel
set_option maxRecDepth 20000 in
theorem ggX8_minutesUntilStill_X8_is : GoodIn wsX8_minutesUntilStill wsX8_is := goodIn_r _ [5, 6, 7, 8, 4, 9, 68, 69, 70, 71, 72, 73, 74, 75, 76, 77, 78, 79, 80, 81, 82, 83, 84, 85, 86, 87, 88, 89] (by decide +kernel) (by decide +kernel)
set_option maxRecDepth 20000 in
theorem gX8_minutesUntilStill_X8_is : GoodIn wsX8_minutesUntilStill (wsV RX8 230 RX8 yX8_is wsX8_is) := goodIn_app (goodIn_of _ (by decide +kernel)) ggX8_minutesUntilStill_X8_is
set_option maxRecDepth 20000 in
theorem ggX8_minutesUntilStill_X8_refuse : GoodIn wsX8_minutesUntilStill wsX8_refuse := goodIn_r _ [13, 14, 68, 69, 70, 71, 72, 73, 74, 75, 76, 77, 78, 79, 80, 81, 82, 83, 84, 85, 86, 87, 88, 89] (by decide +kernel) (by decide +kernel)
set_option maxRecDepth 20000 in
theorem gX8_minutesUntilStill_X8_refuse : GoodIn wsX8_minutesUntilStill (wsV RX8 206 RX8 yX8_refuse wsX8_refuse) := goodIn_app (goodIn_of _ (by decide +kernel)) ggX8_minutesUntilStill_X8_refuse
set_option maxRecDepth 20000 in
theorem ggX8_minutesUntilStill_X8_putsAside : GoodIn wsX8_minutesUntilStill wsX8_putsAside := goodIn_r _ [18, 19, 6, 68, 69, 70, 71, 72, 73, 74, 75, 76, 77, 78, 79, 80, 81, 82, 83, 84, 85, 86, 87, 88, 89] (by decide +kernel) (by decide +kernel)
set_option maxRecDepth 20000 in
theorem gX8_minutesUntilStill_X8_putsAside : GoodIn wsX8_minutesUntilStill (wsV RX8 215 RX8 yX8_putsAside wsX8_putsAside) := goodIn_app (goodIn_of _ (by decide +kernel)) ggX8_minutesUntilStill_X8_putsAside
set_option maxRecDepth 20000 in
theorem ggX8_minutesUntilStill_X8_isStill : GoodIn wsX8_minutesUntilStill wsX8_isStill := goodIn_r _ [23, 6, 24, 25, 26, 4, 27, 28, 29, 30, 31, 32, 33, 34, 35, 36, 37, 38, 39, 68, 69, 70, 71, 72, 73, 74, 75, 76, 77, 78, 79, 80, 81, 82, 83, 84, 85, 86, 87, 88, 89] (by decide +kernel) (by decide +kernel)
set_option maxRecDepth 20000 in
theorem gX8_minutesUntilStill_X8_isStill : GoodIn wsX8_minutesUntilStill (wsV RX8 79 RX8 yX8_isStill wsX8_isStill) := goodIn_app (goodIn_of _ (by decide +kernel)) ggX8_minutesUntilStill_X8_isStill
set_option maxRecDepth 20000 in
theorem ggX8_minutesUntilStill_X8_passesMinute : GoodIn wsX8_minutesUntilStill wsX8_passesMinute := goodIn_r _ [43, 6, 44, 45, 46, 4, 47, 28, 29, 30, 24, 25, 26, 27, 48, 49, 50, 51, 31, 32, 33, 34, 35, 36, 37, 38, 39, 52, 53, 54, 55, 56, 57, 58, 59, 68, 69, 70, 71, 72, 73, 74, 75, 76, 77, 78, 79, 80, 81, 82, 83, 84, 85, 86, 87, 88, 89] (by decide +kernel) (by decide +kernel)
set_option maxRecDepth 20000 in
theorem gX8_minutesUntilStill_X8_passesMinute : GoodIn wsX8_minutesUntilStill (wsV RX8 101 RX8 yX8_passesMinute wsX8_passesMinute) := goodIn_app (goodIn_of _ (by decide +kernel)) ggX8_minutesUntilStill_X8_passesMinute
set_option maxRecDepth 20000 in
theorem ggX8_minutesUntilStill_X8_putsBack : GoodIn wsX8_minutesUntilStill wsX8_putsBack := goodIn_r _ [63, 6, 19, 68, 69, 70, 71, 72, 73, 74, 75, 76, 77, 78, 79, 80, 81, 82, 83, 84, 85, 86, 87, 88, 89] (by decide +kernel) (by decide +kernel)
set_option maxRecDepth 20000 in
theorem gX8_minutesUntilStill_X8_putsBack : GoodIn wsX8_minutesUntilStill (wsV RX8 224 RX8 yX8_putsBack wsX8_putsBack) := goodIn_app (goodIn_of _ (by decide +kernel)) ggX8_minutesUntilStill_X8_putsBack
set_option maxRecDepth 20000 in
theorem ggX8_minutesUntilStill_X8_told : GoodIn wsX8_minutesUntilStill wsX8_told := goodIn_r _ [67, 14, 68, 69, 70, 71, 72, 73, 74, 75, 76, 77, 78, 79, 80, 81, 82, 83, 84, 85, 86, 87, 88, 89] (by decide +kernel) (by decide +kernel)
set_option maxRecDepth 20000 in
theorem gX8_minutesUntilStill_X8_told : GoodIn wsX8_minutesUntilStill (wsV RX8 212 RX8 yX8_told wsX8_told) := goodIn_app (goodIn_of _ (by decide +kernel)) ggX8_minutesUntilStill_X8_told
theorem dX8_minutesUntilStill_0 : decode cX8_minutesUntilStill 0 = .ok (.aload_n 0, 1) := by decide +kernel
theorem dX8_minutesUntilStill_1 : decode cX8_minutesUntilStill 1 = .ok (.iload_n 1, 1) := by decide +kernel
theorem dX8_minutesUntilStill_2 : decode cX8_minutesUntilStill 2 = .ok (.invokevirtual 230, 3) := by decide +kernel
theorem dX8_minutesUntilStill_5 : decode cX8_minutesUntilStill 5 = .ok (.ifCond .ne 9, 3) := by decide +kernel
theorem dX8_minutesUntilStill_8 : decode cX8_minutesUntilStill 8 = .ok (.aload_n 0, 1) := by decide +kernel
theorem dX8_minutesUntilStill_9 : decode cX8_minutesUntilStill 9 = .ok (.iconst 1, 1) := by decide +kernel
theorem dX8_minutesUntilStill_10 : decode cX8_minutesUntilStill 10 = .ok (.invokevirtual 206, 3) := by decide +kernel
theorem dX8_minutesUntilStill_13 : decode cX8_minutesUntilStill 13 = .ok (.ireturn, 1) := by decide +kernel
theorem dX8_minutesUntilStill_14 : decode cX8_minutesUntilStill 14 = .ok (.aload_n 0, 1) := by decide +kernel
theorem dX8_minutesUntilStill_15 : decode cX8_minutesUntilStill 15 = .ok (.invokevirtual 215, 3) := by decide +kernel
theorem dX8_minutesUntilStill_18 : decode cX8_minutesUntilStill 18 = .ok (.iconst 0, 1) := by decide +kernel
theorem dX8_minutesUntilStill_19 : decode cX8_minutesUntilStill 19 = .ok (.istore_n 2, 1) := by decide +kernel
theorem dX8_minutesUntilStill_20 : decode cX8_minutesUntilStill 20 = .ok (.aload_n 0, 1) := by decide +kernel
theorem dX8_minutesUntilStill_21 : decode cX8_minutesUntilStill 21 = .ok (.iload_n 1, 1) := by decide +kernel
theorem dX8_minutesUntilStill_22 : decode cX8_minutesUntilStill 22 = .ok (.invokevirtual 79, 3) := by decide +kernel
theorem dX8_minutesUntilStill_25 : decode cX8_minutesUntilStill 25 = .ok (.ifCond .ne 21, 3) := by decide +kernel
theorem dX8_minutesUntilStill_28 : decode cX8_minutesUntilStill 28 = .ok (.iload_n 2, 1) := by decide +kernel
theorem dX8_minutesUntilStill_29 : decode cX8_minutesUntilStill 29 = .ok (.sipush 200, 3) := by decide +kernel
theorem dX8_minutesUntilStill_32 : decode cX8_minutesUntilStill 32 = .ok (.if_icmp .ge 14, 3) := by decide +kernel
theorem dX8_minutesUntilStill_35 : decode cX8_minutesUntilStill 35 = .ok (.aload_n 0, 1) := by decide +kernel
theorem dX8_minutesUntilStill_36 : decode cX8_minutesUntilStill 36 = .ok (.invokevirtual 101, 3) := by decide +kernel
theorem dX8_minutesUntilStill_39 : decode cX8_minutesUntilStill 39 = .ok (.istore_n 3, 1) := by decide +kernel
theorem dX8_minutesUntilStill_40 : decode cX8_minutesUntilStill 40 = .ok (.iinc 2 1, 3) := by decide +kernel
theorem dX8_minutesUntilStill_43 : decode cX8_minutesUntilStill 43 = .ok (.goto (-23), 3) := by decide +kernel
theorem dX8_minutesUntilStill_46 : decode cX8_minutesUntilStill 46 = .ok (.aload_n 0, 1) := by decide +kernel
theorem dX8_minutesUntilStill_47 : decode cX8_minutesUntilStill 47 = .ok (.iload_n 1, 1) := by decide +kernel
theorem dX8_minutesUntilStill_48 : decode cX8_minutesUntilStill 48 = .ok (.invokevirtual 79, 3) := by decide +kernel
theorem dX8_minutesUntilStill_51 : decode cX8_minutesUntilStill 51 = .ok (.istore_n 3, 1) := by decide +kernel
theorem dX8_minutesUntilStill_52 : decode cX8_minutesUntilStill 52 = .ok (.aload_n 0, 1) := by decide +kernel
theorem dX8_minutesUntilStill_53 : decode cX8_minutesUntilStill 53 = .ok (.invokevirtual 224, 3) := by decide +kernel
theorem dX8_minutesUntilStill_56 : decode cX8_minutesUntilStill 56 = .ok (.iload_n 3, 1) := by decide +kernel
theorem dX8_minutesUntilStill_57 : decode cX8_minutesUntilStill 57 = .ok (.ifCond .ne 9, 3) := by decide +kernel
theorem dX8_minutesUntilStill_60 : decode cX8_minutesUntilStill 60 = .ok (.aload_n 0, 1) := by decide +kernel
theorem dX8_minutesUntilStill_61 : decode cX8_minutesUntilStill 61 = .ok (.iconst (-1), 1) := by decide +kernel
theorem dX8_minutesUntilStill_62 : decode cX8_minutesUntilStill 62 = .ok (.invokevirtual 212, 3) := by decide +kernel
theorem dX8_minutesUntilStill_65 : decode cX8_minutesUntilStill 65 = .ok (.ireturn, 1) := by decide +kernel
theorem dX8_minutesUntilStill_66 : decode cX8_minutesUntilStill 66 = .ok (.aload_n 0, 1) := by decide +kernel
theorem dX8_minutesUntilStill_67 : decode cX8_minutesUntilStill 67 = .ok (.iload_n 2, 1) := by decide +kernel
theorem dX8_minutesUntilStill_68 : decode cX8_minutesUntilStill 68 = .ok (.invokevirtual 212, 3) := by decide +kernel
theorem dX8_minutesUntilStill_71 : decode cX8_minutesUntilStill 71 = .ok (.ireturn, 1) := by decide +kernel
set_option maxRecDepth 20000 in
theorem ggX8_hairDifference_X8_i : GoodIn wsX8_hairDifference wsX8_i := goodIn_r _ [5] (by decide +kernel) (by decide +kernel)
set_option maxRecDepth 20000 in
theorem gX8_hairDifference_X8_i : GoodIn wsX8_hairDifference (va_wsS RX8 50 yX8_i wsX8_i) := goodIn_app (goodIn_of _ (by decide +kernel)) ggX8_hairDifference_X8_i
set_option maxRecDepth 20000 in
theorem ggX8_hairDifference_X8_without : GoodIn wsX8_hairDifference wsX8_without := goodIn_r _ [8] (by decide +kernel) (by decide +kernel)
set_option maxRecDepth 20000 in
theorem gX8_hairDifference_X8_without : GoodIn wsX8_hairDifference (va_wsS RX8 256 yX8_without wsX8_without) := goodIn_app (goodIn_of _ (by decide +kernel)) ggX8_hairDifference_X8_without
set_option maxRecDepth 20000 in
theorem ggX8_hairDifference_X8_told : GoodIn wsX8_hairDifference wsX8_told := goodIn_r _ [12, 13, 14, 15, 16, 17, 18, 19, 20, 21, 22, 23, 24, 25, 26, 27, 28, 29, 30, 31, 32, 33, 34, 35] (by decide +kernel) (by decide +kernel)
set_option maxRecDepth 20000 in
theorem gX8_hairDifference_X8_told : GoodIn wsX8_hairDifference (wsV RX8 212 RX8 yX8_told wsX8_told) := goodIn_app (goodIn_of _ (by decide +kernel)) ggX8_hairDifference_X8_told
theorem dX8_hairDifference_0 : decode cX8_hairDifference 0 = .ok (.aload_n 0, 1) := by decide +kernel
theorem dX8_hairDifference_1 : decode cX8_hairDifference 1 = .ok (.getfield 16, 3) := by decide +kernel
theorem dX8_hairDifference_4 : decode cX8_hairDifference 4 = .ok (.iconst 4, 1) := by decide +kernel
theorem dX8_hairDifference_5 : decode cX8_hairDifference 5 = .ok (.iaload, 1) := by decide +kernel
theorem dX8_hairDifference_6 : decode cX8_hairDifference 6 = .ok (.istore_n 1, 1) := by decide +kernel
theorem dX8_hairDifference_7 : decode cX8_hairDifference 7 = .ok (.iconst 0, 1) := by decide +kernel
theorem dX8_hairDifference_8 : decode cX8_hairDifference 8 = .ok (.istore_n 2, 1) := by decide +kernel
theorem dX8_hairDifference_9 : decode cX8_hairDifference 9 = .ok (.iload_n 2, 1) := by decide +kernel
theorem dX8_hairDifference_10 : decode cX8_hairDifference 10 = .ok (.aload_n 0, 1) := by decide +kernel
theorem dX8_hairDifference_11 : decode cX8_hairDifference 11 = .ok (.getfield 16, 3) := by decide +kernel
theorem dX8_hairDifference_14 : decode cX8_hairDifference 14 = .ok (.iconst 5, 1) := by decide +kernel
theorem dX8_hairDifference_15 : decode cX8_hairDifference 15 = .ok (.iaload, 1) := by decide +kernel
theorem dX8_hairDifference_16 : decode cX8_hairDifference 16 = .ok (.if_icmp .ge 35, 3) := by decide +kernel
theorem dX8_hairDifference_19 : decode cX8_hairDifference 19 = .ok (.iload_n 1, 1) := by decide +kernel
theorem dX8_hairDifference_20 : decode cX8_hairDifference 20 = .ok (.aload_n 0, 1) := by decide +kernel
theorem dX8_hairDifference_21 : decode cX8_hairDifference 21 = .ok (.getfield 16, 3) := by decide +kernel
theorem dX8_hairDifference_24 : decode cX8_hairDifference 24 = .ok (.iload_n 2, 1) := by decide +kernel
theorem dX8_hairDifference_25 : decode cX8_hairDifference 25 = .ok (.invokestatic 50, 3) := by decide +kernel
theorem dX8_hairDifference_28 : decode cX8_hairDifference 28 = .ok (.iconst 1, 1) := by decide +kernel
theorem dX8_hairDifference_29 : decode cX8_hairDifference 29 = .ok (.iadd, 1) := by decide +kernel
theorem dX8_hairDifference_30 : decode cX8_hairDifference 30 = .ok (.iaload, 1) := by decide +kernel
theorem dX8_hairDifference_31 : decode cX8_hairDifference 31 = .ok (.aload_n 0, 1) := by decide +kernel
theorem dX8_hairDifference_32 : decode cX8_hairDifference 32 = .ok (.getfield 16, 3) := by decide +kernel
theorem dX8_hairDifference_35 : decode cX8_hairDifference 35 = .ok (.iload_n 2, 1) := by decide +kernel
theorem dX8_hairDifference_36 : decode cX8_hairDifference 36 = .ok (.invokestatic 50, 3) := by decide +kernel
theorem dX8_hairDifference_39 : decode cX8_hairDifference 39 = .ok (.iconst 2, 1) := by decide +kernel
theorem dX8_hairDifference_40 : decode cX8_hairDifference 40 = .ok (.iadd, 1) := by decide +kernel
theorem dX8_hairDifference_41 : decode cX8_hairDifference 41 = .ok (.iaload, 1) := by decide +kernel
theorem dX8_hairDifference_42 : decode cX8_hairDifference 42 = .ok (.iadd, 1) := by decide +kernel
theorem dX8_hairDifference_43 : decode cX8_hairDifference 43 = .ok (.iadd, 1) := by decide +kernel
theorem dX8_hairDifference_44 : decode cX8_hairDifference 44 = .ok (.istore_n 1, 1) := by decide +kernel
theorem dX8_hairDifference_45 : decode cX8_hairDifference 45 = .ok (.iinc 2 1, 3) := by decide +kernel
theorem dX8_hairDifference_48 : decode cX8_hairDifference 48 = .ok (.goto (-39), 3) := by decide +kernel
theorem dX8_hairDifference_51 : decode cX8_hairDifference 51 = .ok (.aload_n 0, 1) := by decide +kernel
theorem dX8_hairDifference_52 : decode cX8_hairDifference 52 = .ok (.iload_n 1, 1) := by decide +kernel
theorem dX8_hairDifference_53 : decode cX8_hairDifference 53 = .ok (.aload_n 0, 1) := by decide +kernel
theorem dX8_hairDifference_54 : decode cX8_hairDifference 54 = .ok (.getfield 16, 3) := by decide +kernel
theorem dX8_hairDifference_57 : decode cX8_hairDifference 57 = .ok (.bipush 6, 2) := by decide +kernel
theorem dX8_hairDifference_59 : decode cX8_hairDifference 59 = .ok (.iaload, 1) := by decide +kernel
theorem dX8_hairDifference_60 : decode cX8_hairDifference 60 = .ok (.isub, 1) := by decide +kernel
theorem dX8_hairDifference_61 : decode cX8_hairDifference 61 = .ok (.aload_n 0, 1) := by decide +kernel
theorem dX8_hairDifference_62 : decode cX8_hairDifference 62 = .ok (.getfield 16, 3) := by decide +kernel
theorem dX8_hairDifference_65 : decode cX8_hairDifference 65 = .ok (.bipush 7, 2) := by decide +kernel
theorem dX8_hairDifference_67 : decode cX8_hairDifference 67 = .ok (.iaload, 1) := by decide +kernel
theorem dX8_hairDifference_68 : decode cX8_hairDifference 68 = .ok (.isub, 1) := by decide +kernel
theorem dX8_hairDifference_69 : decode cX8_hairDifference 69 = .ok (.invokestatic 256, 3) := by decide +kernel
theorem dX8_hairDifference_72 : decode cX8_hairDifference 72 = .ok (.invokevirtual 212, 3) := by decide +kernel
theorem dX8_hairDifference_75 : decode cX8_hairDifference 75 = .ok (.ireturn, 1) := by decide +kernel
set_option maxRecDepth 20000 in
theorem ggX8_meanReading_X8_reading : GoodIn wsX8_meanReading wsX8_reading := goodIn_r _ [7, 2, 8, 9, 10, 6, 11, 12, 13, 14, 15, 16, 17, 18, 19, 20, 21, 22, 23, 24, 25, 26, 27, 28, 29, 30, 31, 32, 33, 34, 35, 36, 37, 38, 39, 40, 41, 42, 43, 44, 45, 46, 47, 48, 49, 50, 51, 52, 53] (by decide +kernel) (by decide +kernel)
set_option maxRecDepth 20000 in
theorem gX8_meanReading_X8_reading : GoodIn wsX8_meanReading (wsV RX8 244 RX8 yX8_reading wsX8_reading) := goodIn_app (goodIn_of _ (by decide +kernel)) ggX8_meanReading_X8_reading
theorem dX8_meanReading_0 : decode cX8_meanReading 0 = .ok (.aload_n 0, 1) := by decide +kernel
theorem dX8_meanReading_1 : decode cX8_meanReading 1 = .ok (.iconst 0, 1) := by decide +kernel
theorem dX8_meanReading_2 : decode cX8_meanReading 2 = .ok (.putfield 53, 3) := by decide +kernel
theorem dX8_meanReading_5 : decode cX8_meanReading 5 = .ok (.aload_n 0, 1) := by decide +kernel
theorem dX8_meanReading_6 : decode cX8_meanReading 6 = .ok (.getfield 16, 3) := by decide +kernel
theorem dX8_meanReading_9 : decode cX8_meanReading 9 = .ok (.iconst 5, 1) := by decide +kernel
theorem dX8_meanReading_10 : decode cX8_meanReading 10 = .ok (.iaload, 1) := by decide +kernel
theorem dX8_meanReading_11 : decode cX8_meanReading 11 = .ok (.ifCond .ne 5, 3) := by decide +kernel
theorem dX8_meanReading_14 : decode cX8_meanReading 14 = .ok (.dconst 0, 1) := by decide +kernel
theorem dX8_meanReading_15 : decode cX8_meanReading 15 = .ok (.dreturn, 1) := by decide +kernel
theorem dX8_meanReading_16 : decode cX8_meanReading 16 = .ok (.iconst 0, 1) := by decide +kernel
theorem dX8_meanReading_17 : decode cX8_meanReading 17 = .ok (.istore_n 1, 1) := by decide +kernel
theorem dX8_meanReading_18 : decode cX8_meanReading 18 = .ok (.iconst 0, 1) := by decide +kernel
theorem dX8_meanReading_19 : decode cX8_meanReading 19 = .ok (.istore_n 2, 1) := by decide +kernel
theorem dX8_meanReading_20 : decode cX8_meanReading 20 = .ok (.iload_n 2, 1) := by decide +kernel
theorem dX8_meanReading_21 : decode cX8_meanReading 21 = .ok (.aload_n 0, 1) := by decide +kernel
theorem dX8_meanReading_22 : decode cX8_meanReading 22 = .ok (.getfield 16, 3) := by decide +kernel
theorem dX8_meanReading_25 : decode cX8_meanReading 25 = .ok (.iconst 5, 1) := by decide +kernel
theorem dX8_meanReading_26 : decode cX8_meanReading 26 = .ok (.iaload, 1) := by decide +kernel
theorem dX8_meanReading_27 : decode cX8_meanReading 27 = .ok (.if_icmp .ge 17, 3) := by decide +kernel
theorem dX8_meanReading_30 : decode cX8_meanReading 30 = .ok (.iload_n 1, 1) := by decide +kernel
theorem dX8_meanReading_31 : decode cX8_meanReading 31 = .ok (.aload_n 0, 1) := by decide +kernel
theorem dX8_meanReading_32 : decode cX8_meanReading 32 = .ok (.iload_n 2, 1) := by decide +kernel
theorem dX8_meanReading_33 : decode cX8_meanReading 33 = .ok (.invokevirtual 244, 3) := by decide +kernel
theorem dX8_meanReading_36 : decode cX8_meanReading 36 = .ok (.iadd, 1) := by decide +kernel
theorem dX8_meanReading_37 : decode cX8_meanReading 37 = .ok (.istore_n 1, 1) := by decide +kernel
theorem dX8_meanReading_38 : decode cX8_meanReading 38 = .ok (.iinc 2 1, 3) := by decide +kernel
theorem dX8_meanReading_41 : decode cX8_meanReading 41 = .ok (.goto (-21), 3) := by decide +kernel
theorem dX8_meanReading_44 : decode cX8_meanReading 44 = .ok (.iload_n 1, 1) := by decide +kernel
theorem dX8_meanReading_45 : decode cX8_meanReading 45 = .ok (.i2d, 1) := by decide +kernel
theorem dX8_meanReading_46 : decode cX8_meanReading 46 = .ok (.aload_n 0, 1) := by decide +kernel
theorem dX8_meanReading_47 : decode cX8_meanReading 47 = .ok (.getfield 16, 3) := by decide +kernel
theorem dX8_meanReading_50 : decode cX8_meanReading 50 = .ok (.iconst 5, 1) := by decide +kernel
theorem dX8_meanReading_51 : decode cX8_meanReading 51 = .ok (.iaload, 1) := by decide +kernel
theorem dX8_meanReading_52 : decode cX8_meanReading 52 = .ok (.i2d, 1) := by decide +kernel
theorem dX8_meanReading_53 : decode cX8_meanReading 53 = .ok (.ddiv, 1) := by decide +kernel
theorem dX8_meanReading_54 : decode cX8_meanReading 54 = .ok (.dreturn, 1) := by decide +kernel
set_option maxRecDepth 20000 in
theorem ggX8_usableShare_X8_usable : GoodIn wsX8_usableShare wsX8_usable := goodIn_r _ [7, 2, 8, 9, 10, 6, 11, 12, 13, 14, 15, 16, 17, 18, 19, 20, 21, 22, 23, 24, 25, 26, 27, 28, 29, 30, 31, 32, 33, 34, 35, 36, 37, 38, 39, 40, 41, 42, 43, 44] (by decide +kernel) (by decide +kernel)
set_option maxRecDepth 20000 in
theorem gX8_usableShare_X8_usable : GoodIn wsX8_usableShare (wsV RX8 253 RX8 yX8_usable wsX8_usable) := goodIn_app (goodIn_of _ (by decide +kernel)) ggX8_usableShare_X8_usable
theorem dX8_usableShare_0 : decode cX8_usableShare 0 = .ok (.aload_n 0, 1) := by decide +kernel
theorem dX8_usableShare_1 : decode cX8_usableShare 1 = .ok (.iconst 0, 1) := by decide +kernel
theorem dX8_usableShare_2 : decode cX8_usableShare 2 = .ok (.putfield 53, 3) := by decide +kernel
theorem dX8_usableShare_5 : decode cX8_usableShare 5 = .ok (.aload_n 0, 1) := by decide +kernel
theorem dX8_usableShare_6 : decode cX8_usableShare 6 = .ok (.getfield 16, 3) := by decide +kernel
theorem dX8_usableShare_9 : decode cX8_usableShare 9 = .ok (.iconst 5, 1) := by decide +kernel
theorem dX8_usableShare_10 : decode cX8_usableShare 10 = .ok (.iaload, 1) := by decide +kernel
theorem dX8_usableShare_11 : decode cX8_usableShare 11 = .ok (.ifCond .ne 5, 3) := by decide +kernel
theorem dX8_usableShare_14 : decode cX8_usableShare 14 = .ok (.fconst 0, 1) := by decide +kernel
theorem dX8_usableShare_15 : decode cX8_usableShare 15 = .ok (.freturn, 1) := by decide +kernel
theorem dX8_usableShare_16 : decode cX8_usableShare 16 = .ok (.aload_n 0, 1) := by decide +kernel
theorem dX8_usableShare_17 : decode cX8_usableShare 17 = .ok (.invokevirtual 253, 3) := by decide +kernel
theorem dX8_usableShare_20 : decode cX8_usableShare 20 = .ok (.i2f, 1) := by decide +kernel
theorem dX8_usableShare_21 : decode cX8_usableShare 21 = .ok (.aload_n 0, 1) := by decide +kernel
theorem dX8_usableShare_22 : decode cX8_usableShare 22 = .ok (.getfield 16, 3) := by decide +kernel
theorem dX8_usableShare_25 : decode cX8_usableShare 25 = .ok (.iconst 5, 1) := by decide +kernel
theorem dX8_usableShare_26 : decode cX8_usableShare 26 = .ok (.iaload, 1) := by decide +kernel
theorem dX8_usableShare_27 : decode cX8_usableShare 27 = .ok (.i2f, 1) := by decide +kernel
theorem dX8_usableShare_28 : decode cX8_usableShare 28 = .ok (.fdiv, 1) := by decide +kernel
theorem dX8_usableShare_29 : decode cX8_usableShare 29 = .ok (.freturn, 1) := by decide +kernel
set_option maxRecDepth 20000 in
theorem ggX8_advance_X8_in : GoodIn wsX8_advance wsX8_in := goodIn_r _ [5] (by decide +kernel) (by decide +kernel)
set_option maxRecDepth 20000 in
theorem gX8_advance_X8_in : GoodIn wsX8_advance (va_wsS RX8 56 yX8_in wsX8_in) := goodIn_app (goodIn_of _ (by decide +kernel)) ggX8_advance_X8_in
set_option maxRecDepth 20000 in
theorem ggX8_advance_X8_refuse : GoodIn wsX8_advance wsX8_refuse := goodIn_r _ [9, 10, 65, 66, 67, 68, 69, 70, 71, 72, 73, 74, 75, 76, 77, 78, 79, 80, 81, 82, 83, 84, 85, 86] (by decide +kernel) (by decide +kernel)
set_option maxRecDepth 20000 in
theorem gX8_advance_X8_refuse : GoodIn wsX8_advance (wsV RX8 206 RX8 yX8_refuse wsX8_refuse) := goodIn_app (goodIn_of _ (by decide +kernel)) ggX8_advance_X8_refuse
set_option maxRecDepth 20000 in
theorem ggX8_advance_X8_remembers : GoodIn wsX8_advance wsX8_remembers := goodIn_r _ [14, 15, 16, 1, 17, 18, 19, 4, 20, 65, 66, 67, 68, 69, 70, 71, 72, 73, 74, 75, 76, 77, 78, 79, 80, 81, 82, 83, 84, 85, 86] (by decide +kernel) (by decide +kernel)
set_option maxRecDepth 20000 in
theorem gX8_advance_X8_remembers : GoodIn wsX8_advance (wsV RX8 262 RX8 yX8_remembers wsX8_remembers) := goodIn_app (goodIn_of _ (by decide +kernel)) ggX8_advance_X8_remembers
set_option maxRecDepth 20000 in
theorem ggX8_advance_X8_passes : GoodIn wsX8_advance wsX8_passes := goodIn_r _ [24, 25, 26, 27, 4, 28, 1, 29, 30, 31, 32, 33, 34, 35, 36, 37, 38, 39, 40, 41, 42, 43, 44, 45, 46, 47, 48, 49, 50, 51, 52, 53, 54, 55, 56, 57, 58, 59, 60, 65, 66, 67, 68, 69, 70, 71, 72, 73, 74, 75, 76, 77, 78, 79, 80, 81, 82, 83, 84, 85, 86] (by decide +kernel) (by decide +kernel)
set_option maxRecDepth 20000 in
theorem gX8_advance_X8_passes : GoodIn wsX8_advance (wsV RX8 46 RX8 yX8_passes wsX8_passes) := goodIn_app (goodIn_of _ (by decide +kernel)) ggX8_advance_X8_passes
set_option maxRecDepth 20000 in
theorem ggX8_advance_X8_told : GoodIn wsX8_advance wsX8_told := goodIn_r _ [64, 10, 65, 66, 67, 68, 69, 70, 71, 72, 73, 74, 75, 76, 77, 78, 79, 80, 81, 82, 83, 84, 85, 86] (by decide +kernel) (by decide +kernel)
set_option maxRecDepth 20000 in
theorem gX8_advance_X8_told : GoodIn wsX8_advance (wsV RX8 212 RX8 yX8_told wsX8_told) := goodIn_app (goodIn_of _ (by decide +kernel)) ggX8_advance_X8_told
theorem dX8_advance_0 : decode cX8_advance 0 = .ok (.iload_n 1, 1) := by decide +kernel
theorem dX8_advance_1 : decode cX8_advance 1 = .ok (.iconst 1, 1) := by decide +kernel
theorem dX8_advance_2 : decode cX8_advance 2 = .ok (.bipush 99, 2) := by decide +kernel
theorem dX8_advance_4 : decode cX8_advance 4 = .ok (.invokestatic 56, 3) := by decide +kernel
theorem dX8_advance_7 : decode cX8_advance 7 = .ok (.ifCond .ne 9, 3) := by decide +kernel
theorem dX8_advance_10 : decode cX8_advance 10 = .ok (.aload_n 0, 1) := by decide +kernel
theorem dX8_advance_11 : decode cX8_advance 11 = .ok (.iconst 1, 1) := by decide +kernel
theorem dX8_advance_12 : decode cX8_advance 12 = .ok (.invokevirtual 206, 3) := by decide +kernel
theorem dX8_advance_15 : decode cX8_advance 15 = .ok (.ireturn, 1) := by decide +kernel
theorem dX8_advance_16 : decode cX8_advance 16 = .ok (.aload_n 0, 1) := by decide +kernel
theorem dX8_advance_17 : decode cX8_advance 17 = .ok (.getfield 16, 3) := by decide +kernel
theorem dX8_advance_20 : decode cX8_advance 20 = .ok (.iconst 0, 1) := by decide +kernel
theorem dX8_advance_21 : decode cX8_advance 21 = .ok (.iaload, 1) := by decide +kernel
theorem dX8_advance_22 : decode cX8_advance 22 = .ok (.iload_n 1, 1) := by decide +kernel
theorem dX8_advance_23 : decode cX8_advance 23 = .ok (.iadd, 1) := by decide +kernel
theorem dX8_advance_24 : decode cX8_advance 24 = .ok (.sipush 9999, 3) := by decide +kernel
theorem dX8_advance_27 : decode cX8_advance 27 = .ok (.if_icmp .le 9, 3) := by decide +kernel
theorem dX8_advance_30 : decode cX8_advance 30 = .ok (.aload_n 0, 1) := by decide +kernel
theorem dX8_advance_31 : decode cX8_advance 31 = .ok (.iconst 2, 1) := by decide +kernel
theorem dX8_advance_32 : decode cX8_advance 32 = .ok (.invokevirtual 206, 3) := by decide +kernel
theorem dX8_advance_35 : decode cX8_advance 35 = .ok (.ireturn, 1) := by decide +kernel
theorem dX8_advance_36 : decode cX8_advance 36 = .ok (.aload_n 0, 1) := by decide +kernel
theorem dX8_advance_37 : decode cX8_advance 37 = .ok (.invokevirtual 262, 3) := by decide +kernel
theorem dX8_advance_40 : decode cX8_advance 40 = .ok (.aload_n 0, 1) := by decide +kernel
theorem dX8_advance_41 : decode cX8_advance 41 = .ok (.aload_n 0, 1) := by decide +kernel
theorem dX8_advance_42 : decode cX8_advance 42 = .ok (.iload_n 1, 1) := by decide +kernel
theorem dX8_advance_43 : decode cX8_advance 43 = .ok (.invokevirtual 46, 3) := by decide +kernel
theorem dX8_advance_46 : decode cX8_advance 46 = .ok (.invokevirtual 212, 3) := by decide +kernel
theorem dX8_advance_49 : decode cX8_advance 49 = .ok (.ireturn, 1) := by decide +kernel
set_option maxRecDepth 20000 in
theorem ggX8_sets_X8_remembers : GoodIn wsX8_sets wsX8_remembers := goodIn_r _ [6, 7, 8, 1, 9, 10, 11, 5, 12, 18, 19, 20, 21, 22, 23, 24, 25, 26, 27, 28, 29, 30, 31, 32, 33, 34, 35, 36, 37, 38, 39] (by decide +kernel) (by decide +kernel)
set_option maxRecDepth 20000 in
theorem gX8_sets_X8_remembers : GoodIn wsX8_sets (wsV RX8 262 RX8 yX8_remembers wsX8_remembers) := goodIn_app (goodIn_of _ (by decide +kernel)) ggX8_sets_X8_remembers
set_option maxRecDepth 20000 in
theorem ggX8_sets_X8_told : GoodIn wsX8_sets wsX8_told := goodIn_r _ [16, 17, 18, 19, 20, 21, 22, 23, 24, 25, 26, 27, 28, 29, 30, 31, 32, 33, 34, 35, 36, 37, 38, 39] (by decide +kernel) (by decide +kernel)
set_option maxRecDepth 20000 in
theorem gX8_sets_X8_told : GoodIn wsX8_sets (wsV RX8 212 RX8 yX8_told wsX8_told) := goodIn_app (goodIn_of _ (by decide +kernel)) ggX8_sets_X8_told
theorem dX8_sets_0 : decode cX8_sets 0 = .ok (.aload_n 0, 1) := by decide +kernel
theorem dX8_sets_1 : decode cX8_sets 1 = .ok (.invokevirtual 262, 3) := by decide +kernel
theorem dX8_sets_4 : decode cX8_sets 4 = .ok (.aload_n 0, 1) := by decide +kernel
theorem dX8_sets_5 : decode cX8_sets 5 = .ok (.getfield 16, 3) := by decide +kernel
theorem dX8_sets_8 : decode cX8_sets 8 = .ok (.iload_n 1, 1) := by decide +kernel
theorem dX8_sets_9 : decode cX8_sets 9 = .ok (.iaload, 1) := by decide +kernel
theorem dX8_sets_10 : decode cX8_sets 10 = .ok (.istore_n 3, 1) := by decide +kernel
theorem dX8_sets_11 : decode cX8_sets 11 = .ok (.aload_n 0, 1) := by decide +kernel
theorem dX8_sets_12 : decode cX8_sets 12 = .ok (.getfield 16, 3) := by decide +kernel
theorem dX8_sets_15 : decode cX8_sets 15 = .ok (.iload_n 1, 1) := by decide +kernel
theorem dX8_sets_16 : decode cX8_sets 16 = .ok (.iload_n 2, 1) := by decide +kernel
theorem dX8_sets_17 : decode cX8_sets 17 = .ok (.iastore, 1) := by decide +kernel
theorem dX8_sets_18 : decode cX8_sets 18 = .ok (.aload_n 0, 1) := by decide +kernel
theorem dX8_sets_19 : decode cX8_sets 19 = .ok (.iload_n 3, 1) := by decide +kernel
theorem dX8_sets_20 : decode cX8_sets 20 = .ok (.invokevirtual 212, 3) := by decide +kernel
theorem dX8_sets_23 : decode cX8_sets 23 = .ok (.ireturn, 1) := by decide +kernel
set_option maxRecDepth 20000 in
theorem ggX8_setHumidity_X8_in : GoodIn wsX8_setHumidity wsX8_in := goodIn_r _ [4] (by decide +kernel) (by decide +kernel)
set_option maxRecDepth 20000 in
theorem gX8_setHumidity_X8_in : GoodIn wsX8_setHumidity (va_wsS RX8 56 yX8_in wsX8_in) := goodIn_app (goodIn_of _ (by decide +kernel)) ggX8_setHumidity_X8_in
set_option maxRecDepth 20000 in
theorem ggX8_setHumidity_X8_refuse : GoodIn wsX8_setHumidity wsX8_refuse := goodIn_r _ [8, 9, 29, 30, 31, 32, 33, 34, 35, 36, 37, 38, 39, 40, 41, 42, 43, 44, 45, 46, 47, 48, 49, 50] (by decide +kernel) (by decide +kernel)
set_option maxRecDepth 20000 in
theorem gX8_setHumidity_X8_refuse : GoodIn wsX8_setHumidity (wsV RX8 206 RX8 yX8_refuse wsX8_refuse) := goodIn_app (goodIn_of _ (by decide +kernel)) ggX8_setHumidity_X8_refuse
set_option maxRecDepth 20000 in
theorem ggX8_setHumidity_X8_sets : GoodIn wsX8_setHumidity wsX8_sets := goodIn_r _ [13, 14, 15, 16, 17, 3, 18, 19, 20, 21, 22, 23, 24, 25, 26, 27, 28, 9, 29, 30, 31, 32, 33, 34, 35, 36, 37, 38, 39, 40, 41, 42, 43, 44, 45, 46, 47, 48, 49, 50] (by decide +kernel) (by decide +kernel)
set_option maxRecDepth 20000 in
theorem gX8_setHumidity_X8_sets : GoodIn wsX8_setHumidity (wsV RX8 265 RX8 yX8_sets wsX8_sets) := goodIn_app (goodIn_of _ (by decide +kernel)) ggX8_setHumidity_X8_sets
theorem dX8_setHumidity_0 : decode cX8_setHumidity 0 = .ok (.iload_n 1, 1) := by decide +kernel
theorem dX8_setHumidity_1 : decode cX8_setHumidity 1 = .ok (.iconst 0, 1) := by decide +kernel
theorem dX8_setHumidity_2 : decode cX8_setHumidity 2 = .ok (.bipush 100, 2) := by decide +kernel
theorem dX8_setHumidity_4 : decode cX8_setHumidity 4 = .ok (.invokestatic 56, 3) := by decide +kernel
theorem dX8_setHumidity_7 : decode cX8_setHumidity 7 = .ok (.ifCond .ne 9, 3) := by decide +kernel
theorem dX8_setHumidity_10 : decode cX8_setHumidity 10 = .ok (.aload_n 0, 1) := by decide +kernel
theorem dX8_setHumidity_11 : decode cX8_setHumidity 11 = .ok (.iconst 1, 1) := by decide +kernel
theorem dX8_setHumidity_12 : decode cX8_setHumidity 12 = .ok (.invokevirtual 206, 3) := by decide +kernel
theorem dX8_setHumidity_15 : decode cX8_setHumidity 15 = .ok (.ireturn, 1) := by decide +kernel
theorem dX8_setHumidity_16 : decode cX8_setHumidity 16 = .ok (.aload_n 0, 1) := by decide +kernel
theorem dX8_setHumidity_17 : decode cX8_setHumidity 17 = .ok (.iconst 1, 1) := by decide +kernel
theorem dX8_setHumidity_18 : decode cX8_setHumidity 18 = .ok (.iload_n 1, 1) := by decide +kernel
theorem dX8_setHumidity_19 : decode cX8_setHumidity 19 = .ok (.invokevirtual 265, 3) := by decide +kernel
theorem dX8_setHumidity_22 : decode cX8_setHumidity 22 = .ok (.ireturn, 1) := by decide +kernel
set_option maxRecDepth 20000 in
theorem ggX8_setTemperature_X8_in : GoodIn wsX8_setTemperature wsX8_in := goodIn_r _ [4] (by decide +kernel) (by decide +kernel)
set_option maxRecDepth 20000 in
theorem gX8_setTemperature_X8_in : GoodIn wsX8_setTemperature (va_wsS RX8 56 yX8_in wsX8_in) := goodIn_app (goodIn_of _ (by decide +kernel)) ggX8_setTemperature_X8_in
set_option maxRecDepth 20000 in
theorem ggX8_setTemperature_X8_refuse : GoodIn wsX8_setTemperature wsX8_refuse := goodIn_r _ [8, 9, 29, 30, 31, 32, 33, 34, 35, 36, 37, 38, 39, 40, 41, 42, 43, 44, 45, 46, 47, 48, 49, 50] (by decide +kernel) (by decide +kernel)
set_option maxRecDepth 20000 in
theorem gX8_setTemperature_X8_refuse : GoodIn wsX8_setTemperature (wsV RX8 206 RX8 yX8_refuse wsX8_refuse) := goodIn_app (goodIn_of _ (by decide +kernel)) ggX8_setTemperature_X8_refuse
set_option maxRecDepth 20000 in
theorem ggX8_setTemperature_X8_sets : GoodIn wsX8_setTemperature wsX8_sets := goodIn_r _ [13, 14, 15, 16, 17, 3, 18, 19, 20, 21, 22, 23, 24, 25, 26, 27, 28, 9, 29, 30, 31, 32, 33, 34, 35, 36, 37, 38, 39, 40, 41, 42, 43, 44, 45, 46, 47, 48, 49, 50] (by decide +kernel) (by decide +kernel)
set_option maxRecDepth 20000 in
theorem gX8_setTemperature_X8_sets : GoodIn wsX8_setTemperature (wsV RX8 265 RX8 yX8_sets wsX8_sets) := goodIn_app (goodIn_of _ (by decide +kernel)) ggX8_setTemperature_X8_sets
theorem dX8_setTemperature_0 : decode cX8_setTemperature 0 = .ok (.iload_n 1, 1) := by decide +kernel
theorem dX8_setTemperature_1 : decode cX8_setTemperature 1 = .ok (.iconst 0, 1) := by decide +kernel
theorem dX8_setTemperature_2 : decode cX8_setTemperature 2 = .ok (.bipush 40, 2) := by decide +kernel
theorem dX8_setTemperature_4 : decode cX8_setTemperature 4 = .ok (.invokestatic 56, 3) := by decide +kernel
theorem dX8_setTemperature_7 : decode cX8_setTemperature 7 = .ok (.ifCond .ne 9, 3) := by decide +kernel
theorem dX8_setTemperature_10 : decode cX8_setTemperature 10 = .ok (.aload_n 0, 1) := by decide +kernel
theorem dX8_setTemperature_11 : decode cX8_setTemperature 11 = .ok (.iconst 1, 1) := by decide +kernel
theorem dX8_setTemperature_12 : decode cX8_setTemperature 12 = .ok (.invokevirtual 206, 3) := by decide +kernel
theorem dX8_setTemperature_15 : decode cX8_setTemperature 15 = .ok (.ireturn, 1) := by decide +kernel
theorem dX8_setTemperature_16 : decode cX8_setTemperature 16 = .ok (.aload_n 0, 1) := by decide +kernel
theorem dX8_setTemperature_17 : decode cX8_setTemperature 17 = .ok (.iconst 2, 1) := by decide +kernel
theorem dX8_setTemperature_18 : decode cX8_setTemperature 18 = .ok (.iload_n 1, 1) := by decide +kernel
theorem dX8_setTemperature_19 : decode cX8_setTemperature 19 = .ok (.invokevirtual 265, 3) := by decide +kernel
theorem dX8_setTemperature_22 : decode cX8_setTemperature 22 = .ok (.ireturn, 1) := by decide +kernel
set_option maxRecDepth 20000 in
theorem ggX8_setSkill_X8_in : GoodIn wsX8_setSkill wsX8_in := goodIn_r _ [4] (by decide +kernel) (by decide +kernel)
set_option maxRecDepth 20000 in
theorem gX8_setSkill_X8_in : GoodIn wsX8_setSkill (va_wsS RX8 56 yX8_in wsX8_in) := goodIn_app (goodIn_of _ (by decide +kernel)) ggX8_setSkill_X8_in
set_option maxRecDepth 20000 in
theorem ggX8_setSkill_X8_refuse : GoodIn wsX8_setSkill wsX8_refuse := goodIn_r _ [8, 9, 29, 30, 31, 32, 33, 34, 35, 36, 37, 38, 39, 40, 41, 42, 43, 44, 45, 46, 47, 48, 49, 50] (by decide +kernel) (by decide +kernel)
set_option maxRecDepth 20000 in
theorem gX8_setSkill_X8_refuse : GoodIn wsX8_setSkill (wsV RX8 206 RX8 yX8_refuse wsX8_refuse) := goodIn_app (goodIn_of _ (by decide +kernel)) ggX8_setSkill_X8_refuse
set_option maxRecDepth 20000 in
theorem ggX8_setSkill_X8_sets : GoodIn wsX8_setSkill wsX8_sets := goodIn_r _ [13, 14, 15, 16, 17, 3, 18, 19, 20, 21, 22, 23, 24, 25, 26, 27, 28, 9, 29, 30, 31, 32, 33, 34, 35, 36, 37, 38, 39, 40, 41, 42, 43, 44, 45, 46, 47, 48, 49, 50] (by decide +kernel) (by decide +kernel)
set_option maxRecDepth 20000 in
theorem gX8_setSkill_X8_sets : GoodIn wsX8_setSkill (wsV RX8 265 RX8 yX8_sets wsX8_sets) := goodIn_app (goodIn_of _ (by decide +kernel)) ggX8_setSkill_X8_sets
theorem dX8_setSkill_0 : decode cX8_setSkill 0 = .ok (.iload_n 1, 1) := by decide +kernel
theorem dX8_setSkill_1 : decode cX8_setSkill 1 = .ok (.iconst 0, 1) := by decide +kernel
theorem dX8_setSkill_2 : decode cX8_setSkill 2 = .ok (.iconst 5, 1) := by decide +kernel
theorem dX8_setSkill_3 : decode cX8_setSkill 3 = .ok (.invokestatic 56, 3) := by decide +kernel
theorem dX8_setSkill_6 : decode cX8_setSkill 6 = .ok (.ifCond .ne 9, 3) := by decide +kernel
theorem dX8_setSkill_9 : decode cX8_setSkill 9 = .ok (.aload_n 0, 1) := by decide +kernel
theorem dX8_setSkill_10 : decode cX8_setSkill 10 = .ok (.iconst 1, 1) := by decide +kernel
theorem dX8_setSkill_11 : decode cX8_setSkill 11 = .ok (.invokevirtual 206, 3) := by decide +kernel
theorem dX8_setSkill_14 : decode cX8_setSkill 14 = .ok (.ireturn, 1) := by decide +kernel
theorem dX8_setSkill_15 : decode cX8_setSkill 15 = .ok (.aload_n 0, 1) := by decide +kernel
theorem dX8_setSkill_16 : decode cX8_setSkill 16 = .ok (.iconst 3, 1) := by decide +kernel
theorem dX8_setSkill_17 : decode cX8_setSkill 17 = .ok (.iload_n 1, 1) := by decide +kernel
theorem dX8_setSkill_18 : decode cX8_setSkill 18 = .ok (.invokevirtual 265, 3) := by decide +kernel
theorem dX8_setSkill_21 : decode cX8_setSkill 21 = .ok (.ireturn, 1) := by decide +kernel
set_option maxRecDepth 20000 in
theorem ggX8_putInBox_X8_is : GoodIn wsX8_putInBox wsX8_is := goodIn_r _ [7, 1, 8, 9, 6, 10, 37, 38, 39, 40, 41, 42, 43, 44, 45, 46, 47, 48, 49, 50, 51, 52, 53, 54, 55, 56, 57, 58] (by decide +kernel) (by decide +kernel)
set_option maxRecDepth 20000 in
theorem gX8_putInBox_X8_is : GoodIn wsX8_putInBox (wsV RX8 230 RX8 yX8_is wsX8_is) := goodIn_app (goodIn_of _ (by decide +kernel)) ggX8_putInBox_X8_is
set_option maxRecDepth 20000 in
theorem ggX8_putInBox_X8_refuse : GoodIn wsX8_putInBox wsX8_refuse := goodIn_r _ [14, 15, 37, 38, 39, 40, 41, 42, 43, 44, 45, 46, 47, 48, 49, 50, 51, 52, 53, 54, 55, 56, 57, 58] (by decide +kernel) (by decide +kernel)
set_option maxRecDepth 20000 in
theorem gX8_putInBox_X8_refuse : GoodIn wsX8_putInBox (wsV RX8 206 RX8 yX8_refuse wsX8_refuse) := goodIn_app (goodIn_of _ (by decide +kernel)) ggX8_putInBox_X8_refuse
set_option maxRecDepth 20000 in
theorem ggX8_putInBox_X8_in : GoodIn wsX8_putInBox wsX8_in := goodIn_r _ [10] (by decide +kernel) (by decide +kernel)
set_option maxRecDepth 20000 in
theorem gX8_putInBox_X8_in : GoodIn wsX8_putInBox (va_wsS RX8 56 yX8_in wsX8_in) := goodIn_app (goodIn_of _ (by decide +kernel)) ggX8_putInBox_X8_in
set_option maxRecDepth 20000 in
theorem ggX8_putInBox_X8_isBoxed : GoodIn wsX8_putInBox wsX8_isBoxed := goodIn_r _ [19, 1, 20, 21, 6, 22, 37, 38, 39, 40, 41, 42, 43, 44, 45, 46, 47, 48, 49, 50, 51, 52, 53, 54, 55, 56, 57, 58] (by decide +kernel) (by decide +kernel)
set_option maxRecDepth 20000 in
theorem gX8_putInBox_X8_isBoxed : GoodIn wsX8_putInBox (wsV RX8 63 RX8 yX8_isBoxed wsX8_isBoxed) := goodIn_app (goodIn_of _ (by decide +kernel)) ggX8_putInBox_X8_isBoxed
set_option maxRecDepth 20000 in
theorem ggX8_putInBox_X8_remembers : GoodIn wsX8_putInBox wsX8_remembers := goodIn_r _ [26, 27, 28, 1, 29, 30, 31, 6, 32, 37, 38, 39, 40, 41, 42, 43, 44, 45, 46, 47, 48, 49, 50, 51, 52, 53, 54, 55, 56, 57, 58] (by decide +kernel) (by decide +kernel)
set_option maxRecDepth 20000 in
theorem gX8_putInBox_X8_remembers : GoodIn wsX8_putInBox (wsV RX8 262 RX8 yX8_remembers wsX8_remembers) := goodIn_app (goodIn_of _ (by decide +kernel)) ggX8_putInBox_X8_remembers
set_option maxRecDepth 20000 in
theorem ggX8_putInBox_X8_i : GoodIn wsX8_putInBox wsX8_i := goodIn_r _ [22] (by decide +kernel) (by decide +kernel)
set_option maxRecDepth 20000 in
theorem gX8_putInBox_X8_i : GoodIn wsX8_putInBox (va_wsS RX8 50 yX8_i wsX8_i) := goodIn_app (goodIn_of _ (by decide +kernel)) ggX8_putInBox_X8_i
set_option maxRecDepth 20000 in
theorem ggX8_putInBox_X8_told : GoodIn wsX8_putInBox wsX8_told := goodIn_r _ [36, 15, 37, 38, 39, 40, 41, 42, 43, 44, 45, 46, 47, 48, 49, 50, 51, 52, 53, 54, 55, 56, 57, 58] (by decide +kernel) (by decide +kernel)
set_option maxRecDepth 20000 in
theorem gX8_putInBox_X8_told : GoodIn wsX8_putInBox (wsV RX8 212 RX8 yX8_told wsX8_told) := goodIn_app (goodIn_of _ (by decide +kernel)) ggX8_putInBox_X8_told
theorem dX8_putInBox_0 : decode cX8_putInBox 0 = .ok (.aload_n 0, 1) := by decide +kernel
theorem dX8_putInBox_1 : decode cX8_putInBox 1 = .ok (.iload_n 1, 1) := by decide +kernel
theorem dX8_putInBox_2 : decode cX8_putInBox 2 = .ok (.invokevirtual 230, 3) := by decide +kernel
theorem dX8_putInBox_5 : decode cX8_putInBox 5 = .ok (.ifCond .ne 9, 3) := by decide +kernel
theorem dX8_putInBox_8 : decode cX8_putInBox 8 = .ok (.aload_n 0, 1) := by decide +kernel
theorem dX8_putInBox_9 : decode cX8_putInBox 9 = .ok (.iconst 1, 1) := by decide +kernel
theorem dX8_putInBox_10 : decode cX8_putInBox 10 = .ok (.invokevirtual 206, 3) := by decide +kernel
theorem dX8_putInBox_13 : decode cX8_putInBox 13 = .ok (.ireturn, 1) := by decide +kernel
theorem dX8_putInBox_14 : decode cX8_putInBox 14 = .ok (.iload_n 2, 1) := by decide +kernel
theorem dX8_putInBox_15 : decode cX8_putInBox 15 = .ok (.iconst 0, 1) := by decide +kernel
theorem dX8_putInBox_16 : decode cX8_putInBox 16 = .ok (.iconst 3, 1) := by decide +kernel
theorem dX8_putInBox_17 : decode cX8_putInBox 17 = .ok (.invokestatic 56, 3) := by decide +kernel
theorem dX8_putInBox_20 : decode cX8_putInBox 20 = .ok (.ifCond .ne 9, 3) := by decide +kernel
theorem dX8_putInBox_23 : decode cX8_putInBox 23 = .ok (.aload_n 0, 1) := by decide +kernel
theorem dX8_putInBox_24 : decode cX8_putInBox 24 = .ok (.iconst 2, 1) := by decide +kernel
theorem dX8_putInBox_25 : decode cX8_putInBox 25 = .ok (.invokevirtual 206, 3) := by decide +kernel
theorem dX8_putInBox_28 : decode cX8_putInBox 28 = .ok (.ireturn, 1) := by decide +kernel
theorem dX8_putInBox_29 : decode cX8_putInBox 29 = .ok (.aload_n 0, 1) := by decide +kernel
theorem dX8_putInBox_30 : decode cX8_putInBox 30 = .ok (.iload_n 1, 1) := by decide +kernel
theorem dX8_putInBox_31 : decode cX8_putInBox 31 = .ok (.invokevirtual 63, 3) := by decide +kernel
theorem dX8_putInBox_34 : decode cX8_putInBox 34 = .ok (.ifCond .eq 9, 3) := by decide +kernel
theorem dX8_putInBox_37 : decode cX8_putInBox 37 = .ok (.aload_n 0, 1) := by decide +kernel
theorem dX8_putInBox_38 : decode cX8_putInBox 38 = .ok (.iconst 3, 1) := by decide +kernel
theorem dX8_putInBox_39 : decode cX8_putInBox 39 = .ok (.invokevirtual 206, 3) := by decide +kernel
theorem dX8_putInBox_42 : decode cX8_putInBox 42 = .ok (.ireturn, 1) := by decide +kernel
theorem dX8_putInBox_43 : decode cX8_putInBox 43 = .ok (.aload_n 0, 1) := by decide +kernel
theorem dX8_putInBox_44 : decode cX8_putInBox 44 = .ok (.invokevirtual 262, 3) := by decide +kernel
theorem dX8_putInBox_47 : decode cX8_putInBox 47 = .ok (.aload_n 0, 1) := by decide +kernel
theorem dX8_putInBox_48 : decode cX8_putInBox 48 = .ok (.getfield 16, 3) := by decide +kernel
theorem dX8_putInBox_51 : decode cX8_putInBox 51 = .ok (.iload_n 1, 1) := by decide +kernel
theorem dX8_putInBox_52 : decode cX8_putInBox 52 = .ok (.invokestatic 50, 3) := by decide +kernel
theorem dX8_putInBox_55 : decode cX8_putInBox 55 = .ok (.bipush 7, 2) := by decide +kernel
theorem dX8_putInBox_57 : decode cX8_putInBox 57 = .ok (.iadd, 1) := by decide +kernel
theorem dX8_putInBox_58 : decode cX8_putInBox 58 = .ok (.iload_n 2, 1) := by decide +kernel
theorem dX8_putInBox_59 : decode cX8_putInBox 59 = .ok (.iastore, 1) := by decide +kernel
theorem dX8_putInBox_60 : decode cX8_putInBox 60 = .ok (.aload_n 0, 1) := by decide +kernel
theorem dX8_putInBox_61 : decode cX8_putInBox 61 = .ok (.aload_n 0, 1) := by decide +kernel
theorem dX8_putInBox_62 : decode cX8_putInBox 62 = .ok (.getfield 7, 3) := by decide +kernel
theorem dX8_putInBox_65 : decode cX8_putInBox 65 = .ok (.iload_n 2, 1) := by decide +kernel
theorem dX8_putInBox_66 : decode cX8_putInBox 66 = .ok (.iaload, 1) := by decide +kernel
theorem dX8_putInBox_67 : decode cX8_putInBox 67 = .ok (.invokevirtual 212, 3) := by decide +kernel
theorem dX8_putInBox_70 : decode cX8_putInBox 70 = .ok (.ireturn, 1) := by decide +kernel
set_option maxRecDepth 20000 in
theorem ggX8_takeOut_X8_is : GoodIn wsX8_takeOut wsX8_is := goodIn_r _ [5, 6, 7, 8, 4, 9, 40, 41, 42, 43, 44, 45, 46, 47, 48, 49, 50, 51, 52, 53, 54, 55, 56, 57, 58, 59, 60, 61] (by decide +kernel) (by decide +kernel)
set_option maxRecDepth 20000 in
theorem gX8_takeOut_X8_is : GoodIn wsX8_takeOut (wsV RX8 230 RX8 yX8_is wsX8_is) := goodIn_app (goodIn_of _ (by decide +kernel)) ggX8_takeOut_X8_is
set_option maxRecDepth 20000 in
theorem ggX8_takeOut_X8_refuse : GoodIn wsX8_takeOut wsX8_refuse := goodIn_r _ [13, 14, 40, 41, 42, 43, 44, 45, 46, 47, 48, 49, 50, 51, 52, 53, 54, 55, 56, 57, 58, 59, 60, 61] (by decide +kernel) (by decide +kernel)
set_option maxRecDepth 20000 in
theorem gX8_takeOut_X8_refuse : GoodIn wsX8_takeOut (wsV RX8 206 RX8 yX8_refuse wsX8_refuse) := goodIn_app (goodIn_of _ (by decide +kernel)) ggX8_takeOut_X8_refuse
set_option maxRecDepth 20000 in
theorem ggX8_takeOut_X8_isBoxed : GoodIn wsX8_takeOut wsX8_isBoxed := goodIn_r _ [18, 6, 19, 20, 4, 21, 40, 41, 42, 43, 44, 45, 46, 47, 48, 49, 50, 51, 52, 53, 54, 55, 56, 57, 58, 59, 60, 61] (by decide +kernel) (by decide +kernel)
set_option maxRecDepth 20000 in
theorem gX8_takeOut_X8_isBoxed : GoodIn wsX8_takeOut (wsV RX8 63 RX8 yX8_isBoxed wsX8_isBoxed) := goodIn_app (goodIn_of _ (by decide +kernel)) ggX8_takeOut_X8_isBoxed
set_option maxRecDepth 20000 in
theorem ggX8_takeOut_X8_i : GoodIn wsX8_takeOut wsX8_i := goodIn_r _ [21] (by decide +kernel) (by decide +kernel)
set_option maxRecDepth 20000 in
theorem gX8_takeOut_X8_i : GoodIn wsX8_takeOut (va_wsS RX8 50 yX8_i wsX8_i) := goodIn_app (goodIn_of _ (by decide +kernel)) ggX8_takeOut_X8_i
set_option maxRecDepth 20000 in
theorem ggX8_takeOut_X8_sets : GoodIn wsX8_takeOut wsX8_sets := goodIn_r _ [25, 6, 26, 27, 28, 4, 29, 30, 31, 32, 33, 34, 35, 36, 37, 38, 39, 14, 40, 41, 42, 43, 44, 45, 46, 47, 48, 49, 50, 51, 52, 53, 54, 55, 56, 57, 58, 59, 60, 61] (by decide +kernel) (by decide +kernel)
set_option maxRecDepth 20000 in
theorem gX8_takeOut_X8_sets : GoodIn wsX8_takeOut (wsV RX8 265 RX8 yX8_sets wsX8_sets) := goodIn_app (goodIn_of _ (by decide +kernel)) ggX8_takeOut_X8_sets
theorem dX8_takeOut_0 : decode cX8_takeOut 0 = .ok (.aload_n 0, 1) := by decide +kernel
theorem dX8_takeOut_1 : decode cX8_takeOut 1 = .ok (.iload_n 1, 1) := by decide +kernel
theorem dX8_takeOut_2 : decode cX8_takeOut 2 = .ok (.invokevirtual 230, 3) := by decide +kernel
theorem dX8_takeOut_5 : decode cX8_takeOut 5 = .ok (.ifCond .ne 9, 3) := by decide +kernel
theorem dX8_takeOut_8 : decode cX8_takeOut 8 = .ok (.aload_n 0, 1) := by decide +kernel
theorem dX8_takeOut_9 : decode cX8_takeOut 9 = .ok (.iconst 1, 1) := by decide +kernel
theorem dX8_takeOut_10 : decode cX8_takeOut 10 = .ok (.invokevirtual 206, 3) := by decide +kernel
theorem dX8_takeOut_13 : decode cX8_takeOut 13 = .ok (.ireturn, 1) := by decide +kernel
theorem dX8_takeOut_14 : decode cX8_takeOut 14 = .ok (.aload_n 0, 1) := by decide +kernel
theorem dX8_takeOut_15 : decode cX8_takeOut 15 = .ok (.iload_n 1, 1) := by decide +kernel
theorem dX8_takeOut_16 : decode cX8_takeOut 16 = .ok (.invokevirtual 63, 3) := by decide +kernel
theorem dX8_takeOut_19 : decode cX8_takeOut 19 = .ok (.ifCond .ne 9, 3) := by decide +kernel
theorem dX8_takeOut_22 : decode cX8_takeOut 22 = .ok (.aload_n 0, 1) := by decide +kernel
theorem dX8_takeOut_23 : decode cX8_takeOut 23 = .ok (.iconst 2, 1) := by decide +kernel
theorem dX8_takeOut_24 : decode cX8_takeOut 24 = .ok (.invokevirtual 206, 3) := by decide +kernel
theorem dX8_takeOut_27 : decode cX8_takeOut 27 = .ok (.ireturn, 1) := by decide +kernel
theorem dX8_takeOut_28 : decode cX8_takeOut 28 = .ok (.aload_n 0, 1) := by decide +kernel
theorem dX8_takeOut_29 : decode cX8_takeOut 29 = .ok (.iload_n 1, 1) := by decide +kernel
theorem dX8_takeOut_30 : decode cX8_takeOut 30 = .ok (.invokestatic 50, 3) := by decide +kernel
theorem dX8_takeOut_33 : decode cX8_takeOut 33 = .ok (.bipush 7, 2) := by decide +kernel
theorem dX8_takeOut_35 : decode cX8_takeOut 35 = .ok (.iadd, 1) := by decide +kernel
theorem dX8_takeOut_36 : decode cX8_takeOut 36 = .ok (.iconst (-1), 1) := by decide +kernel
theorem dX8_takeOut_37 : decode cX8_takeOut 37 = .ok (.invokevirtual 265, 3) := by decide +kernel
theorem dX8_takeOut_40 : decode cX8_takeOut 40 = .ok (.ireturn, 1) := by decide +kernel
set_option maxRecDepth 20000 in
theorem ggX8_calibrate_X8_is : GoodIn wsX8_calibrate wsX8_is := goodIn_r _ [5, 6, 7, 8, 4, 9, 69, 70, 71, 72, 73, 74, 75, 76, 77, 78, 79, 80, 81, 82, 83, 84, 85, 86, 87, 88, 89, 90] (by decide +kernel) (by decide +kernel)
set_option maxRecDepth 20000 in
theorem gX8_calibrate_X8_is : GoodIn wsX8_calibrate (wsV RX8 230 RX8 yX8_is wsX8_is) := goodIn_app (goodIn_of _ (by decide +kernel)) ggX8_calibrate_X8_is
set_option maxRecDepth 20000 in
theorem ggX8_calibrate_X8_refuse : GoodIn wsX8_calibrate wsX8_refuse := goodIn_r _ [13, 14, 69, 70, 71, 72, 73, 74, 75, 76, 77, 78, 79, 80, 81, 82, 83, 84, 85, 86, 87, 88, 89, 90] (by decide +kernel) (by decide +kernel)
set_option maxRecDepth 20000 in
theorem gX8_calibrate_X8_refuse : GoodIn wsX8_calibrate (wsV RX8 206 RX8 yX8_refuse wsX8_refuse) := goodIn_app (goodIn_of _ (by decide +kernel)) ggX8_calibrate_X8_refuse
set_option maxRecDepth 20000 in
theorem ggX8_calibrate_X8_hindrance : GoodIn wsX8_calibrate wsX8_hindrance := goodIn_r _ [18, 19, 20, 21, 4, 22, 6, 23, 24, 25, 26, 27, 28, 29, 30, 31, 32, 33, 34, 35, 36, 37, 38, 39, 40, 41, 42, 69, 70, 71, 72, 73, 74, 75, 76, 77, 78, 79, 80, 81, 82, 83, 84, 85, 86, 87, 88, 89, 90] (by decide +kernel) (by decide +kernel)
set_option maxRecDepth 20000 in
theorem gX8_calibrate_X8_hindrance : GoodIn wsX8_calibrate (wsV RX8 250 RX8 yX8_hindrance wsX8_hindrance) := goodIn_app (goodIn_of _ (by decide +kernel)) ggX8_calibrate_X8_hindrance
set_option maxRecDepth 20000 in
theorem ggX8_calibrate_X8_i : GoodIn wsX8_calibrate wsX8_i := goodIn_r _ [25] (by decide +kernel) (by decide +kernel)
set_option maxRecDepth 20000 in
theorem gX8_calibrate_X8_i : GoodIn wsX8_calibrate (va_wsS RX8 50 yX8_i wsX8_i) := goodIn_app (goodIn_of _ (by decide +kernel)) ggX8_calibrate_X8_i
set_option maxRecDepth 20000 in
theorem ggX8_calibrate_X8_around : GoodIn wsX8_calibrate wsX8_around := goodIn_r _ [41, 42, 6, 19, 20, 21, 4, 22, 23, 24, 25, 69, 70, 71, 72, 73, 74, 75, 76, 77, 78, 79, 80, 81, 82, 83, 84, 85, 86, 87, 88, 89, 90] (by decide +kernel) (by decide +kernel)
set_option maxRecDepth 20000 in
theorem gX8_calibrate_X8_around : GoodIn wsX8_calibrate (wsV RX8 67 RX8 yX8_around wsX8_around) := goodIn_app (goodIn_of _ (by decide +kernel)) ggX8_calibrate_X8_around
set_option maxRecDepth 20000 in
theorem ggX8_calibrate_X8_raw : GoodIn wsX8_calibrate wsX8_raw := goodIn_r _ [46, 6, 30, 31, 32, 4, 33, 23, 24, 25, 47, 48, 49, 50, 38, 39, 40, 41, 42, 19, 20, 21, 22, 69, 70, 71, 72, 73, 74, 75, 76, 77, 78, 79, 80, 81, 82, 83, 84, 85, 86, 87, 88, 89, 90] (by decide +kernel) (by decide +kernel)
set_option maxRecDepth 20000 in
theorem gX8_calibrate_X8_raw : GoodIn wsX8_calibrate (wsV RX8 76 RX8 yX8_raw wsX8_raw) := goodIn_app (goodIn_of _ (by decide +kernel)) ggX8_calibrate_X8_raw
set_option maxRecDepth 20000 in
theorem ggX8_calibrate_X8_sets : GoodIn wsX8_calibrate wsX8_sets := goodIn_r _ [54, 6, 55, 56, 57, 4, 58, 59, 60, 61, 62, 63, 64, 65, 66, 67, 68, 14, 69, 70, 71, 72, 73, 74, 75, 76, 77, 78, 79, 80, 81, 82, 83, 84, 85, 86, 87, 88, 89, 90] (by decide +kernel) (by decide +kernel)
set_option maxRecDepth 20000 in
theorem gX8_calibrate_X8_sets : GoodIn wsX8_calibrate (wsV RX8 265 RX8 yX8_sets wsX8_sets) := goodIn_app (goodIn_of _ (by decide +kernel)) ggX8_calibrate_X8_sets
theorem dX8_calibrate_0 : decode cX8_calibrate 0 = .ok (.aload_n 0, 1) := by decide +kernel
theorem dX8_calibrate_1 : decode cX8_calibrate 1 = .ok (.iload_n 1, 1) := by decide +kernel
theorem dX8_calibrate_2 : decode cX8_calibrate 2 = .ok (.invokevirtual 230, 3) := by decide +kernel
theorem dX8_calibrate_5 : decode cX8_calibrate 5 = .ok (.ifCond .ne 9, 3) := by decide +kernel
theorem dX8_calibrate_8 : decode cX8_calibrate 8 = .ok (.aload_n 0, 1) := by decide +kernel
theorem dX8_calibrate_9 : decode cX8_calibrate 9 = .ok (.iconst 1, 1) := by decide +kernel
theorem dX8_calibrate_10 : decode cX8_calibrate 10 = .ok (.invokevirtual 206, 3) := by decide +kernel
theorem dX8_calibrate_13 : decode cX8_calibrate 13 = .ok (.ireturn, 1) := by decide +kernel
theorem dX8_calibrate_14 : decode cX8_calibrate 14 = .ok (.aload_n 0, 1) := by decide +kernel
theorem dX8_calibrate_15 : decode cX8_calibrate 15 = .ok (.iload_n 1, 1) := by decide +kernel
theorem dX8_calibrate_16 : decode cX8_calibrate 16 = .ok (.invokevirtual 250, 3) := by decide +kernel
theorem dX8_calibrate_19 : decode cX8_calibrate 19 = .ok (.ifCond .eq 9, 3) := by decide +kernel
theorem dX8_calibrate_22 : decode cX8_calibrate 22 = .ok (.aload_n 0, 1) := by decide +kernel
theorem dX8_calibrate_23 : decode cX8_calibrate 23 = .ok (.iconst 2, 1) := by decide +kernel
theorem dX8_calibrate_24 : decode cX8_calibrate 24 = .ok (.invokevirtual 206, 3) := by decide +kernel
theorem dX8_calibrate_27 : decode cX8_calibrate 27 = .ok (.ireturn, 1) := by decide +kernel
theorem dX8_calibrate_28 : decode cX8_calibrate 28 = .ok (.aload_n 0, 1) := by decide +kernel
theorem dX8_calibrate_29 : decode cX8_calibrate 29 = .ok (.iload_n 1, 1) := by decide +kernel
theorem dX8_calibrate_30 : decode cX8_calibrate 30 = .ok (.invokestatic 50, 3) := by decide +kernel
theorem dX8_calibrate_33 : decode cX8_calibrate 33 = .ok (.bipush 6, 2) := by decide +kernel
theorem dX8_calibrate_35 : decode cX8_calibrate 35 = .ok (.iadd, 1) := by decide +kernel
theorem dX8_calibrate_36 : decode cX8_calibrate 36 = .ok (.aload_n 0, 1) := by decide +kernel
theorem dX8_calibrate_37 : decode cX8_calibrate 37 = .ok (.iload_n 1, 1) := by decide +kernel
theorem dX8_calibrate_38 : decode cX8_calibrate 38 = .ok (.invokevirtual 67, 3) := by decide +kernel
theorem dX8_calibrate_41 : decode cX8_calibrate 41 = .ok (.aload_n 0, 1) := by decide +kernel
theorem dX8_calibrate_42 : decode cX8_calibrate 42 = .ok (.iload_n 1, 1) := by decide +kernel
theorem dX8_calibrate_43 : decode cX8_calibrate 43 = .ok (.invokevirtual 76, 3) := by decide +kernel
theorem dX8_calibrate_46 : decode cX8_calibrate 46 = .ok (.isub, 1) := by decide +kernel
theorem dX8_calibrate_47 : decode cX8_calibrate 47 = .ok (.invokevirtual 265, 3) := by decide +kernel
theorem dX8_calibrate_50 : decode cX8_calibrate 50 = .ok (.ireturn, 1) := by decide +kernel
set_option maxRecDepth 20000 in
theorem ggX8_tighten_X8_is : GoodIn wsX8_tighten wsX8_is := goodIn_r _ [6, 1, 7, 8, 5, 9, 40, 41, 42, 43, 44, 45, 46, 47, 48, 49, 50, 51, 52, 53, 54, 55, 56, 57, 58, 59, 60, 61] (by decide +kernel) (by decide +kernel)
set_option maxRecDepth 20000 in
theorem gX8_tighten_X8_is : GoodIn wsX8_tighten (wsV RX8 230 RX8 yX8_is wsX8_is) := goodIn_app (goodIn_of _ (by decide +kernel)) ggX8_tighten_X8_is
set_option maxRecDepth 20000 in
theorem ggX8_tighten_X8_refuse : GoodIn wsX8_tighten wsX8_refuse := goodIn_r _ [13, 14, 40, 41, 42, 43, 44, 45, 46, 47, 48, 49, 50, 51, 52, 53, 54, 55, 56, 57, 58, 59, 60, 61] (by decide +kernel) (by decide +kernel)
set_option maxRecDepth 20000 in
theorem gX8_tighten_X8_refuse : GoodIn wsX8_tighten (wsV RX8 206 RX8 yX8_refuse wsX8_refuse) := goodIn_app (goodIn_of _ (by decide +kernel)) ggX8_tighten_X8_refuse
set_option maxRecDepth 20000 in
theorem ggX8_tighten_X8_isOfHair : GoodIn wsX8_tighten wsX8_isOfHair := goodIn_r _ [18, 1, 19, 20, 5, 21, 40, 41, 42, 43, 44, 45, 46, 47, 48, 49, 50, 51, 52, 53, 54, 55, 56, 57, 58, 59, 60, 61] (by decide +kernel) (by decide +kernel)
set_option maxRecDepth 20000 in
theorem gX8_tighten_X8_isOfHair : GoodIn wsX8_tighten (wsV RX8 70 RX8 yX8_isOfHair wsX8_isOfHair) := goodIn_app (goodIn_of _ (by decide +kernel)) ggX8_tighten_X8_isOfHair
set_option maxRecDepth 20000 in
theorem ggX8_tighten_X8_i : GoodIn wsX8_tighten wsX8_i := goodIn_r _ [21] (by decide +kernel) (by decide +kernel)
set_option maxRecDepth 20000 in
theorem gX8_tighten_X8_i : GoodIn wsX8_tighten (va_wsS RX8 50 yX8_i wsX8_i) := goodIn_app (goodIn_of _ (by decide +kernel)) ggX8_tighten_X8_i
set_option maxRecDepth 20000 in
theorem ggX8_tighten_X8_remembers : GoodIn wsX8_tighten wsX8_remembers := goodIn_r _ [25, 26, 27, 1, 28, 29, 30, 5, 31, 40, 41, 42, 43, 44, 45, 46, 47, 48, 49, 50, 51, 52, 53, 54, 55, 56, 57, 58, 59, 60, 61] (by decide +kernel) (by decide +kernel)
set_option maxRecDepth 20000 in
theorem gX8_tighten_X8_remembers : GoodIn wsX8_tighten (wsV RX8 262 RX8 yX8_remembers wsX8_remembers) := goodIn_app (goodIn_of _ (by decide +kernel)) ggX8_tighten_X8_remembers
set_option maxRecDepth 20000 in
theorem ggX8_tighten_X8_tightens : GoodIn wsX8_tighten wsX8_tightens := goodIn_r _ [35, 1, 19, 20, 5, 21, 40, 41, 42, 43, 44, 45, 46, 47, 48, 49, 50, 51, 52, 53, 54, 55, 56, 57, 58, 59, 60, 61] (by decide +kernel) (by decide +kernel)
set_option maxRecDepth 20000 in
theorem gX8_tighten_X8_tightens : GoodIn wsX8_tighten (wsV RX8 167 RX8 yX8_tightens wsX8_tightens) := goodIn_app (goodIn_of _ (by decide +kernel)) ggX8_tighten_X8_tightens
set_option maxRecDepth 20000 in
theorem ggX8_tighten_X8_told : GoodIn wsX8_tighten wsX8_told := goodIn_r _ [39, 14, 40, 41, 42, 43, 44, 45, 46, 47, 48, 49, 50, 51, 52, 53, 54, 55, 56, 57, 58, 59, 60, 61] (by decide +kernel) (by decide +kernel)
set_option maxRecDepth 20000 in
theorem gX8_tighten_X8_told : GoodIn wsX8_tighten (wsV RX8 212 RX8 yX8_told wsX8_told) := goodIn_app (goodIn_of _ (by decide +kernel)) ggX8_tighten_X8_told
theorem dX8_tighten_0 : decode cX8_tighten 0 = .ok (.aload_n 0, 1) := by decide +kernel
theorem dX8_tighten_1 : decode cX8_tighten 1 = .ok (.iload_n 1, 1) := by decide +kernel
theorem dX8_tighten_2 : decode cX8_tighten 2 = .ok (.invokevirtual 230, 3) := by decide +kernel
theorem dX8_tighten_5 : decode cX8_tighten 5 = .ok (.ifCond .ne 9, 3) := by decide +kernel
theorem dX8_tighten_8 : decode cX8_tighten 8 = .ok (.aload_n 0, 1) := by decide +kernel
theorem dX8_tighten_9 : decode cX8_tighten 9 = .ok (.iconst 1, 1) := by decide +kernel
theorem dX8_tighten_10 : decode cX8_tighten 10 = .ok (.invokevirtual 206, 3) := by decide +kernel
theorem dX8_tighten_13 : decode cX8_tighten 13 = .ok (.ireturn, 1) := by decide +kernel
theorem dX8_tighten_14 : decode cX8_tighten 14 = .ok (.aload_n 0, 1) := by decide +kernel
theorem dX8_tighten_15 : decode cX8_tighten 15 = .ok (.iload_n 1, 1) := by decide +kernel
theorem dX8_tighten_16 : decode cX8_tighten 16 = .ok (.invokevirtual 70, 3) := by decide +kernel
theorem dX8_tighten_19 : decode cX8_tighten 19 = .ok (.ifCond .eq 17, 3) := by decide +kernel
theorem dX8_tighten_22 : decode cX8_tighten 22 = .ok (.aload_n 0, 1) := by decide +kernel
theorem dX8_tighten_23 : decode cX8_tighten 23 = .ok (.getfield 16, 3) := by decide +kernel
theorem dX8_tighten_26 : decode cX8_tighten 26 = .ok (.iload_n 1, 1) := by decide +kernel
theorem dX8_tighten_27 : decode cX8_tighten 27 = .ok (.invokestatic 50, 3) := by decide +kernel
theorem dX8_tighten_30 : decode cX8_tighten 30 = .ok (.iconst 1, 1) := by decide +kernel
theorem dX8_tighten_31 : decode cX8_tighten 31 = .ok (.iadd, 1) := by decide +kernel
theorem dX8_tighten_32 : decode cX8_tighten 32 = .ok (.iaload, 1) := by decide +kernel
theorem dX8_tighten_33 : decode cX8_tighten 33 = .ok (.ifCond .ne 9, 3) := by decide +kernel
theorem dX8_tighten_36 : decode cX8_tighten 36 = .ok (.aload_n 0, 1) := by decide +kernel
theorem dX8_tighten_37 : decode cX8_tighten 37 = .ok (.iconst 2, 1) := by decide +kernel
theorem dX8_tighten_38 : decode cX8_tighten 38 = .ok (.invokevirtual 206, 3) := by decide +kernel
theorem dX8_tighten_41 : decode cX8_tighten 41 = .ok (.ireturn, 1) := by decide +kernel
theorem dX8_tighten_42 : decode cX8_tighten 42 = .ok (.aload_n 0, 1) := by decide +kernel
theorem dX8_tighten_43 : decode cX8_tighten 43 = .ok (.invokevirtual 262, 3) := by decide +kernel
theorem dX8_tighten_46 : decode cX8_tighten 46 = .ok (.aload_n 0, 1) := by decide +kernel
theorem dX8_tighten_47 : decode cX8_tighten 47 = .ok (.aload_n 0, 1) := by decide +kernel
theorem dX8_tighten_48 : decode cX8_tighten 48 = .ok (.iload_n 1, 1) := by decide +kernel
theorem dX8_tighten_49 : decode cX8_tighten 49 = .ok (.invokevirtual 167, 3) := by decide +kernel
theorem dX8_tighten_52 : decode cX8_tighten 52 = .ok (.invokevirtual 212, 3) := by decide +kernel
theorem dX8_tighten_55 : decode cX8_tighten 55 = .ok (.ireturn, 1) := by decide +kernel
set_option maxRecDepth 20000 in
theorem ggX8_moisten_X8_is : GoodIn wsX8_moisten wsX8_is := goodIn_r _ [5, 6, 7, 8, 4, 9, 40, 41, 42, 43, 44, 45, 46, 47, 48, 49, 50, 51, 52, 53, 54, 55, 56, 57, 58, 59, 60, 61] (by decide +kernel) (by decide +kernel)
set_option maxRecDepth 20000 in
theorem gX8_moisten_X8_is : GoodIn wsX8_moisten (wsV RX8 230 RX8 yX8_is wsX8_is) := goodIn_app (goodIn_of _ (by decide +kernel)) ggX8_moisten_X8_is
set_option maxRecDepth 20000 in
theorem ggX8_moisten_X8_refuse : GoodIn wsX8_moisten wsX8_refuse := goodIn_r _ [13, 14, 40, 41, 42, 43, 44, 45, 46, 47, 48, 49, 50, 51, 52, 53, 54, 55, 56, 57, 58, 59, 60, 61] (by decide +kernel) (by decide +kernel)
set_option maxRecDepth 20000 in
theorem gX8_moisten_X8_refuse : GoodIn wsX8_moisten (wsV RX8 206 RX8 yX8_refuse wsX8_refuse) := goodIn_app (goodIn_of _ (by decide +kernel)) ggX8_moisten_X8_refuse
set_option maxRecDepth 20000 in
theorem ggX8_moisten_X8_isOfHair : GoodIn wsX8_moisten wsX8_isOfHair := goodIn_r _ [18, 6, 19, 20, 4, 21, 40, 41, 42, 43, 44, 45, 46, 47, 48, 49, 50, 51, 52, 53, 54, 55, 56, 57, 58, 59, 60, 61] (by decide +kernel) (by decide +kernel)
set_option maxRecDepth 20000 in
theorem gX8_moisten_X8_isOfHair : GoodIn wsX8_moisten (wsV RX8 70 RX8 yX8_isOfHair wsX8_isOfHair) := goodIn_app (goodIn_of _ (by decide +kernel)) ggX8_moisten_X8_isOfHair
set_option maxRecDepth 20000 in
theorem ggX8_moisten_X8_remembers : GoodIn wsX8_moisten wsX8_remembers := goodIn_r _ [25, 26, 27, 6, 28, 29, 30, 4, 31, 40, 41, 42, 43, 44, 45, 46, 47, 48, 49, 50, 51, 52, 53, 54, 55, 56, 57, 58, 59, 60, 61] (by decide +kernel) (by decide +kernel)
set_option maxRecDepth 20000 in
theorem gX8_moisten_X8_remembers : GoodIn wsX8_moisten (wsV RX8 262 RX8 yX8_remembers wsX8_remembers) := goodIn_app (goodIn_of _ (by decide +kernel)) ggX8_moisten_X8_remembers
set_option maxRecDepth 20000 in
theorem ggX8_moisten_X8_moistens : GoodIn wsX8_moisten wsX8_moistens := goodIn_r _ [35, 6, 19, 20, 4, 21, 40, 41, 42, 43, 44, 45, 46, 47, 48, 49, 50, 51, 52, 53, 54, 55, 56, 57, 58, 59, 60, 61] (by decide +kernel) (by decide +kernel)
set_option maxRecDepth 20000 in
theorem gX8_moisten_X8_moistens : GoodIn wsX8_moisten (wsV RX8 170 RX8 yX8_moistens wsX8_moistens) := goodIn_app (goodIn_of _ (by decide +kernel)) ggX8_moisten_X8_moistens
set_option maxRecDepth 20000 in
theorem ggX8_moisten_X8_told : GoodIn wsX8_moisten wsX8_told := goodIn_r _ [39, 14, 40, 41, 42, 43, 44, 45, 46, 47, 48, 49, 50, 51, 52, 53, 54, 55, 56, 57, 58, 59, 60, 61] (by decide +kernel) (by decide +kernel)
set_option maxRecDepth 20000 in
theorem gX8_moisten_X8_told : GoodIn wsX8_moisten (wsV RX8 212 RX8 yX8_told wsX8_told) := goodIn_app (goodIn_of _ (by decide +kernel)) ggX8_moisten_X8_told
theorem dX8_moisten_0 : decode cX8_moisten 0 = .ok (.aload_n 0, 1) := by decide +kernel
