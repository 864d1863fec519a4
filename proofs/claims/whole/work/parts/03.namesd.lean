theorem dX7_errorOf_1 : decode cX7_errorOf 1 = .ok (.iload_n 1, 1) := by decide +kernel
theorem dX7_errorOf_2 : decode cX7_errorOf 2 = .ok (.invokevirtual 151, 3) := by decide +kernel
theorem dX7_errorOf_5 : decode cX7_errorOf 5 = .ok (.astore_n 2, 1) := by decide +kernel
theorem dX7_errorOf_6 : decode cX7_errorOf 6 = .ok (.aload_n 0, 1) := by decide +kernel
theorem dX7_errorOf_7 : decode cX7_errorOf 7 = .ok (.getfield 10, 3) := by decide +kernel
theorem dX7_errorOf_10 : decode cX7_errorOf 10 = .ok (.aload_n 2, 1) := by decide +kernel
theorem dX7_errorOf_11 : decode cX7_errorOf 11 = .ok (.invokevirtual 187, 3) := by decide +kernel
theorem dX7_errorOf_14 : decode cX7_errorOf 14 = .ok (.aload_n 0, 1) := by decide +kernel
theorem dX7_errorOf_15 : decode cX7_errorOf 15 = .ok (.getfield 10, 3) := by decide +kernel
theorem dX7_errorOf_18 : decode cX7_errorOf 18 = .ok (.aload_n 2, 1) := by decide +kernel
theorem dX7_errorOf_19 : decode cX7_errorOf 19 = .ok (.invokevirtual 181, 3) := by decide +kernel
theorem dX7_errorOf_22 : decode cX7_errorOf 22 = .ok (.isub, 1) := by decide +kernel
theorem dX7_errorOf_23 : decode cX7_errorOf 23 = .ok (.ireturn, 1) := by decide +kernel
set_option maxRecDepth 20000 in
theorem ggX7_isSettled_X7_instrumentAt : GoodIn wsX7_isSettled wsX7_instrumentAt := goodIn_ca (goodIn_r _ [6, 7, 8, 1, 9, 10, 11, 12, 13, 14, 15, 32, 33, 34, 35, 36, 37, 38, 39, 40, 41, 42, 43, 44, 45] (by decide +kernel) (by decide +kernel)) (goodIn_sub (fun _ h => List.mem_cons_of_mem _ (List.mem_append_right _ h)) (by decide +kernel))
set_option maxRecDepth 20000 in
theorem gX7_isSettled_X7_instrumentAt : GoodIn wsX7_isSettled (wsV RX7 151 RX7 yX7_instrumentAt wsX7_instrumentAt) := goodIn_app (goodIn_of _ (by decide +kernel)) ggX7_isSettled_X7_instrumentAt
set_option maxRecDepth 20000 in
theorem ggX7_isSettled_X4_settled : GoodIn wsX7_isSettled wsX4_settled := goodIn_r _ [19, 20, 21, 22, 23, 24, 25, 12, 26, 27, 28, 29, 5, 30, 31, 46, 47, 48, 49, 50, 51, 52, 53, 54, 38, 39, 40, 41, 42, 43, 44, 45] (by decide +kernel) (by decide +kernel)
set_option maxRecDepth 20000 in
theorem gX7_isSettled_X4_settled : GoodIn wsX7_isSettled (wsV RX7 190 RX4 yX4_settled wsX4_settled) := goodIn_app (goodIn_of _ (by decide +kernel)) ggX7_isSettled_X4_settled
theorem dX7_isSettled_0 : decode cX7_isSettled 0 = .ok (.aload_n 0, 1) := by decide +kernel
theorem dX7_isSettled_1 : decode cX7_isSettled 1 = .ok (.getfield 10, 3) := by decide +kernel
theorem dX7_isSettled_4 : decode cX7_isSettled 4 = .ok (.aload_n 0, 1) := by decide +kernel
theorem dX7_isSettled_5 : decode cX7_isSettled 5 = .ok (.iload_n 1, 1) := by decide +kernel
theorem dX7_isSettled_6 : decode cX7_isSettled 6 = .ok (.invokevirtual 151, 3) := by decide +kernel
theorem dX7_isSettled_9 : decode cX7_isSettled 9 = .ok (.invokevirtual 190, 3) := by decide +kernel
theorem dX7_isSettled_12 : decode cX7_isSettled 12 = .ok (.ireturn, 1) := by decide +kernel
set_option maxRecDepth 20000 in
theorem ggX7_whyUnusable_X7_instrumentAt : GoodIn wsX7_whyUnusable wsX7_instrumentAt := goodIn_ca (goodIn_r _ [5, 6, 7, 8, 9, 10, 11, 12, 13, 14, 15, 30, 31, 32, 33, 34, 35, 36, 37, 38, 39, 40, 41, 42, 43] (by decide +kernel) (by decide +kernel)) (goodIn_sub (fun _ h => List.mem_cons_of_mem _ (List.mem_append_right _ h)) (by decide +kernel))
set_option maxRecDepth 20000 in
theorem gX7_whyUnusable_X7_instrumentAt : GoodIn wsX7_whyUnusable (wsV RX7 151 RX7 yX7_instrumentAt wsX7_instrumentAt) := goodIn_app (goodIn_of _ (by decide +kernel)) ggX7_whyUnusable_X7_instrumentAt
set_option maxRecDepth 20000 in
theorem ggX7_whyUnusable_X1_flaw : GoodIn wsX7_whyUnusable wsX1_flaw := goodIn_r _ [20, 21, 22, 23, 24, 25, 26, 27, 19, 28, 29, 44, 45, 46, 47, 48, 49, 50, 51, 52] (by decide +kernel) (by decide +kernel)
set_option maxRecDepth 20000 in
theorem gX7_whyUnusable_X1_flaw : GoodIn wsX7_whyUnusable (wsV RX7 194 RX1 yX1_flaw wsX1_flaw) := goodIn_app (goodIn_of _ (by decide +kernel)) ggX7_whyUnusable_X1_flaw
theorem dX7_whyUnusable_0 : decode cX7_whyUnusable 0 = .ok (.aload_n 0, 1) := by decide +kernel
theorem dX7_whyUnusable_1 : decode cX7_whyUnusable 1 = .ok (.iload_n 1, 1) := by decide +kernel
theorem dX7_whyUnusable_2 : decode cX7_whyUnusable 2 = .ok (.invokevirtual 151, 3) := by decide +kernel
theorem dX7_whyUnusable_5 : decode cX7_whyUnusable 5 = .ok (.invokevirtual 194, 3) := by decide +kernel
theorem dX7_whyUnusable_8 : decode cX7_whyUnusable 8 = .ok (.ireturn, 1) := by decide +kernel
set_option maxRecDepth 20000 in
theorem ggX7_weightOf_X7_instrumentAt : GoodIn wsX7_weightOf wsX7_instrumentAt := goodIn_ca (goodIn_r _ [5, 6, 7, 8, 9, 10, 11, 12, 13, 14, 15, 34, 35, 36, 37, 38, 39, 40, 41, 42, 43, 44, 45, 46, 47] (by decide +kernel) (by decide +kernel)) (goodIn_sub (fun _ h => List.mem_cons_of_mem _ (List.mem_append_right _ h)) (by decide +kernel))
set_option maxRecDepth 20000 in
theorem gX7_weightOf_X7_instrumentAt : GoodIn wsX7_weightOf (wsV RX7 151 RX7 yX7_instrumentAt wsX7_instrumentAt) := goodIn_app (goodIn_of _ (by decide +kernel)) ggX7_weightOf_X7_instrumentAt
set_option maxRecDepth 20000 in
theorem ggX7_weightOf_X1_weight : GoodIn wsX7_weightOf wsX1_weight := goodIn_r _ [20, 21, 22, 23, 24, 25, 19, 26, 27, 28, 29, 30, 31, 32, 33, 48, 49, 50, 51, 52, 53, 54, 55, 56] (by decide +kernel) (by decide +kernel)
set_option maxRecDepth 20000 in
theorem gX7_weightOf_X1_weight : GoodIn wsX7_weightOf (wsV RX7 198 RX1 yX1_weight wsX1_weight) := goodIn_app (goodIn_of _ (by decide +kernel)) ggX7_weightOf_X1_weight
theorem dX7_weightOf_0 : decode cX7_weightOf 0 = .ok (.aload_n 0, 1) := by decide +kernel
theorem dX7_weightOf_1 : decode cX7_weightOf 1 = .ok (.iload_n 1, 1) := by decide +kernel
theorem dX7_weightOf_2 : decode cX7_weightOf 2 = .ok (.invokevirtual 151, 3) := by decide +kernel
theorem dX7_weightOf_5 : decode cX7_weightOf 5 = .ok (.invokevirtual 198, 3) := by decide +kernel
theorem dX7_weightOf_8 : decode cX7_weightOf 8 = .ok (.ireturn, 1) := by decide +kernel
set_option maxRecDepth 20000 in
theorem ggX7_calibrationObstacle_X7_instrumentAt : GoodIn wsX7_calibrationObstacle wsX7_instrumentAt := goodIn_ca (goodIn_r _ [6, 7, 8, 1, 9, 10, 11, 12, 13, 14, 15, 42, 43, 44, 45, 46, 47, 48, 49, 50, 51, 52, 53, 54, 55] (by decide +kernel) (by decide +kernel)) (goodIn_sub (fun _ h => List.mem_cons_of_mem _ (List.mem_append_right _ h)) (by decide +kernel))
set_option maxRecDepth 20000 in
theorem gX7_calibrationObstacle_X7_instrumentAt : GoodIn wsX7_calibrationObstacle (wsV RX7 151 RX7 yX7_instrumentAt wsX7_instrumentAt) := goodIn_app (goodIn_of _ (by decide +kernel)) ggX7_calibrationObstacle_X7_instrumentAt
set_option maxRecDepth 20000 in
theorem ggX7_calibrationObstacle_X4_obstacle : GoodIn wsX7_calibrationObstacle wsX4_obstacle := goodIn_r _ [19, 20, 21, 22, 23, 24, 25, 26, 27, 28, 12, 29, 30, 31, 32, 33, 34, 35, 36, 37, 38, 39, 5, 40, 41, 56, 57, 58, 59, 60, 61, 62, 63, 64, 48, 49, 50, 51, 52, 53, 54, 55] (by decide +kernel) (by decide +kernel)
set_option maxRecDepth 20000 in
theorem gX7_calibrationObstacle_X4_obstacle : GoodIn wsX7_calibrationObstacle (wsV RX7 201 RX4 yX4_obstacle wsX4_obstacle) := goodIn_app (goodIn_of _ (by decide +kernel)) ggX7_calibrationObstacle_X4_obstacle
theorem dX7_calibrationObstacle_0 : decode cX7_calibrationObstacle 0 = .ok (.aload_n 0, 1) := by decide +kernel
theorem dX7_calibrationObstacle_1 : decode cX7_calibrationObstacle 1 = .ok (.getfield 10, 3) := by decide +kernel
theorem dX7_calibrationObstacle_4 : decode cX7_calibrationObstacle 4 = .ok (.aload_n 0, 1) := by decide +kernel
theorem dX7_calibrationObstacle_5 : decode cX7_calibrationObstacle 5 = .ok (.iload_n 1, 1) := by decide +kernel
theorem dX7_calibrationObstacle_6 : decode cX7_calibrationObstacle 6 = .ok (.invokevirtual 151, 3) := by decide +kernel
theorem dX7_calibrationObstacle_9 : decode cX7_calibrationObstacle 9 = .ok (.invokevirtual 201, 3) := by decide +kernel
theorem dX7_calibrationObstacle_12 : decode cX7_calibrationObstacle 12 = .ok (.ireturn, 1) := by decide +kernel
set_option maxRecDepth 20000 in
theorem ggX7_usableInstruments_X4_countUsable : GoodIn wsX7_usableInstruments wsX4_countUsable := goodIn_r _ [6, 7, 8, 9, 10, 11, 12, 13, 14, 15, 16, 17, 18, 19, 20, 21, 22, 29, 30, 31, 32, 33, 34, 35, 36, 37, 38, 39, 40, 41, 42, 43, 44, 45] (by decide +kernel) (by decide +kernel)
set_option maxRecDepth 20000 in
theorem gX7_usableInstruments_X4_countUsable : GoodIn wsX7_usableInstruments (wsV RX7 204 RX4 yX4_countUsable wsX4_countUsable) := goodIn_app (goodIn_of _ (by decide +kernel)) ggX7_usableInstruments_X4_countUsable
theorem dX7_usableInstruments_0 : decode cX7_usableInstruments 0 = .ok (.aload_n 0, 1) := by decide +kernel
theorem dX7_usableInstruments_1 : decode cX7_usableInstruments 1 = .ok (.getfield 10, 3) := by decide +kernel
theorem dX7_usableInstruments_4 : decode cX7_usableInstruments 4 = .ok (.invokevirtual 204, 3) := by decide +kernel
theorem dX7_usableInstruments_7 : decode cX7_usableInstruments 7 = .ok (.ireturn, 1) := by decide +kernel
set_option maxRecDepth 20000 in
theorem ggX7_blend_X4_blended : GoodIn wsX7_blend wsX4_blended := goodIn_r _ [6, 7, 8, 9, 10, 11, 12, 13, 14, 15, 16, 17, 18, 19, 20, 21, 22, 23, 24, 25, 26, 27, 28, 29, 5, 30, 31, 32, 33, 34, 35, 36, 37, 38, 39, 40, 41, 42, 43, 44, 45, 46, 47, 48, 49, 50, 51, 52, 53, 54, 55, 56, 57, 58, 59, 60, 61, 62, 63, 70, 71, 72, 73, 74, 75, 76, 77, 78, 79, 80, 81, 82, 83, 84, 85, 86] (by decide +kernel) (by decide +kernel)
set_option maxRecDepth 20000 in
theorem gX7_blend_X4_blended : GoodIn wsX7_blend (wsV RX7 207 RX4 yX4_blended wsX4_blended) := goodIn_app (goodIn_of _ (by decide +kernel)) ggX7_blend_X4_blended
theorem dX7_blend_0 : decode cX7_blend 0 = .ok (.aload_n 0, 1) := by decide +kernel
theorem dX7_blend_1 : decode cX7_blend 1 = .ok (.getfield 10, 3) := by decide +kernel
theorem dX7_blend_4 : decode cX7_blend 4 = .ok (.invokevirtual 207, 3) := by decide +kernel
theorem dX7_blend_7 : decode cX7_blend 7 = .ok (.ireturn, 1) := by decide +kernel
set_option maxRecDepth 20000 in
theorem ggX7_bestInstrument_X4_nearest : GoodIn wsX7_bestInstrument wsX4_nearest := goodIn_r _ [6, 7, 8, 9, 10, 11, 12, 13, 14, 15, 16, 5, 17, 18, 19, 20, 21, 22, 23, 24, 25, 26, 27, 28, 29, 30, 31, 32, 33, 34, 35, 36, 37, 38, 39, 40, 41, 42, 43, 44, 45, 46, 47, 48, 49, 50, 51, 52, 53, 54, 55, 56, 57, 58, 59, 60, 61, 62, 69, 70, 71, 72, 73, 74, 75, 76, 77, 78, 79, 80, 81, 82, 83, 84, 85] (by decide +kernel) (by decide +kernel)
set_option maxRecDepth 20000 in
theorem gX7_bestInstrument_X4_nearest : GoodIn wsX7_bestInstrument (wsV RX7 210 RX4 yX4_nearest wsX4_nearest) := goodIn_app (goodIn_of _ (by decide +kernel)) ggX7_bestInstrument_X4_nearest
theorem dX7_bestInstrument_0 : decode cX7_bestInstrument 0 = .ok (.aload_n 0, 1) := by decide +kernel
theorem dX7_bestInstrument_1 : decode cX7_bestInstrument 1 = .ok (.getfield 10, 3) := by decide +kernel
theorem dX7_bestInstrument_4 : decode cX7_bestInstrument 4 = .ok (.invokevirtual 210, 3) := by decide +kernel
theorem dX7_bestInstrument_7 : decode cX7_bestInstrument 7 = .ok (.ireturn, 1) := by decide +kernel
set_option maxRecDepth 20000 in
theorem ggX7_slackestInstrument_X4_slackest : GoodIn wsX7_slackestInstrument wsX4_slackest := goodIn_r _ [6, 7, 8, 9, 10, 17, 18, 19, 20, 21, 22, 23, 24, 25, 26, 27, 28, 29, 30, 31, 32, 33] (by decide +kernel) (by decide +kernel)
set_option maxRecDepth 20000 in
theorem gX7_slackestInstrument_X4_slackest : GoodIn wsX7_slackestInstrument (wsV RX7 213 RX4 yX4_slackest wsX4_slackest) := goodIn_app (goodIn_of _ (by decide +kernel)) ggX7_slackestInstrument_X4_slackest
theorem dX7_slackestInstrument_0 : decode cX7_slackestInstrument 0 = .ok (.aload_n 0, 1) := by decide +kernel
theorem dX7_slackestInstrument_1 : decode cX7_slackestInstrument 1 = .ok (.getfield 10, 3) := by decide +kernel
theorem dX7_slackestInstrument_4 : decode cX7_slackestInstrument 4 = .ok (.invokevirtual 213, 3) := by decide +kernel
theorem dX7_slackestInstrument_7 : decode cX7_slackestInstrument 7 = .ok (.ireturn, 1) := by decide +kernel
set_option maxRecDepth 20000 in
theorem ggX7_disagreements_X4_countDisagreeing : GoodIn wsX7_disagreements wsX4_countDisagreeing := goodIn_r _ [6, 7, 8, 9, 10, 11, 12, 13, 14, 15, 16, 17, 5, 18, 19, 20, 21, 22, 23, 24, 25, 26, 27, 28, 29, 30, 31, 32, 33, 34, 35, 36, 37, 38, 39, 40, 41, 42, 43, 44, 45, 46, 47, 48, 49, 50, 51, 52, 53, 54, 55, 62, 63, 64, 65, 66, 67, 68, 69, 70, 71, 72, 73, 74, 75, 76, 77, 78] (by decide +kernel) (by decide +kernel)
set_option maxRecDepth 20000 in
theorem gX7_disagreements_X4_countDisagreeing : GoodIn wsX7_disagreements (wsV RX7 216 RX4 yX4_countDisagreeing wsX4_countDisagreeing) := goodIn_app (goodIn_of _ (by decide +kernel)) ggX7_disagreements_X4_countDisagreeing
theorem dX7_disagreements_0 : decode cX7_disagreements 0 = .ok (.aload_n 0, 1) := by decide +kernel
theorem dX7_disagreements_1 : decode cX7_disagreements 1 = .ok (.getfield 10, 3) := by decide +kernel
theorem dX7_disagreements_4 : decode cX7_disagreements 4 = .ok (.invokevirtual 216, 3) := by decide +kernel
theorem dX7_disagreements_7 : decode cX7_disagreements 7 = .ok (.ireturn, 1) := by decide +kernel
set_option maxRecDepth 20000 in
theorem ggX7_spread_X4_readingSpan : GoodIn wsX7_spread wsX4_readingSpan := goodIn_r _ [6, 7, 8, 9, 10, 11, 12, 13, 14, 15, 16, 17, 18, 19, 20, 21, 22, 23, 24, 25, 26, 27, 28, 29, 30, 31, 32, 5, 33, 34, 35, 36, 37, 38, 39, 40, 41, 42, 43, 44, 45, 46, 47, 48, 49, 50, 51, 52, 53, 54, 55, 56, 57, 58, 59, 66, 67, 68, 69, 70, 71, 72, 73, 74, 75, 76, 77, 78, 79, 80, 81, 82] (by decide +kernel) (by decide +kernel)
set_option maxRecDepth 20000 in
theorem gX7_spread_X4_readingSpan : GoodIn wsX7_spread (wsV RX7 219 RX4 yX4_readingSpan wsX4_readingSpan) := goodIn_app (goodIn_of _ (by decide +kernel)) ggX7_spread_X4_readingSpan
theorem dX7_spread_0 : decode cX7_spread 0 = .ok (.aload_n 0, 1) := by decide +kernel
theorem dX7_spread_1 : decode cX7_spread 1 = .ok (.getfield 10, 3) := by decide +kernel
theorem dX7_spread_4 : decode cX7_spread 4 = .ok (.invokevirtual 219, 3) := by decide +kernel
theorem dX7_spread_7 : decode cX7_spread 7 = .ok (.ireturn, 1) := by decide +kernel
set_option maxRecDepth 20000 in
theorem ggX7_readingAfter_X7_instrumentAt : GoodIn wsX7_readingAfter wsX7_instrumentAt := goodIn_ca (goodIn_r _ [10, 11, 12, 4, 13, 14, 15, 16, 17, 18, 19, 81, 82, 83, 84, 85, 86, 87, 88, 89, 90, 91, 92, 93, 94] (by decide +kernel) (by decide +kernel)) (goodIn_sub (fun _ h => List.mem_cons_of_mem _ (List.mem_append_right _ h)) (by decide +kernel))
set_option maxRecDepth 20000 in
theorem gX7_readingAfter_X7_instrumentAt : GoodIn wsX7_readingAfter (wsV RX7 151 RX7 yX7_instrumentAt wsX7_instrumentAt) := goodIn_app (goodIn_of _ (by decide +kernel)) ggX7_readingAfter_X7_instrumentAt
set_option maxRecDepth 20000 in
theorem ggX7_readingAfter_X1_copyFrom : GoodIn wsX7_readingAfter wsX1_copyFrom := goodIn_r _ [24, 25, 26, 27, 28, 29, 30, 31, 32, 33, 95, 96, 97, 98, 99, 100, 101, 102, 103] (by decide +kernel) (by decide +kernel)
set_option maxRecDepth 20000 in
theorem gX7_readingAfter_X1_copyFrom : GoodIn wsX7_readingAfter (wsV RX7 222 RX1 yX1_copyFrom wsX1_copyFrom) := goodIn_app (goodIn_of _ (by decide +kernel)) ggX7_readingAfter_X1_copyFrom
set_option maxRecDepth 20000 in
theorem ggX7_readingAfter_X4_surrounding : GoodIn wsX7_readingAfter wsX4_surrounding := goodIn_r _ [37, 38, 39, 40, 9, 41, 42, 95, 96, 97, 98, 99, 100, 101, 102, 103, 87, 88, 89, 90, 91, 92, 93, 94] (by decide +kernel) (by decide +kernel)
set_option maxRecDepth 20000 in
theorem gX7_readingAfter_X4_surrounding : GoodIn wsX7_readingAfter (wsV RX7 181 RX4 yX4_surrounding wsX4_surrounding) := goodIn_app (goodIn_of _ (by decide +kernel)) ggX7_readingAfter_X4_surrounding
set_option maxRecDepth 20000 in
theorem ggX7_readingAfter_X1_age : GoodIn wsX7_readingAfter wsX1_age := goodIn_r _ [46, 25, 31, 47, 48, 49, 50, 26, 30, 51, 52, 53, 54, 9, 55, 56, 57, 58, 23, 59, 29, 95, 96, 97, 98, 99, 100, 101, 102, 103] (by decide +kernel) (by decide +kernel)
set_option maxRecDepth 20000 in
theorem gX7_readingAfter_X1_age : GoodIn wsX7_readingAfter (wsV RX7 227 RX1 yX1_age wsX1_age) := goodIn_app (goodIn_of _ (by decide +kernel)) ggX7_readingAfter_X1_age
set_option maxRecDepth 20000 in
theorem ggX7_readingAfter_X4_reading : GoodIn wsX7_readingAfter wsX4_reading := goodIn_r _ [63, 64, 65, 52, 49, 53, 66, 48, 50, 67, 68, 69, 16, 70, 71, 72, 73, 74, 75, 76, 77, 78, 79, 80, 35, 36, 37, 38, 39, 40, 9, 41, 42, 54, 55, 95, 96, 97, 98, 99, 100, 101, 102, 103, 87, 88, 89, 90, 91, 92, 93, 94] (by decide +kernel) (by decide +kernel)
set_option maxRecDepth 20000 in
theorem gX7_readingAfter_X4_reading : GoodIn wsX7_readingAfter (wsV RX7 187 RX4 yX4_reading wsX4_reading) := goodIn_app (goodIn_of _ (by decide +kernel)) ggX7_readingAfter_X4_reading
theorem dX7_readingAfter_0 : decode cX7_readingAfter 0 = .ok (.aload_n 0, 1) := by decide +kernel
theorem dX7_readingAfter_1 : decode cX7_readingAfter 1 = .ok (.getfield 47, 3) := by decide +kernel
theorem dX7_readingAfter_4 : decode cX7_readingAfter 4 = .ok (.aload_n 0, 1) := by decide +kernel
theorem dX7_readingAfter_5 : decode cX7_readingAfter 5 = .ok (.iload_n 1, 1) := by decide +kernel
theorem dX7_readingAfter_6 : decode cX7_readingAfter 6 = .ok (.invokevirtual 151, 3) := by decide +kernel
theorem dX7_readingAfter_9 : decode cX7_readingAfter 9 = .ok (.invokevirtual 222, 3) := by decide +kernel
theorem dX7_readingAfter_12 : decode cX7_readingAfter 12 = .ok (.iload_n 2, 1) := by decide +kernel
theorem dX7_readingAfter_13 : decode cX7_readingAfter 13 = .ok (.ifCond .lt 10, 3) := by decide +kernel
theorem dX7_readingAfter_16 : decode cX7_readingAfter 16 = .ok (.iload_n 2, 1) := by decide +kernel
theorem dX7_readingAfter_17 : decode cX7_readingAfter 17 = .ok (.sipush 200, 3) := by decide +kernel
theorem dX7_readingAfter_20 : decode cX7_readingAfter 20 = .ok (.if_icmp .le 13, 3) := by decide +kernel
theorem dX7_readingAfter_23 : decode cX7_readingAfter 23 = .ok (.new 107, 3) := by decide +kernel
theorem dX7_readingAfter_26 : decode cX7_readingAfter 26 = .ok (.dup, 1) := by decide +kernel
theorem dX7_readingAfter_27 : decode cX7_readingAfter 27 = .ok (.ldc 225, 2) := by decide +kernel
theorem dX7_readingAfter_29 : decode cX7_readingAfter 29 = .ok (.invokespecial 111, 3) := by decide +kernel
theorem dX7_readingAfter_32 : decode cX7_readingAfter 32 = .ok (.athrow, 1) := by decide +kernel
theorem dX7_readingAfter_33 : decode cX7_readingAfter 33 = .ok (.iconst 1, 1) := by decide +kernel
theorem dX7_readingAfter_34 : decode cX7_readingAfter 34 = .ok (.istore_n 3, 1) := by decide +kernel
theorem dX7_readingAfter_35 : decode cX7_readingAfter 35 = .ok (.iload_n 3, 1) := by decide +kernel
theorem dX7_readingAfter_36 : decode cX7_readingAfter 36 = .ok (.iload_n 2, 1) := by decide +kernel
theorem dX7_readingAfter_37 : decode cX7_readingAfter 37 = .ok (.if_icmp .gt 36, 3) := by decide +kernel
theorem dX7_readingAfter_40 : decode cX7_readingAfter 40 = .ok (.aload_n 0, 1) := by decide +kernel
theorem dX7_readingAfter_41 : decode cX7_readingAfter 41 = .ok (.getfield 47, 3) := by decide +kernel
theorem dX7_readingAfter_44 : decode cX7_readingAfter 44 = .ok (.aload_n 0, 1) := by decide +kernel
theorem dX7_readingAfter_45 : decode cX7_readingAfter 45 = .ok (.getfield 10, 3) := by decide +kernel
theorem dX7_readingAfter_48 : decode cX7_readingAfter 48 = .ok (.getfield 129, 3) := by decide +kernel
theorem dX7_readingAfter_51 : decode cX7_readingAfter 51 = .ok (.iload_n 3, 1) := by decide +kernel
theorem dX7_readingAfter_52 : decode cX7_readingAfter 52 = .ok (.iadd, 1) := by decide +kernel
theorem dX7_readingAfter_53 : decode cX7_readingAfter 53 = .ok (.aload_n 0, 1) := by decide +kernel
theorem dX7_readingAfter_54 : decode cX7_readingAfter 54 = .ok (.getfield 10, 3) := by decide +kernel
theorem dX7_readingAfter_57 : decode cX7_readingAfter 57 = .ok (.aload_n 0, 1) := by decide +kernel
theorem dX7_readingAfter_58 : decode cX7_readingAfter 58 = .ok (.getfield 47, 3) := by decide +kernel
theorem dX7_readingAfter_61 : decode cX7_readingAfter 61 = .ok (.invokevirtual 181, 3) := by decide +kernel
theorem dX7_readingAfter_64 : decode cX7_readingAfter 64 = .ok (.invokevirtual 227, 3) := by decide +kernel
theorem dX7_readingAfter_67 : decode cX7_readingAfter 67 = .ok (.iinc 3 1, 3) := by decide +kernel
theorem dX7_readingAfter_70 : decode cX7_readingAfter 70 = .ok (.goto (-35), 3) := by decide +kernel
theorem dX7_readingAfter_73 : decode cX7_readingAfter 73 = .ok (.aload_n 0, 1) := by decide +kernel
theorem dX7_readingAfter_74 : decode cX7_readingAfter 74 = .ok (.getfield 10, 3) := by decide +kernel
theorem dX7_readingAfter_77 : decode cX7_readingAfter 77 = .ok (.aload_n 0, 1) := by decide +kernel
theorem dX7_readingAfter_78 : decode cX7_readingAfter 78 = .ok (.getfield 47, 3) := by decide +kernel
theorem dX7_readingAfter_81 : decode cX7_readingAfter 81 = .ok (.invokevirtual 187, 3) := by decide +kernel
theorem dX7_readingAfter_84 : decode cX7_readingAfter 84 = .ok (.ireturn, 1) := by decide +kernel
set_option maxRecDepth 20000 in
theorem ggX7_minutesUntilStill_X7_instrumentAt : GoodIn wsX7_minutesUntilStill wsX7_instrumentAt := goodIn_ca (goodIn_r _ [8, 9, 10, 2, 11, 12, 13, 14, 15, 16, 17, 70, 71, 72, 73, 74, 75, 76, 77, 78, 79, 80, 81, 82, 83] (by decide +kernel) (by decide +kernel)) (goodIn_sub (fun _ h => List.mem_cons_of_mem _ (List.mem_append_right _ h)) (by decide +kernel))
set_option maxRecDepth 20000 in
theorem gX7_minutesUntilStill_X7_instrumentAt : GoodIn wsX7_minutesUntilStill (wsV RX7 151 RX7 yX7_instrumentAt wsX7_instrumentAt) := goodIn_app (goodIn_of _ (by decide +kernel)) ggX7_minutesUntilStill_X7_instrumentAt
set_option maxRecDepth 20000 in
theorem ggX7_minutesUntilStill_X1_copyFrom : GoodIn wsX7_minutesUntilStill wsX1_copyFrom := goodIn_r _ [22, 23, 24, 25, 26, 27, 28, 29, 30, 31, 84, 85, 86, 87, 88, 89, 90, 91, 92] (by decide +kernel) (by decide +kernel)
set_option maxRecDepth 20000 in
theorem gX7_minutesUntilStill_X1_copyFrom : GoodIn wsX7_minutesUntilStill (wsV RX7 222 RX1 yX1_copyFrom wsX1_copyFrom) := goodIn_app (goodIn_of _ (by decide +kernel)) ggX7_minutesUntilStill_X1_copyFrom
set_option maxRecDepth 20000 in
theorem ggX7_minutesUntilStill_X4_still : GoodIn wsX7_minutesUntilStill wsX4_still := goodIn_r _ [35, 36, 37, 38, 39, 14, 40, 41, 42, 43, 44, 45, 46, 47, 48, 49, 7, 50, 51, 84, 85, 86, 87, 88, 89, 90, 91, 92, 76, 77, 78, 79, 80, 81, 82, 83] (by decide +kernel) (by decide +kernel)
set_option maxRecDepth 20000 in
theorem gX7_minutesUntilStill_X4_still : GoodIn wsX7_minutesUntilStill (wsV RX7 231 RX4 yX4_still wsX4_still) := goodIn_app (goodIn_of _ (by decide +kernel)) ggX7_minutesUntilStill_X4_still
set_option maxRecDepth 20000 in
theorem ggX7_minutesUntilStill_X4_surrounding : GoodIn wsX7_minutesUntilStill wsX4_surrounding := goodIn_r _ [46, 47, 48, 49, 7, 50, 51, 84, 85, 86, 87, 88, 89, 90, 91, 92, 76, 77, 78, 79, 80, 81, 82, 83] (by decide +kernel) (by decide +kernel)
set_option maxRecDepth 20000 in
theorem gX7_minutesUntilStill_X4_surrounding : GoodIn wsX7_minutesUntilStill (wsV RX7 181 RX4 yX4_surrounding wsX4_surrounding) := goodIn_app (goodIn_of _ (by decide +kernel)) ggX7_minutesUntilStill_X4_surrounding
set_option maxRecDepth 20000 in
theorem ggX7_minutesUntilStill_X1_age : GoodIn wsX7_minutesUntilStill wsX1_age := goodIn_r _ [56, 23, 29, 57, 58, 59, 60, 24, 28, 61, 62, 63, 64, 7, 65, 66, 67, 68, 21, 69, 27, 84, 85, 86, 87, 88, 89, 90, 91, 92] (by decide +kernel) (by decide +kernel)
set_option maxRecDepth 20000 in
theorem gX7_minutesUntilStill_X1_age : GoodIn wsX7_minutesUntilStill (wsV RX7 227 RX1 yX1_age wsX1_age) := goodIn_app (goodIn_of _ (by decide +kernel)) ggX7_minutesUntilStill_X1_age
theorem dX7_minutesUntilStill_0 : decode cX7_minutesUntilStill 0 = .ok (.aload_n 0, 1) := by decide +kernel
theorem dX7_minutesUntilStill_1 : decode cX7_minutesUntilStill 1 = .ok (.getfield 47, 3) := by decide +kernel
theorem dX7_minutesUntilStill_4 : decode cX7_minutesUntilStill 4 = .ok (.aload_n 0, 1) := by decide +kernel
theorem dX7_minutesUntilStill_5 : decode cX7_minutesUntilStill 5 = .ok (.iload_n 1, 1) := by decide +kernel
theorem dX7_minutesUntilStill_6 : decode cX7_minutesUntilStill 6 = .ok (.invokevirtual 151, 3) := by decide +kernel
theorem dX7_minutesUntilStill_9 : decode cX7_minutesUntilStill 9 = .ok (.invokevirtual 222, 3) := by decide +kernel
theorem dX7_minutesUntilStill_12 : decode cX7_minutesUntilStill 12 = .ok (.iconst 0, 1) := by decide +kernel
theorem dX7_minutesUntilStill_13 : decode cX7_minutesUntilStill 13 = .ok (.istore_n 2, 1) := by decide +kernel
theorem dX7_minutesUntilStill_14 : decode cX7_minutesUntilStill 14 = .ok (.iload_n 2, 1) := by decide +kernel
theorem dX7_minutesUntilStill_15 : decode cX7_minutesUntilStill 15 = .ok (.sipush 200, 3) := by decide +kernel
theorem dX7_minutesUntilStill_18 : decode cX7_minutesUntilStill 18 = .ok (.if_icmp .gt 54, 3) := by decide +kernel
theorem dX7_minutesUntilStill_21 : decode cX7_minutesUntilStill 21 = .ok (.aload_n 0, 1) := by decide +kernel
theorem dX7_minutesUntilStill_22 : decode cX7_minutesUntilStill 22 = .ok (.getfield 10, 3) := by decide +kernel
theorem dX7_minutesUntilStill_25 : decode cX7_minutesUntilStill 25 = .ok (.aload_n 0, 1) := by decide +kernel
theorem dX7_minutesUntilStill_26 : decode cX7_minutesUntilStill 26 = .ok (.getfield 47, 3) := by decide +kernel
theorem dX7_minutesUntilStill_29 : decode cX7_minutesUntilStill 29 = .ok (.invokevirtual 231, 3) := by decide +kernel
theorem dX7_minutesUntilStill_32 : decode cX7_minutesUntilStill 32 = .ok (.ifCond .eq 5, 3) := by decide +kernel
theorem dX7_minutesUntilStill_35 : decode cX7_minutesUntilStill 35 = .ok (.iload_n 2, 1) := by decide +kernel
theorem dX7_minutesUntilStill_36 : decode cX7_minutesUntilStill 36 = .ok (.ireturn, 1) := by decide +kernel
theorem dX7_minutesUntilStill_37 : decode cX7_minutesUntilStill 37 = .ok (.aload_n 0, 1) := by decide +kernel
theorem dX7_minutesUntilStill_38 : decode cX7_minutesUntilStill 38 = .ok (.getfield 47, 3) := by decide +kernel
theorem dX7_minutesUntilStill_41 : decode cX7_minutesUntilStill 41 = .ok (.aload_n 0, 1) := by decide +kernel
theorem dX7_minutesUntilStill_42 : decode cX7_minutesUntilStill 42 = .ok (.getfield 10, 3) := by decide +kernel
theorem dX7_minutesUntilStill_45 : decode cX7_minutesUntilStill 45 = .ok (.getfield 129, 3) := by decide +kernel
theorem dX7_minutesUntilStill_48 : decode cX7_minutesUntilStill 48 = .ok (.iload_n 2, 1) := by decide +kernel
theorem dX7_minutesUntilStill_49 : decode cX7_minutesUntilStill 49 = .ok (.iadd, 1) := by decide +kernel
theorem dX7_minutesUntilStill_50 : decode cX7_minutesUntilStill 50 = .ok (.iconst 1, 1) := by decide +kernel
theorem dX7_minutesUntilStill_51 : decode cX7_minutesUntilStill 51 = .ok (.iadd, 1) := by decide +kernel
theorem dX7_minutesUntilStill_52 : decode cX7_minutesUntilStill 52 = .ok (.aload_n 0, 1) := by decide +kernel
theorem dX7_minutesUntilStill_53 : decode cX7_minutesUntilStill 53 = .ok (.getfield 10, 3) := by decide +kernel
theorem dX7_minutesUntilStill_56 : decode cX7_minutesUntilStill 56 = .ok (.aload_n 0, 1) := by decide +kernel
theorem dX7_minutesUntilStill_57 : decode cX7_minutesUntilStill 57 = .ok (.getfield 47, 3) := by decide +kernel
theorem dX7_minutesUntilStill_60 : decode cX7_minutesUntilStill 60 = .ok (.invokevirtual 181, 3) := by decide +kernel
theorem dX7_minutesUntilStill_63 : decode cX7_minutesUntilStill 63 = .ok (.invokevirtual 227, 3) := by decide +kernel
theorem dX7_minutesUntilStill_66 : decode cX7_minutesUntilStill 66 = .ok (.iinc 2 1, 3) := by decide +kernel
theorem dX7_minutesUntilStill_69 : decode cX7_minutesUntilStill 69 = .ok (.goto (-55), 3) := by decide +kernel
theorem dX7_minutesUntilStill_72 : decode cX7_minutesUntilStill 72 = .ok (.iconst (-1), 1) := by decide +kernel
theorem dX7_minutesUntilStill_73 : decode cX7_minutesUntilStill 73 = .ok (.ireturn, 1) := by decide +kernel
set_option maxRecDepth 20000 in
theorem ggX7_hairDifference_X4_hairsHere : GoodIn wsX7_hairDifference wsX4_hairsHere := goodIn_r _ [10, 11, 12, 13, 14, 15, 28, 29, 30, 31, 32, 33, 34, 35, 36, 37, 38, 39, 40, 41, 42, 43, 44] (by decide +kernel) (by decide +kernel)
set_option maxRecDepth 20000 in
theorem gX7_hairDifference_X4_hairsHere : GoodIn wsX7_hairDifference (wsV RX7 234 RX4 yX4_hairsHere wsX4_hairsHere) := goodIn_app (goodIn_of _ (by decide +kernel)) ggX7_hairDifference_X4_hairsHere
set_option maxRecDepth 20000 in
theorem ggX7_hairDifference_X4_hairsThatCame : GoodIn wsX7_hairDifference wsX4_hairsThatCame := goodIn_r _ [19, 20, 12, 13, 21, 28, 29, 30, 31, 32, 33, 34, 35, 36, 37, 38, 39, 40, 41, 42, 43, 44] (by decide +kernel) (by decide +kernel)
set_option maxRecDepth 20000 in
theorem gX7_hairDifference_X4_hairsThatCame : GoodIn wsX7_hairDifference (wsV RX7 237 RX4 yX4_hairsThatCame wsX4_hairsThatCame) := goodIn_app (goodIn_of _ (by decide +kernel)) ggX7_hairDifference_X4_hairsThatCame
theorem dX7_hairDifference_0 : decode cX7_hairDifference 0 = .ok (.aload_n 0, 1) := by decide +kernel
theorem dX7_hairDifference_1 : decode cX7_hairDifference 1 = .ok (.getfield 10, 3) := by decide +kernel
theorem dX7_hairDifference_4 : decode cX7_hairDifference 4 = .ok (.invokevirtual 234, 3) := by decide +kernel
theorem dX7_hairDifference_7 : decode cX7_hairDifference 7 = .ok (.aload_n 0, 1) := by decide +kernel
theorem dX7_hairDifference_8 : decode cX7_hairDifference 8 = .ok (.getfield 10, 3) := by decide +kernel
theorem dX7_hairDifference_11 : decode cX7_hairDifference 11 = .ok (.invokevirtual 237, 3) := by decide +kernel
theorem dX7_hairDifference_14 : decode cX7_hairDifference 14 = .ok (.isub, 1) := by decide +kernel
theorem dX7_hairDifference_15 : decode cX7_hairDifference 15 = .ok (.invokestatic 240, 3) := by decide +kernel
theorem dX7_hairDifference_18 : decode cX7_hairDifference 18 = .ok (.ireturn, 1) := by decide +kernel
set_option maxRecDepth 20000 in
theorem ggX7_meanReading_X4_sumOfReadings : GoodIn wsX7_meanReading wsX4_sumOfReadings := goodIn_r _ [7, 8, 9, 10, 11, 12, 6, 13, 14, 15, 16, 17, 18, 19, 20, 21, 22, 23, 24, 25, 26, 27, 28, 29, 30, 31, 32, 33, 34, 35, 36, 37, 38, 39, 40, 41, 42, 43, 44, 45, 46, 53, 54, 55, 56, 57, 58, 59, 60, 61, 62, 63, 64, 65, 66, 67, 68, 69] (by decide +kernel) (by decide +kernel)
set_option maxRecDepth 20000 in
theorem gX7_meanReading_X4_sumOfReadings : GoodIn wsX7_meanReading (wsV RX7 245 RX4 yX4_sumOfReadings wsX4_sumOfReadings) := goodIn_app (goodIn_of _ (by decide +kernel)) ggX7_meanReading_X4_sumOfReadings
theorem dX7_meanReading_0 : decode cX7_meanReading 0 = .ok (.aload_n 0, 1) := by decide +kernel
theorem dX7_meanReading_1 : decode cX7_meanReading 1 = .ok (.getfield 10, 3) := by decide +kernel
theorem dX7_meanReading_4 : decode cX7_meanReading 4 = .ok (.getfield 123, 3) := by decide +kernel
theorem dX7_meanReading_7 : decode cX7_meanReading 7 = .ok (.ifCond .ne 5, 3) := by decide +kernel
theorem dX7_meanReading_10 : decode cX7_meanReading 10 = .ok (.dconst 0, 1) := by decide +kernel
theorem dX7_meanReading_11 : decode cX7_meanReading 11 = .ok (.dreturn, 1) := by decide +kernel
theorem dX7_meanReading_12 : decode cX7_meanReading 12 = .ok (.aload_n 0, 1) := by decide +kernel
theorem dX7_meanReading_13 : decode cX7_meanReading 13 = .ok (.getfield 10, 3) := by decide +kernel
theorem dX7_meanReading_16 : decode cX7_meanReading 16 = .ok (.invokevirtual 245, 3) := by decide +kernel
theorem dX7_meanReading_19 : decode cX7_meanReading 19 = .ok (.i2d, 1) := by decide +kernel
theorem dX7_meanReading_20 : decode cX7_meanReading 20 = .ok (.aload_n 0, 1) := by decide +kernel
theorem dX7_meanReading_21 : decode cX7_meanReading 21 = .ok (.getfield 10, 3) := by decide +kernel
theorem dX7_meanReading_24 : decode cX7_meanReading 24 = .ok (.getfield 123, 3) := by decide +kernel
theorem dX7_meanReading_27 : decode cX7_meanReading 27 = .ok (.i2d, 1) := by decide +kernel
theorem dX7_meanReading_28 : decode cX7_meanReading 28 = .ok (.ddiv, 1) := by decide +kernel
theorem dX7_meanReading_29 : decode cX7_meanReading 29 = .ok (.dreturn, 1) := by decide +kernel
set_option maxRecDepth 20000 in
theorem ggX7_usableShare_X4_countUsable : GoodIn wsX7_usableShare wsX4_countUsable := goodIn_r _ [7, 8, 9, 10, 11, 12, 13, 14, 15, 16, 17, 18, 19, 20, 21, 22, 23, 30, 31, 32, 33, 34, 35, 36, 37, 38, 39, 40, 41, 42, 43, 44, 45, 46] (by decide +kernel) (by decide +kernel)
set_option maxRecDepth 20000 in
theorem gX7_usableShare_X4_countUsable : GoodIn wsX7_usableShare (wsV RX7 204 RX4 yX4_countUsable wsX4_countUsable) := goodIn_app (goodIn_of _ (by decide +kernel)) ggX7_usableShare_X4_countUsable
theorem dX7_usableShare_0 : decode cX7_usableShare 0 = .ok (.aload_n 0, 1) := by decide +kernel
theorem dX7_usableShare_1 : decode cX7_usableShare 1 = .ok (.getfield 10, 3) := by decide +kernel
theorem dX7_usableShare_4 : decode cX7_usableShare 4 = .ok (.getfield 123, 3) := by decide +kernel
theorem dX7_usableShare_7 : decode cX7_usableShare 7 = .ok (.ifCond .ne 5, 3) := by decide +kernel
theorem dX7_usableShare_10 : decode cX7_usableShare 10 = .ok (.fconst 0, 1) := by decide +kernel
theorem dX7_usableShare_11 : decode cX7_usableShare 11 = .ok (.freturn, 1) := by decide +kernel
theorem dX7_usableShare_12 : decode cX7_usableShare 12 = .ok (.aload_n 0, 1) := by decide +kernel
theorem dX7_usableShare_13 : decode cX7_usableShare 13 = .ok (.getfield 10, 3) := by decide +kernel
theorem dX7_usableShare_16 : decode cX7_usableShare 16 = .ok (.invokevirtual 204, 3) := by decide +kernel
theorem dX7_usableShare_19 : decode cX7_usableShare 19 = .ok (.i2f, 1) := by decide +kernel
theorem dX7_usableShare_20 : decode cX7_usableShare 20 = .ok (.aload_n 0, 1) := by decide +kernel
theorem dX7_usableShare_21 : decode cX7_usableShare 21 = .ok (.getfield 10, 3) := by decide +kernel
theorem dX7_usableShare_24 : decode cX7_usableShare 24 = .ok (.getfield 123, 3) := by decide +kernel
theorem dX7_usableShare_27 : decode cX7_usableShare 27 = .ok (.i2f, 1) := by decide +kernel
theorem dX7_usableShare_28 : decode cX7_usableShare 28 = .ok (.fdiv, 1) := by decide +kernel
theorem dX7_usableShare_29 : decode cX7_usableShare 29 = .ok (.freturn, 1) := by decide +kernel
set_option maxRecDepth 20000 in
theorem ggX7_advance_X0_record : GoodIn wsX7_advance wsX0_record := goodIn_r _ [12, 13, 14, 15, 16, 17, 18, 19, 20, 21, 22, 23, 24, 25, 26, 27, 28, 29, 30, 31, 32, 33, 34, 35, 36, 37, 38, 39, 40, 41, 42, 43, 44, 45, 46, 93, 94, 95, 85, 86, 87, 88, 89, 90, 91, 92, 96, 97, 98, 99, 100, 101, 102, 103, 104] (by decide +kernel) (by decide +kernel)
set_option maxRecDepth 20000 in
theorem gX7_advance_X0_record : GoodIn wsX7_advance (wsV RX7 250 RX0 yX0_record wsX0_record) := goodIn_app (goodIn_of _ (by decide +kernel)) ggX7_advance_X0_record
set_option maxRecDepth 20000 in
theorem ggX7_advance_X4_pass : GoodIn wsX7_advance wsX4_pass := goodIn_r _ [50, 31, 26, 25, 32, 51, 52, 53, 23, 54, 55, 27, 56, 57, 58, 59, 60, 61, 62, 36, 63, 38, 44, 64, 65, 18, 66, 39, 43, 67, 17, 19, 68, 69, 70, 71, 72, 73, 42, 74, 75, 76, 77, 29, 30, 78, 85, 86, 87, 88, 89, 90, 91, 92, 96, 97, 98, 99, 100, 101, 102, 103, 104] (by decide +kernel) (by decide +kernel)
set_option maxRecDepth 20000 in
theorem gX7_advance_X4_pass : GoodIn wsX7_advance (wsV RX7 66 RX4 yX4_pass wsX4_pass) := goodIn_app (goodIn_of _ (by decide +kernel)) ggX7_advance_X4_pass
theorem dX7_advance_0 : decode cX7_advance 0 = .ok (.iload_n 1, 1) := by decide +kernel
theorem dX7_advance_1 : decode cX7_advance 1 = .ok (.iconst 1, 1) := by decide +kernel
theorem dX7_advance_2 : decode cX7_advance 2 = .ok (.if_icmp .lt 9, 3) := by decide +kernel
theorem dX7_advance_5 : decode cX7_advance 5 = .ok (.iload_n 1, 1) := by decide +kernel
theorem dX7_advance_6 : decode cX7_advance 6 = .ok (.bipush 99, 2) := by decide +kernel
theorem dX7_advance_8 : decode cX7_advance 8 = .ok (.if_icmp .le 13, 3) := by decide +kernel
theorem dX7_advance_11 : decode cX7_advance 11 = .ok (.new 107, 3) := by decide +kernel
theorem dX7_advance_14 : decode cX7_advance 14 = .ok (.dup, 1) := by decide +kernel
theorem dX7_advance_15 : decode cX7_advance 15 = .ok (.ldc 225, 2) := by decide +kernel
theorem dX7_advance_17 : decode cX7_advance 17 = .ok (.invokespecial 111, 3) := by decide +kernel
theorem dX7_advance_20 : decode cX7_advance 20 = .ok (.athrow, 1) := by decide +kernel
theorem dX7_advance_21 : decode cX7_advance 21 = .ok (.iload_n 1, 1) := by decide +kernel
theorem dX7_advance_22 : decode cX7_advance 22 = .ok (.sipush 9999, 3) := by decide +kernel
theorem dX7_advance_25 : decode cX7_advance 25 = .ok (.aload_n 0, 1) := by decide +kernel
theorem dX7_advance_26 : decode cX7_advance 26 = .ok (.getfield 10, 3) := by decide +kernel
theorem dX7_advance_29 : decode cX7_advance 29 = .ok (.getfield 129, 3) := by decide +kernel
theorem dX7_advance_32 : decode cX7_advance 32 = .ok (.isub, 1) := by decide +kernel
theorem dX7_advance_33 : decode cX7_advance 33 = .ok (.if_icmp .le 13, 3) := by decide +kernel
theorem dX7_advance_36 : decode cX7_advance 36 = .ok (.new 86, 3) := by decide +kernel
theorem dX7_advance_39 : decode cX7_advance 39 = .ok (.dup, 1) := by decide +kernel
theorem dX7_advance_40 : decode cX7_advance 40 = .ok (.ldc 248, 2) := by decide +kernel
theorem dX7_advance_42 : decode cX7_advance 42 = .ok (.invokespecial 90, 3) := by decide +kernel
theorem dX7_advance_45 : decode cX7_advance 45 = .ok (.athrow, 1) := by decide +kernel
theorem dX7_advance_46 : decode cX7_advance 46 = .ok (.aload_n 0, 1) := by decide +kernel
theorem dX7_advance_47 : decode cX7_advance 47 = .ok (.getfield 26, 3) := by decide +kernel
theorem dX7_advance_50 : decode cX7_advance 50 = .ok (.aload_n 0, 1) := by decide +kernel
theorem dX7_advance_51 : decode cX7_advance 51 = .ok (.getfield 10, 3) := by decide +kernel
theorem dX7_advance_54 : decode cX7_advance 54 = .ok (.invokevirtual 250, 3) := by decide +kernel
theorem dX7_advance_57 : decode cX7_advance 57 = .ok (.aload_n 0, 1) := by decide +kernel
theorem dX7_advance_58 : decode cX7_advance 58 = .ok (.getfield 10, 3) := by decide +kernel
theorem dX7_advance_61 : decode cX7_advance 61 = .ok (.iload_n 1, 1) := by decide +kernel
theorem dX7_advance_62 : decode cX7_advance 62 = .ok (.invokevirtual 66, 3) := by decide +kernel
theorem dX7_advance_65 : decode cX7_advance 65 = .ok (.ireturn, 1) := by decide +kernel
set_option maxRecDepth 20000 in
theorem ggX7_setHumidity_X0_record : GoodIn wsX7_setHumidity wsX0_record := goodIn_r _ [10, 11, 12, 13, 14, 15, 16, 17, 18, 19, 20, 21, 22, 23, 24, 25, 26, 27, 28, 29, 30, 31, 32, 33, 34, 35, 36, 37, 38, 39, 40, 41, 42, 43, 44, 59, 60, 61, 51, 52, 53, 54, 55, 56, 57, 58, 62, 63, 64, 65, 66, 67, 68, 69, 70] (by decide +kernel) (by decide +kernel)
set_option maxRecDepth 20000 in
theorem gX7_setHumidity_X0_record : GoodIn wsX7_setHumidity (wsV RX7 250 RX0 yX0_record wsX0_record) := goodIn_app (goodIn_of _ (by decide +kernel)) ggX7_setHumidity_X0_record
theorem dX7_setHumidity_0 : decode cX7_setHumidity 0 = .ok (.iload_n 1, 1) := by decide +kernel
theorem dX7_setHumidity_1 : decode cX7_setHumidity 1 = .ok (.ifCond .lt 9, 3) := by decide +kernel
theorem dX7_setHumidity_4 : decode cX7_setHumidity 4 = .ok (.iload_n 1, 1) := by decide +kernel
theorem dX7_setHumidity_5 : decode cX7_setHumidity 5 = .ok (.bipush 100, 2) := by decide +kernel
theorem dX7_setHumidity_7 : decode cX7_setHumidity 7 = .ok (.if_icmp .le 13, 3) := by decide +kernel
theorem dX7_setHumidity_10 : decode cX7_setHumidity 10 = .ok (.new 107, 3) := by decide +kernel
theorem dX7_setHumidity_13 : decode cX7_setHumidity 13 = .ok (.dup, 1) := by decide +kernel
theorem dX7_setHumidity_14 : decode cX7_setHumidity 14 = .ok (.ldc 253, 2) := by decide +kernel
theorem dX7_setHumidity_16 : decode cX7_setHumidity 16 = .ok (.invokespecial 111, 3) := by decide +kernel
theorem dX7_setHumidity_19 : decode cX7_setHumidity 19 = .ok (.athrow, 1) := by decide +kernel
theorem dX7_setHumidity_20 : decode cX7_setHumidity 20 = .ok (.aload_n 0, 1) := by decide +kernel
theorem dX7_setHumidity_21 : decode cX7_setHumidity 21 = .ok (.getfield 26, 3) := by decide +kernel
theorem dX7_setHumidity_24 : decode cX7_setHumidity 24 = .ok (.aload_n 0, 1) := by decide +kernel
theorem dX7_setHumidity_25 : decode cX7_setHumidity 25 = .ok (.getfield 10, 3) := by decide +kernel
theorem dX7_setHumidity_28 : decode cX7_setHumidity 28 = .ok (.invokevirtual 250, 3) := by decide +kernel
theorem dX7_setHumidity_31 : decode cX7_setHumidity 31 = .ok (.aload_n 0, 1) := by decide +kernel
theorem dX7_setHumidity_32 : decode cX7_setHumidity 32 = .ok (.getfield 10, 3) := by decide +kernel
theorem dX7_setHumidity_35 : decode cX7_setHumidity 35 = .ok (.getfield 62, 3) := by decide +kernel
theorem dX7_setHumidity_38 : decode cX7_setHumidity 38 = .ok (.istore_n 2, 1) := by decide +kernel
theorem dX7_setHumidity_39 : decode cX7_setHumidity 39 = .ok (.aload_n 0, 1) := by decide +kernel
theorem dX7_setHumidity_40 : decode cX7_setHumidity 40 = .ok (.getfield 10, 3) := by decide +kernel
theorem dX7_setHumidity_43 : decode cX7_setHumidity 43 = .ok (.iload_n 1, 1) := by decide +kernel
theorem dX7_setHumidity_44 : decode cX7_setHumidity 44 = .ok (.putfield 62, 3) := by decide +kernel
theorem dX7_setHumidity_47 : decode cX7_setHumidity 47 = .ok (.iload_n 2, 1) := by decide +kernel
theorem dX7_setHumidity_48 : decode cX7_setHumidity 48 = .ok (.ireturn, 1) := by decide +kernel
set_option maxRecDepth 20000 in
theorem ggX7_setTemperature_X0_record : GoodIn wsX7_setTemperature wsX0_record := goodIn_r _ [10, 11, 12, 13, 14, 15, 16, 17, 18, 19, 20, 21, 22, 23, 24, 25, 26, 27, 28, 29, 30, 31, 32, 33, 34, 35, 36, 37, 38, 39, 40, 41, 42, 43, 44, 59, 60, 61, 51, 52, 53, 54, 55, 56, 57, 58, 62, 63, 64, 65, 66, 67, 68, 69, 70] (by decide +kernel) (by decide +kernel)
set_option maxRecDepth 20000 in
theorem gX7_setTemperature_X0_record : GoodIn wsX7_setTemperature (wsV RX7 250 RX0 yX0_record wsX0_record) := goodIn_app (goodIn_of _ (by decide +kernel)) ggX7_setTemperature_X0_record
theorem dX7_setTemperature_0 : decode cX7_setTemperature 0 = .ok (.iload_n 1, 1) := by decide +kernel
theorem dX7_setTemperature_1 : decode cX7_setTemperature 1 = .ok (.ifCond .lt 9, 3) := by decide +kernel
theorem dX7_setTemperature_4 : decode cX7_setTemperature 4 = .ok (.iload_n 1, 1) := by decide +kernel
theorem dX7_setTemperature_5 : decode cX7_setTemperature 5 = .ok (.bipush 40, 2) := by decide +kernel
theorem dX7_setTemperature_7 : decode cX7_setTemperature 7 = .ok (.if_icmp .le 13, 3) := by decide +kernel
theorem dX7_setTemperature_10 : decode cX7_setTemperature 10 = .ok (.new 107, 3) := by decide +kernel
theorem dX7_setTemperature_13 : decode cX7_setTemperature 13 = .ok (.dup, 1) := by decide +kernel
theorem dX7_setTemperature_14 : decode cX7_setTemperature 14 = .ok (.ldc 255, 2) := by decide +kernel
theorem dX7_setTemperature_16 : decode cX7_setTemperature 16 = .ok (.invokespecial 111, 3) := by decide +kernel
theorem dX7_setTemperature_19 : decode cX7_setTemperature 19 = .ok (.athrow, 1) := by decide +kernel
theorem dX7_setTemperature_20 : decode cX7_setTemperature 20 = .ok (.aload_n 0, 1) := by decide +kernel
theorem dX7_setTemperature_21 : decode cX7_setTemperature 21 = .ok (.getfield 26, 3) := by decide +kernel
theorem dX7_setTemperature_24 : decode cX7_setTemperature 24 = .ok (.aload_n 0, 1) := by decide +kernel
theorem dX7_setTemperature_25 : decode cX7_setTemperature 25 = .ok (.getfield 10, 3) := by decide +kernel
theorem dX7_setTemperature_28 : decode cX7_setTemperature 28 = .ok (.invokevirtual 250, 3) := by decide +kernel
theorem dX7_setTemperature_31 : decode cX7_setTemperature 31 = .ok (.aload_n 0, 1) := by decide +kernel
theorem dX7_setTemperature_32 : decode cX7_setTemperature 32 = .ok (.getfield 10, 3) := by decide +kernel
theorem dX7_setTemperature_35 : decode cX7_setTemperature 35 = .ok (.getfield 132, 3) := by decide +kernel
theorem dX7_setTemperature_38 : decode cX7_setTemperature 38 = .ok (.istore_n 2, 1) := by decide +kernel
theorem dX7_setTemperature_39 : decode cX7_setTemperature 39 = .ok (.aload_n 0, 1) := by decide +kernel
theorem dX7_setTemperature_40 : decode cX7_setTemperature 40 = .ok (.getfield 10, 3) := by decide +kernel
theorem dX7_setTemperature_43 : decode cX7_setTemperature 43 = .ok (.iload_n 1, 1) := by decide +kernel
theorem dX7_setTemperature_44 : decode cX7_setTemperature 44 = .ok (.putfield 132, 3) := by decide +kernel
theorem dX7_setTemperature_47 : decode cX7_setTemperature 47 = .ok (.iload_n 2, 1) := by decide +kernel
theorem dX7_setTemperature_48 : decode cX7_setTemperature 48 = .ok (.ireturn, 1) := by decide +kernel
set_option maxRecDepth 20000 in
theorem ggX7_setSkill_X0_record : GoodIn wsX7_setSkill wsX0_record := goodIn_r _ [10, 11, 12, 13, 14, 15, 16, 17, 18, 19, 20, 21, 22, 23, 24, 25, 26, 27, 28, 29, 30, 31, 32, 33, 34, 35, 36, 37, 38, 39, 40, 41, 42, 43, 44, 59, 60, 61, 51, 52, 53, 54, 55, 56, 57, 58, 62, 63, 64, 65, 66, 67, 68, 69, 70] (by decide +kernel) (by decide +kernel)
set_option maxRecDepth 20000 in
theorem gX7_setSkill_X0_record : GoodIn wsX7_setSkill (wsV RX7 250 RX0 yX0_record wsX0_record) := goodIn_app (goodIn_of _ (by decide +kernel)) ggX7_setSkill_X0_record
theorem dX7_setSkill_0 : decode cX7_setSkill 0 = .ok (.iload_n 1, 1) := by decide +kernel
theorem dX7_setSkill_1 : decode cX7_setSkill 1 = .ok (.ifCond .lt 8, 3) := by decide +kernel
theorem dX7_setSkill_4 : decode cX7_setSkill 4 = .ok (.iload_n 1, 1) := by decide +kernel
theorem dX7_setSkill_5 : decode cX7_setSkill 5 = .ok (.iconst 5, 1) := by decide +kernel
theorem dX7_setSkill_6 : decode cX7_setSkill 6 = .ok (.if_icmp .le 14, 3) := by decide +kernel
theorem dX7_setSkill_9 : decode cX7_setSkill 9 = .ok (.new 107, 3) := by decide +kernel
theorem dX7_setSkill_12 : decode cX7_setSkill 12 = .ok (.dup, 1) := by decide +kernel
theorem dX7_setSkill_13 : decode cX7_setSkill 13 = .ok (.ldc_w 257, 3) := by decide +kernel
theorem dX7_setSkill_16 : decode cX7_setSkill 16 = .ok (.invokespecial 111, 3) := by decide +kernel
theorem dX7_setSkill_19 : decode cX7_setSkill 19 = .ok (.athrow, 1) := by decide +kernel
theorem dX7_setSkill_20 : decode cX7_setSkill 20 = .ok (.aload_n 0, 1) := by decide +kernel
theorem dX7_setSkill_21 : decode cX7_setSkill 21 = .ok (.getfield 26, 3) := by decide +kernel
theorem dX7_setSkill_24 : decode cX7_setSkill 24 = .ok (.aload_n 0, 1) := by decide +kernel
theorem dX7_setSkill_25 : decode cX7_setSkill 25 = .ok (.getfield 10, 3) := by decide +kernel
theorem dX7_setSkill_28 : decode cX7_setSkill 28 = .ok (.invokevirtual 250, 3) := by decide +kernel
theorem dX7_setSkill_31 : decode cX7_setSkill 31 = .ok (.aload_n 0, 1) := by decide +kernel
theorem dX7_setSkill_32 : decode cX7_setSkill 32 = .ok (.getfield 10, 3) := by decide +kernel
theorem dX7_setSkill_35 : decode cX7_setSkill 35 = .ok (.getfield 135, 3) := by decide +kernel
theorem dX7_setSkill_38 : decode cX7_setSkill 38 = .ok (.istore_n 2, 1) := by decide +kernel
theorem dX7_setSkill_39 : decode cX7_setSkill 39 = .ok (.aload_n 0, 1) := by decide +kernel
theorem dX7_setSkill_40 : decode cX7_setSkill 40 = .ok (.getfield 10, 3) := by decide +kernel
theorem dX7_setSkill_43 : decode cX7_setSkill 43 = .ok (.iload_n 1, 1) := by decide +kernel
theorem dX7_setSkill_44 : decode cX7_setSkill 44 = .ok (.putfield 135, 3) := by decide +kernel
theorem dX7_setSkill_47 : decode cX7_setSkill 47 = .ok (.iload_n 2, 1) := by decide +kernel
theorem dX7_setSkill_48 : decode cX7_setSkill 48 = .ok (.ireturn, 1) := by decide +kernel
set_option maxRecDepth 20000 in
theorem ggX7_putInBox_X7_instrumentAt : GoodIn wsX7_putInBox wsX7_instrumentAt := goodIn_ca (goodIn_r _ [12, 13, 14, 6, 15, 16, 17, 18, 19, 20, 21, 73, 74, 75, 76, 77, 78, 88, 89, 90, 91, 92, 93, 94, 95] (by decide +kernel) (by decide +kernel)) (goodIn_sub (fun _ h => List.mem_cons_of_mem _ (List.mem_append_right _ h)) (by decide +kernel))
set_option maxRecDepth 20000 in
theorem gX7_putInBox_X7_instrumentAt : GoodIn wsX7_putInBox (wsV RX7 151 RX7 yX7_instrumentAt wsX7_instrumentAt) := goodIn_app (goodIn_of _ (by decide +kernel)) ggX7_putInBox_X7_instrumentAt
set_option maxRecDepth 20000 in
theorem ggX7_putInBox_X7_isSalt : GoodIn wsX7_putInBox wsX7_isSalt := goodIn_r _ [24, 25] (by decide +kernel) (by decide +kernel)
set_option maxRecDepth 20000 in
theorem gX7_putInBox_X7_isSalt : GoodIn wsX7_putInBox (va_wsS RX7 141 yX7_isSalt wsX7_isSalt) := goodIn_app (goodIn_of _ (by decide +kernel)) ggX7_putInBox_X7_isSalt
set_option maxRecDepth 20000 in
theorem ggX7_putInBox_X1_isBoxed : GoodIn wsX7_putInBox wsX1_isBoxed := goodIn_r _ [30, 31, 79, 80, 81, 82, 83, 84, 85, 86, 87] (by decide +kernel) (by decide +kernel)
set_option maxRecDepth 20000 in
theorem gX7_putInBox_X1_isBoxed : GoodIn wsX7_putInBox (wsV RX7 259 RX1 yX1_isBoxed wsX1_isBoxed) := goodIn_app (goodIn_of _ (by decide +kernel)) ggX7_putInBox_X1_isBoxed
set_option maxRecDepth 20000 in
theorem ggX7_putInBox_X0_record : GoodIn wsX7_putInBox wsX0_record := goodIn_r _ [36, 37, 38, 39, 40, 41, 42, 43, 44, 45, 46, 18, 47, 20, 48, 49, 50, 51, 52, 53, 21, 54, 55, 56, 29, 57, 58, 59, 60, 61, 62, 63, 64, 65, 31, 96, 97, 98, 88, 89, 90, 91, 92, 93, 94, 95, 79, 80, 81, 82, 83, 84, 85, 86, 87] (by decide +kernel) (by decide +kernel)
set_option maxRecDepth 20000 in
theorem gX7_putInBox_X0_record : GoodIn wsX7_putInBox (wsV RX7 250 RX0 yX0_record wsX0_record) := goodIn_app (goodIn_of _ (by decide +kernel)) ggX7_putInBox_X0_record
set_option maxRecDepth 20000 in
theorem ggX7_putInBox_X4_surrounding : GoodIn wsX7_putInBox wsX4_surrounding := goodIn_r _ [69, 70, 49, 71, 11, 72, 25, 79, 80, 81, 82, 83, 84, 85, 86, 87, 88, 89, 90, 91, 92, 93, 94, 95] (by decide +kernel) (by decide +kernel)
set_option maxRecDepth 20000 in
theorem gX7_putInBox_X4_surrounding : GoodIn wsX7_putInBox (wsV RX7 181 RX4 yX4_surrounding wsX4_surrounding) := goodIn_app (goodIn_of _ (by decide +kernel)) ggX7_putInBox_X4_surrounding
theorem dX7_putInBox_0 : decode cX7_putInBox 0 = .ok (.aload_n 0, 1) := by decide +kernel
theorem dX7_putInBox_1 : decode cX7_putInBox 1 = .ok (.iload_n 1, 1) := by decide +kernel
theorem dX7_putInBox_2 : decode cX7_putInBox 2 = .ok (.invokevirtual 151, 3) := by decide +kernel
theorem dX7_putInBox_5 : decode cX7_putInBox 5 = .ok (.astore_n 3, 1) := by decide +kernel
theorem dX7_putInBox_6 : decode cX7_putInBox 6 = .ok (.iload_n 2, 1) := by decide +kernel
theorem dX7_putInBox_7 : decode cX7_putInBox 7 = .ok (.invokestatic 141, 3) := by decide +kernel
theorem dX7_putInBox_10 : decode cX7_putInBox 10 = .ok (.ifCond .ne 13, 3) := by decide +kernel
theorem dX7_putInBox_13 : decode cX7_putInBox 13 = .ok (.new 107, 3) := by decide +kernel
theorem dX7_putInBox_16 : decode cX7_putInBox 16 = .ok (.dup, 1) := by decide +kernel
theorem dX7_putInBox_17 : decode cX7_putInBox 17 = .ok (.ldc 145, 2) := by decide +kernel
theorem dX7_putInBox_19 : decode cX7_putInBox 19 = .ok (.invokespecial 111, 3) := by decide +kernel
theorem dX7_putInBox_22 : decode cX7_putInBox 22 = .ok (.athrow, 1) := by decide +kernel
theorem dX7_putInBox_23 : decode cX7_putInBox 23 = .ok (.aload_n 3, 1) := by decide +kernel
theorem dX7_putInBox_24 : decode cX7_putInBox 24 = .ok (.invokevirtual 259, 3) := by decide +kernel
theorem dX7_putInBox_27 : decode cX7_putInBox 27 = .ok (.ifCond .eq 14, 3) := by decide +kernel
theorem dX7_putInBox_30 : decode cX7_putInBox 30 = .ok (.new 86, 3) := by decide +kernel
theorem dX7_putInBox_33 : decode cX7_putInBox 33 = .ok (.dup, 1) := by decide +kernel
theorem dX7_putInBox_34 : decode cX7_putInBox 34 = .ok (.ldc_w 263, 3) := by decide +kernel
theorem dX7_putInBox_37 : decode cX7_putInBox 37 = .ok (.invokespecial 90, 3) := by decide +kernel
theorem dX7_putInBox_40 : decode cX7_putInBox 40 = .ok (.athrow, 1) := by decide +kernel
theorem dX7_putInBox_41 : decode cX7_putInBox 41 = .ok (.aload_n 0, 1) := by decide +kernel
theorem dX7_putInBox_42 : decode cX7_putInBox 42 = .ok (.getfield 26, 3) := by decide +kernel
theorem dX7_putInBox_45 : decode cX7_putInBox 45 = .ok (.aload_n 0, 1) := by decide +kernel
theorem dX7_putInBox_46 : decode cX7_putInBox 46 = .ok (.getfield 10, 3) := by decide +kernel
theorem dX7_putInBox_49 : decode cX7_putInBox 49 = .ok (.invokevirtual 250, 3) := by decide +kernel
theorem dX7_putInBox_52 : decode cX7_putInBox 52 = .ok (.aload_n 3, 1) := by decide +kernel
theorem dX7_putInBox_53 : decode cX7_putInBox 53 = .ok (.iload_n 2, 1) := by decide +kernel
theorem dX7_putInBox_54 : decode cX7_putInBox 54 = .ok (.putfield 74, 3) := by decide +kernel
theorem dX7_putInBox_57 : decode cX7_putInBox 57 = .ok (.aload_n 0, 1) := by decide +kernel
theorem dX7_putInBox_58 : decode cX7_putInBox 58 = .ok (.getfield 10, 3) := by decide +kernel
theorem dX7_putInBox_61 : decode cX7_putInBox 61 = .ok (.aload_n 3, 1) := by decide +kernel
theorem dX7_putInBox_62 : decode cX7_putInBox 62 = .ok (.invokevirtual 181, 3) := by decide +kernel
theorem dX7_putInBox_65 : decode cX7_putInBox 65 = .ok (.ireturn, 1) := by decide +kernel
set_option maxRecDepth 20000 in
theorem ggX7_takeOut_X7_instrumentAt : GoodIn wsX7_takeOut wsX7_instrumentAt := goodIn_ca (goodIn_r _ [10, 11, 12, 4, 13, 14, 15, 16, 17, 18, 19, 60, 61, 62, 63, 64, 65, 75, 76, 77, 78, 79, 80, 81, 82] (by decide +kernel) (by decide +kernel)) (goodIn_sub (fun _ h => List.mem_cons_of_mem _ (List.mem_append_right _ h)) (by decide +kernel))
set_option maxRecDepth 20000 in
theorem gX7_takeOut_X7_instrumentAt : GoodIn wsX7_takeOut (wsV RX7 151 RX7 yX7_instrumentAt wsX7_instrumentAt) := goodIn_app (goodIn_of _ (by decide +kernel)) ggX7_takeOut_X7_instrumentAt
set_option maxRecDepth 20000 in
theorem ggX7_takeOut_X1_isBoxed : GoodIn wsX7_takeOut wsX1_isBoxed := goodIn_r _ [24, 25, 66, 67, 68, 69, 70, 71, 72, 73, 74] (by decide +kernel) (by decide +kernel)
set_option maxRecDepth 20000 in
theorem gX7_takeOut_X1_isBoxed : GoodIn wsX7_takeOut (wsV RX7 259 RX1 yX1_isBoxed wsX1_isBoxed) := goodIn_app (goodIn_of _ (by decide +kernel)) ggX7_takeOut_X1_isBoxed
set_option maxRecDepth 20000 in
theorem ggX7_takeOut_X0_record : GoodIn wsX7_takeOut wsX0_record := goodIn_r _ [30, 31, 32, 33, 34, 35, 36, 37, 38, 39, 40, 16, 41, 18, 42, 43, 44, 45, 46, 47, 19, 48, 49, 50, 23, 51, 52, 53, 54, 55, 56, 57, 58, 59, 25, 83, 84, 85, 75, 76, 77, 78, 79, 80, 81, 82, 66, 67, 68, 69, 70, 71, 72, 73, 74] (by decide +kernel) (by decide +kernel)
set_option maxRecDepth 20000 in
theorem gX7_takeOut_X0_record : GoodIn wsX7_takeOut (wsV RX7 250 RX0 yX0_record wsX0_record) := goodIn_app (goodIn_of _ (by decide +kernel)) ggX7_takeOut_X0_record
theorem dX7_takeOut_0 : decode cX7_takeOut 0 = .ok (.aload_n 0, 1) := by decide +kernel
theorem dX7_takeOut_1 : decode cX7_takeOut 1 = .ok (.iload_n 1, 1) := by decide +kernel
theorem dX7_takeOut_2 : decode cX7_takeOut 2 = .ok (.invokevirtual 151, 3) := by decide +kernel
theorem dX7_takeOut_5 : decode cX7_takeOut 5 = .ok (.astore_n 2, 1) := by decide +kernel
theorem dX7_takeOut_6 : decode cX7_takeOut 6 = .ok (.aload_n 2, 1) := by decide +kernel
theorem dX7_takeOut_7 : decode cX7_takeOut 7 = .ok (.invokevirtual 259, 3) := by decide +kernel
theorem dX7_takeOut_10 : decode cX7_takeOut 10 = .ok (.ifCond .ne 14, 3) := by decide +kernel
theorem dX7_takeOut_13 : decode cX7_takeOut 13 = .ok (.new 86, 3) := by decide +kernel
theorem dX7_takeOut_16 : decode cX7_takeOut 16 = .ok (.dup, 1) := by decide +kernel
theorem dX7_takeOut_17 : decode cX7_takeOut 17 = .ok (.ldc_w 265, 3) := by decide +kernel
theorem dX7_takeOut_20 : decode cX7_takeOut 20 = .ok (.invokespecial 90, 3) := by decide +kernel
theorem dX7_takeOut_23 : decode cX7_takeOut 23 = .ok (.athrow, 1) := by decide +kernel
theorem dX7_takeOut_24 : decode cX7_takeOut 24 = .ok (.aload_n 0, 1) := by decide +kernel
theorem dX7_takeOut_25 : decode cX7_takeOut 25 = .ok (.getfield 26, 3) := by decide +kernel
theorem dX7_takeOut_28 : decode cX7_takeOut 28 = .ok (.aload_n 0, 1) := by decide +kernel
theorem dX7_takeOut_29 : decode cX7_takeOut 29 = .ok (.getfield 10, 3) := by decide +kernel
theorem dX7_takeOut_32 : decode cX7_takeOut 32 = .ok (.invokevirtual 250, 3) := by decide +kernel
theorem dX7_takeOut_35 : decode cX7_takeOut 35 = .ok (.aload_n 2, 1) := by decide +kernel
theorem dX7_takeOut_36 : decode cX7_takeOut 36 = .ok (.getfield 74, 3) := by decide +kernel
theorem dX7_takeOut_39 : decode cX7_takeOut 39 = .ok (.istore_n 3, 1) := by decide +kernel
theorem dX7_takeOut_40 : decode cX7_takeOut 40 = .ok (.aload_n 2, 1) := by decide +kernel
theorem dX7_takeOut_41 : decode cX7_takeOut 41 = .ok (.iconst (-1), 1) := by decide +kernel
theorem dX7_takeOut_42 : decode cX7_takeOut 42 = .ok (.putfield 74, 3) := by decide +kernel
theorem dX7_takeOut_45 : decode cX7_takeOut 45 = .ok (.iload_n 3, 1) := by decide +kernel
theorem dX7_takeOut_46 : decode cX7_takeOut 46 = .ok (.ireturn, 1) := by decide +kernel
set_option maxRecDepth 20000 in
theorem ggX7_calibrate_X7_instrumentAt : GoodIn wsX7_calibrate wsX7_instrumentAt := goodIn_ca (goodIn_r _ [10, 11, 12, 3, 13, 14, 15, 16, 17, 18, 19, 91, 92, 93, 94, 95, 96, 106, 107, 108, 109, 110, 111, 112, 113] (by decide +kernel) (by decide +kernel)) (goodIn_sub (fun _ h => List.mem_cons_of_mem _ (List.mem_append_right _ h)) (by decide +kernel))
set_option maxRecDepth 20000 in
theorem gX7_calibrate_X7_instrumentAt : GoodIn wsX7_calibrate (wsV RX7 151 RX7 yX7_instrumentAt wsX7_instrumentAt) := goodIn_app (goodIn_of _ (by decide +kernel)) ggX7_calibrate_X7_instrumentAt
set_option maxRecDepth 20000 in
theorem ggX7_calibrate_X4_obstacle : GoodIn wsX7_calibrate wsX4_obstacle := goodIn_r _ [23, 24, 25, 26, 27, 28, 29, 30, 31, 32, 16, 33, 34, 35, 36, 37, 38, 39, 40, 41, 42, 43, 9, 44, 45, 97, 98, 99, 100, 101, 102, 103, 104, 105, 106, 107, 108, 109, 110, 111, 112, 113] (by decide +kernel) (by decide +kernel)
set_option maxRecDepth 20000 in
theorem gX7_calibrate_X4_obstacle : GoodIn wsX7_calibrate (wsV RX7 201 RX4 yX4_obstacle wsX4_obstacle) := goodIn_app (goodIn_of _ (by decide +kernel)) ggX7_calibrate_X4_obstacle
set_option maxRecDepth 20000 in
theorem ggX7_calibrate_X0_record : GoodIn wsX7_calibrate wsX0_record := goodIn_r _ [50, 51, 52, 53, 54, 55, 56, 57, 58, 59, 60, 16, 61, 18, 62, 42, 63, 64, 65, 66, 19, 67, 68, 69, 27, 70, 71, 72, 73, 74, 75, 76, 77, 78, 29, 114, 115, 116, 106, 107, 108, 109, 110, 111, 112, 113, 97, 98, 99, 100, 101, 102, 103, 104, 105] (by decide +kernel) (by decide +kernel)
set_option maxRecDepth 20000 in
theorem gX7_calibrate_X0_record : GoodIn wsX7_calibrate (wsV RX7 250 RX0 yX0_record wsX0_record) := goodIn_app (goodIn_of _ (by decide +kernel)) ggX7_calibrate_X0_record
set_option maxRecDepth 20000 in
theorem ggX7_calibrate_X4_surrounding : GoodIn wsX7_calibrate wsX4_surrounding := goodIn_r _ [40, 41, 42, 43, 9, 44, 45, 97, 98, 99, 100, 101, 102, 103, 104, 105, 106, 107, 108, 109, 110, 111, 112, 113] (by decide +kernel) (by decide +kernel)
set_option maxRecDepth 20000 in
theorem gX7_calibrate_X4_surrounding : GoodIn wsX7_calibrate (wsV RX7 181 RX4 yX4_surrounding wsX4_surrounding) := goodIn_app (goodIn_of _ (by decide +kernel)) ggX7_calibrate_X4_surrounding
set_option maxRecDepth 20000 in
theorem ggX7_calibrate_X4_raw : GoodIn wsX7_calibrate wsX4_raw := goodIn_r _ [83, 34, 35, 84, 63, 85, 86, 87, 16, 88, 36, 37, 38, 39, 40, 41, 42, 43, 9, 44, 45, 89, 90, 97, 98, 99, 100, 101, 102, 103, 104, 105, 106, 107, 108, 109, 110, 111, 112, 113] (by decide +kernel) (by decide +kernel)
set_option maxRecDepth 20000 in
theorem gX7_calibrate_X4_raw : GoodIn wsX7_calibrate (wsV RX7 184 RX4 yX4_raw wsX4_raw) := goodIn_app (goodIn_of _ (by decide +kernel)) ggX7_calibrate_X4_raw
theorem dX7_calibrate_0 : decode cX7_calibrate 0 = .ok (.aload_n 0, 1) := by decide +kernel
theorem dX7_calibrate_1 : decode cX7_calibrate 1 = .ok (.iload_n 1, 1) := by decide +kernel
theorem dX7_calibrate_2 : decode cX7_calibrate 2 = .ok (.invokevirtual 151, 3) := by decide +kernel
theorem dX7_calibrate_5 : decode cX7_calibrate 5 = .ok (.astore_n 2, 1) := by decide +kernel
theorem dX7_calibrate_6 : decode cX7_calibrate 6 = .ok (.aload_n 0, 1) := by decide +kernel
theorem dX7_calibrate_7 : decode cX7_calibrate 7 = .ok (.getfield 10, 3) := by decide +kernel
theorem dX7_calibrate_10 : decode cX7_calibrate 10 = .ok (.aload_n 2, 1) := by decide +kernel
theorem dX7_calibrate_11 : decode cX7_calibrate 11 = .ok (.invokevirtual 201, 3) := by decide +kernel
theorem dX7_calibrate_14 : decode cX7_calibrate 14 = .ok (.ifCond .eq 14, 3) := by decide +kernel
theorem dX7_calibrate_17 : decode cX7_calibrate 17 = .ok (.new 86, 3) := by decide +kernel
theorem dX7_calibrate_20 : decode cX7_calibrate 20 = .ok (.dup, 1) := by decide +kernel
theorem dX7_calibrate_21 : decode cX7_calibrate 21 = .ok (.ldc_w 267, 3) := by decide +kernel
theorem dX7_calibrate_24 : decode cX7_calibrate 24 = .ok (.invokespecial 90, 3) := by decide +kernel
theorem dX7_calibrate_27 : decode cX7_calibrate 27 = .ok (.athrow, 1) := by decide +kernel
theorem dX7_calibrate_28 : decode cX7_calibrate 28 = .ok (.aload_n 0, 1) := by decide +kernel
theorem dX7_calibrate_29 : decode cX7_calibrate 29 = .ok (.getfield 26, 3) := by decide +kernel
theorem dX7_calibrate_32 : decode cX7_calibrate 32 = .ok (.aload_n 0, 1) := by decide +kernel
theorem dX7_calibrate_33 : decode cX7_calibrate 33 = .ok (.getfield 10, 3) := by decide +kernel
theorem dX7_calibrate_36 : decode cX7_calibrate 36 = .ok (.invokevirtual 250, 3) := by decide +kernel
theorem dX7_calibrate_39 : decode cX7_calibrate 39 = .ok (.aload_n 2, 1) := by decide +kernel
theorem dX7_calibrate_40 : decode cX7_calibrate 40 = .ok (.getfield 178, 3) := by decide +kernel
theorem dX7_calibrate_43 : decode cX7_calibrate 43 = .ok (.istore_n 3, 1) := by decide +kernel
theorem dX7_calibrate_44 : decode cX7_calibrate 44 = .ok (.aload_n 2, 1) := by decide +kernel
theorem dX7_calibrate_45 : decode cX7_calibrate 45 = .ok (.aload_n 0, 1) := by decide +kernel
theorem dX7_calibrate_46 : decode cX7_calibrate 46 = .ok (.getfield 10, 3) := by decide +kernel
theorem dX7_calibrate_49 : decode cX7_calibrate 49 = .ok (.aload_n 2, 1) := by decide +kernel
theorem dX7_calibrate_50 : decode cX7_calibrate 50 = .ok (.invokevirtual 181, 3) := by decide +kernel
theorem dX7_calibrate_53 : decode cX7_calibrate 53 = .ok (.aload_n 0, 1) := by decide +kernel
theorem dX7_calibrate_54 : decode cX7_calibrate 54 = .ok (.getfield 10, 3) := by decide +kernel
theorem dX7_calibrate_57 : decode cX7_calibrate 57 = .ok (.aload_n 2, 1) := by decide +kernel
theorem dX7_calibrate_58 : decode cX7_calibrate 58 = .ok (.invokevirtual 184, 3) := by decide +kernel
theorem dX7_calibrate_61 : decode cX7_calibrate 61 = .ok (.isub, 1) := by decide +kernel
theorem dX7_calibrate_62 : decode cX7_calibrate 62 = .ok (.putfield 178, 3) := by decide +kernel
theorem dX7_calibrate_65 : decode cX7_calibrate 65 = .ok (.iload_n 3, 1) := by decide +kernel
theorem dX7_calibrate_66 : decode cX7_calibrate 66 = .ok (.ireturn, 1) := by decide +kernel
set_option maxRecDepth 20000 in
theorem ggX7_tighten_X7_instrumentAt : GoodIn wsX7_tighten wsX7_instrumentAt := goodIn_ca (goodIn_r _ [12, 13, 14, 6, 15, 16, 17, 18, 19, 20, 21, 71, 72, 73, 74, 75, 76, 77, 78, 79, 80, 81, 82, 83, 84] (by decide +kernel) (by decide +kernel)) (goodIn_sub (fun _ h => List.mem_cons_of_mem _ (List.mem_append_right _ h)) (by decide +kernel))
set_option maxRecDepth 20000 in
theorem gX7_tighten_X7_instrumentAt : GoodIn wsX7_tighten (wsV RX7 151 RX7 yX7_instrumentAt wsX7_instrumentAt) := goodIn_app (goodIn_of _ (by decide +kernel)) ggX7_tighten_X7_instrumentAt
set_option maxRecDepth 20000 in
theorem ggX7_tighten_X0_record : GoodIn wsX7_tighten wsX0_record := goodIn_r _ [26, 27, 28, 29, 30, 31, 32, 33, 34, 35, 36, 18, 37, 20, 38, 39, 40, 41, 42, 43, 21, 44, 45, 46, 47, 48, 49, 50, 51, 52, 53, 54, 55, 56, 57, 85, 86, 87, 77, 78, 79, 80, 81, 82, 83, 84, 62, 63, 64, 65, 66, 67, 68, 69, 70] (by decide +kernel) (by decide +kernel)
set_option maxRecDepth 20000 in
theorem gX7_tighten_X0_record : GoodIn wsX7_tighten (wsV RX7 250 RX0 yX0_record wsX0_record) := goodIn_app (goodIn_of _ (by decide +kernel)) ggX7_tighten_X0_record
set_option maxRecDepth 20000 in
theorem ggX7_tighten_X1_tightenSpring : GoodIn wsX7_tighten wsX1_tightenSpring := goodIn_r _ [61, 54, 53, 50, 52, 62, 63, 64, 65, 66, 67, 68, 69, 70] (by decide +kernel) (by decide +kernel)
set_option maxRecDepth 20000 in
theorem gX7_tighten_X1_tightenSpring : GoodIn wsX7_tighten (wsV RX7 271 RX1 yX1_tightenSpring wsX1_tightenSpring) := goodIn_app (goodIn_of _ (by decide +kernel)) ggX7_tighten_X1_tightenSpring
theorem dX7_tighten_0 : decode cX7_tighten 0 = .ok (.aload_n 0, 1) := by decide +kernel
theorem dX7_tighten_1 : decode cX7_tighten 1 = .ok (.iload_n 1, 1) := by decide +kernel
theorem dX7_tighten_2 : decode cX7_tighten 2 = .ok (.invokevirtual 151, 3) := by decide +kernel
theorem dX7_tighten_5 : decode cX7_tighten 5 = .ok (.astore_n 2, 1) := by decide +kernel
theorem dX7_tighten_6 : decode cX7_tighten 6 = .ok (.aload_n 2, 1) := by decide +kernel
theorem dX7_tighten_7 : decode cX7_tighten 7 = .ok (.getfield 155, 3) := by decide +kernel
theorem dX7_tighten_10 : decode cX7_tighten 10 = .ok (.ifCond .eq 10, 3) := by decide +kernel
theorem dX7_tighten_13 : decode cX7_tighten 13 = .ok (.aload_n 2, 1) := by decide +kernel
theorem dX7_tighten_14 : decode cX7_tighten 14 = .ok (.getfield 159, 3) := by decide +kernel
theorem dX7_tighten_17 : decode cX7_tighten 17 = .ok (.ifCond .ne 14, 3) := by decide +kernel
theorem dX7_tighten_20 : decode cX7_tighten 20 = .ok (.new 86, 3) := by decide +kernel
theorem dX7_tighten_23 : decode cX7_tighten 23 = .ok (.dup, 1) := by decide +kernel
theorem dX7_tighten_24 : decode cX7_tighten 24 = .ok (.ldc_w 269, 3) := by decide +kernel
theorem dX7_tighten_27 : decode cX7_tighten 27 = .ok (.invokespecial 90, 3) := by decide +kernel
theorem dX7_tighten_30 : decode cX7_tighten 30 = .ok (.athrow, 1) := by decide +kernel
theorem dX7_tighten_31 : decode cX7_tighten 31 = .ok (.aload_n 0, 1) := by decide +kernel
theorem dX7_tighten_32 : decode cX7_tighten 32 = .ok (.getfield 26, 3) := by decide +kernel
theorem dX7_tighten_35 : decode cX7_tighten 35 = .ok (.aload_n 0, 1) := by decide +kernel
theorem dX7_tighten_36 : decode cX7_tighten 36 = .ok (.getfield 10, 3) := by decide +kernel
theorem dX7_tighten_39 : decode cX7_tighten 39 = .ok (.invokevirtual 250, 3) := by decide +kernel
theorem dX7_tighten_42 : decode cX7_tighten 42 = .ok (.aload_n 2, 1) := by decide +kernel
theorem dX7_tighten_43 : decode cX7_tighten 43 = .ok (.getfield 168, 3) := by decide +kernel
theorem dX7_tighten_46 : decode cX7_tighten 46 = .ok (.istore_n 3, 1) := by decide +kernel
theorem dX7_tighten_47 : decode cX7_tighten 47 = .ok (.aload_n 2, 1) := by decide +kernel
theorem dX7_tighten_48 : decode cX7_tighten 48 = .ok (.invokevirtual 271, 3) := by decide +kernel
theorem dX7_tighten_51 : decode cX7_tighten 51 = .ok (.iload_n 3, 1) := by decide +kernel
theorem dX7_tighten_52 : decode cX7_tighten 52 = .ok (.ireturn, 1) := by decide +kernel
set_option maxRecDepth 20000 in
theorem ggX7_moisten_X7_instrumentAt : GoodIn wsX7_moisten wsX7_instrumentAt := goodIn_ca (goodIn_r _ [11, 12, 13, 5, 14, 15, 16, 17, 18, 19, 20, 66, 67, 68, 69, 70, 71, 72, 73, 74, 75, 76, 77, 78, 79] (by decide +kernel) (by decide +kernel)) (goodIn_sub (fun _ h => List.mem_cons_of_mem _ (List.mem_append_right _ h)) (by decide +kernel))
set_option maxRecDepth 20000 in
theorem gX7_moisten_X7_instrumentAt : GoodIn wsX7_moisten (wsV RX7 151 RX7 yX7_instrumentAt wsX7_instrumentAt) := goodIn_app (goodIn_of _ (by decide +kernel)) ggX7_moisten_X7_instrumentAt
set_option maxRecDepth 20000 in
theorem ggX7_moisten_X0_record : GoodIn wsX7_moisten wsX0_record := goodIn_r _ [25, 26, 27, 28, 29, 30, 31, 32, 33, 34, 35, 17, 36, 19, 37, 38, 39, 40, 41, 42, 20, 43, 44, 45, 46, 47, 48, 49, 50, 51, 52, 53, 54, 55, 56, 80, 81, 82, 72, 73, 74, 75, 76, 77, 78, 79, 57, 58, 59, 60, 61, 62, 63, 64, 65] (by decide +kernel) (by decide +kernel)
set_option maxRecDepth 20000 in
theorem gX7_moisten_X0_record : GoodIn wsX7_moisten (wsV RX7 250 RX0 yX0_record wsX0_record) := goodIn_app (goodIn_of _ (by decide +kernel)) ggX7_moisten_X0_record
theorem dX7_moisten_0 : decode cX7_moisten 0 = .ok (.aload_n 0, 1) := by decide +kernel
theorem dX7_moisten_1 : decode cX7_moisten 1 = .ok (.iload_n 1, 1) := by decide +kernel
theorem dX7_moisten_2 : decode cX7_moisten 2 = .ok (.invokevirtual 151, 3) := by decide +kernel
theorem dX7_moisten_5 : decode cX7_moisten 5 = .ok (.astore_n 2, 1) := by decide +kernel
theorem dX7_moisten_6 : decode cX7_moisten 6 = .ok (.aload_n 2, 1) := by decide +kernel
theorem dX7_moisten_7 : decode cX7_moisten 7 = .ok (.getfield 155, 3) := by decide +kernel
theorem dX7_moisten_10 : decode cX7_moisten 10 = .ok (.ifCond .eq 14, 3) := by decide +kernel
theorem dX7_moisten_13 : decode cX7_moisten 13 = .ok (.new 86, 3) := by decide +kernel
theorem dX7_moisten_16 : decode cX7_moisten 16 = .ok (.dup, 1) := by decide +kernel
theorem dX7_moisten_17 : decode cX7_moisten 17 = .ok (.ldc_w 274, 3) := by decide +kernel
theorem dX7_moisten_20 : decode cX7_moisten 20 = .ok (.invokespecial 90, 3) := by decide +kernel
theorem dX7_moisten_23 : decode cX7_moisten 23 = .ok (.athrow, 1) := by decide +kernel
theorem dX7_moisten_24 : decode cX7_moisten 24 = .ok (.aload_n 0, 1) := by decide +kernel
theorem dX7_moisten_25 : decode cX7_moisten 25 = .ok (.getfield 26, 3) := by decide +kernel
theorem dX7_moisten_28 : decode cX7_moisten 28 = .ok (.aload_n 0, 1) := by decide +kernel
theorem dX7_moisten_29 : decode cX7_moisten 29 = .ok (.getfield 10, 3) := by decide +kernel
theorem dX7_moisten_32 : decode cX7_moisten 32 = .ok (.invokevirtual 250, 3) := by decide +kernel
theorem dX7_moisten_35 : decode cX7_moisten 35 = .ok (.aload_n 2, 1) := by decide +kernel
theorem dX7_moisten_36 : decode cX7_moisten 36 = .ok (.getfield 171, 3) := by decide +kernel
theorem dX7_moisten_39 : decode cX7_moisten 39 = .ok (.istore_n 3, 1) := by decide +kernel
theorem dX7_moisten_40 : decode cX7_moisten 40 = .ok (.aload_n 2, 1) := by decide +kernel
theorem dX7_moisten_41 : decode cX7_moisten 41 = .ok (.bipush 60, 2) := by decide +kernel
theorem dX7_moisten_43 : decode cX7_moisten 43 = .ok (.putfield 171, 3) := by decide +kernel
theorem dX7_moisten_46 : decode cX7_moisten 46 = .ok (.iload_n 3, 1) := by decide +kernel
theorem dX7_moisten_47 : decode cX7_moisten 47 = .ok (.ireturn, 1) := by decide +kernel
set_option maxRecDepth 20000 in
theorem ggX7_addHairs_X7_instrumentAt : GoodIn wsX7_addHairs wsX7_instrumentAt := goodIn_ca (goodIn_r _ [14, 15, 16, 6, 17, 18, 19, 20, 21, 22, 23, 69, 70, 71, 72, 73, 74, 75, 76, 77, 78, 79, 80, 81, 82] (by decide +kernel) (by decide +kernel)) (goodIn_sub (fun _ h => List.mem_cons_of_mem _ (List.mem_append_right _ h)) (by decide +kernel))
set_option maxRecDepth 20000 in
theorem gX7_addHairs_X7_instrumentAt : GoodIn wsX7_addHairs (wsV RX7 151 RX7 yX7_instrumentAt wsX7_instrumentAt) := goodIn_app (goodIn_of _ (by decide +kernel)) ggX7_addHairs_X7_instrumentAt
set_option maxRecDepth 20000 in
theorem ggX7_addHairs_X0_record : GoodIn wsX7_addHairs wsX0_record := goodIn_r _ [28, 29, 30, 31, 32, 33, 34, 35, 36, 37, 38, 20, 39, 22, 40, 41, 42, 43, 44, 45, 23, 46, 47, 48, 49, 50, 51, 52, 53, 54, 55, 56, 57, 58, 59, 83, 84, 85, 75, 76, 77, 78, 79, 80, 81, 82, 60, 61, 62, 63, 64, 65, 66, 67, 68] (by decide +kernel) (by decide +kernel)
set_option maxRecDepth 20000 in
theorem gX7_addHairs_X0_record : GoodIn wsX7_addHairs (wsV RX7 250 RX0 yX0_record wsX0_record) := goodIn_app (goodIn_of _ (by decide +kernel)) ggX7_addHairs_X0_record
theorem dX7_addHairs_0 : decode cX7_addHairs 0 = .ok (.aload_n 0, 1) := by decide +kernel
theorem dX7_addHairs_1 : decode cX7_addHairs 1 = .ok (.iload_n 1, 1) := by decide +kernel
theorem dX7_addHairs_2 : decode cX7_addHairs 2 = .ok (.invokevirtual 151, 3) := by decide +kernel
theorem dX7_addHairs_5 : decode cX7_addHairs 5 = .ok (.astore_n 3, 1) := by decide +kernel
theorem dX7_addHairs_6 : decode cX7_addHairs 6 = .ok (.iload_n 2, 1) := by decide +kernel
theorem dX7_addHairs_7 : decode cX7_addHairs 7 = .ok (.iconst 1, 1) := by decide +kernel
theorem dX7_addHairs_8 : decode cX7_addHairs 8 = .ok (.if_icmp .lt 9, 3) := by decide +kernel
theorem dX7_addHairs_11 : decode cX7_addHairs 11 = .ok (.iload_n 2, 1) := by decide +kernel
theorem dX7_addHairs_12 : decode cX7_addHairs 12 = .ok (.bipush 20, 2) := by decide +kernel
theorem dX7_addHairs_14 : decode cX7_addHairs 14 = .ok (.if_icmp .le 14, 3) := by decide +kernel
theorem dX7_addHairs_17 : decode cX7_addHairs 17 = .ok (.new 107, 3) := by decide +kernel
theorem dX7_addHairs_20 : decode cX7_addHairs 20 = .ok (.dup, 1) := by decide +kernel
theorem dX7_addHairs_21 : decode cX7_addHairs 21 = .ok (.ldc_w 276, 3) := by decide +kernel
theorem dX7_addHairs_24 : decode cX7_addHairs 24 = .ok (.invokespecial 111, 3) := by decide +kernel
theorem dX7_addHairs_27 : decode cX7_addHairs 27 = .ok (.athrow, 1) := by decide +kernel
theorem dX7_addHairs_28 : decode cX7_addHairs 28 = .ok (.aload_n 3, 1) := by decide +kernel
theorem dX7_addHairs_29 : decode cX7_addHairs 29 = .ok (.getfield 155, 3) := by decide +kernel
theorem dX7_addHairs_32 : decode cX7_addHairs 32 = .ok (.ifCond .eq 25, 3) := by decide +kernel
theorem dX7_addHairs_35 : decode cX7_addHairs 35 = .ok (.aload_n 0, 1) := by decide +kernel
theorem dX7_addHairs_36 : decode cX7_addHairs 36 = .ok (.getfield 10, 3) := by decide +kernel
theorem dX7_addHairs_39 : decode cX7_addHairs 39 = .ok (.getfield 138, 3) := by decide +kernel
theorem dX7_addHairs_42 : decode cX7_addHairs 42 = .ok (.iload_n 2, 1) := by decide +kernel
theorem dX7_addHairs_43 : decode cX7_addHairs 43 = .ok (.if_icmp .lt 14, 3) := by decide +kernel
theorem dX7_addHairs_46 : decode cX7_addHairs 46 = .ok (.aload_n 3, 1) := by decide +kernel
theorem dX7_addHairs_47 : decode cX7_addHairs 47 = .ok (.getfield 159, 3) := by decide +kernel
theorem dX7_addHairs_50 : decode cX7_addHairs 50 = .ok (.iload_n 2, 1) := by decide +kernel
theorem dX7_addHairs_51 : decode cX7_addHairs 51 = .ok (.iadd, 1) := by decide +kernel
theorem dX7_addHairs_52 : decode cX7_addHairs 52 = .ok (.bipush 20, 2) := by decide +kernel
theorem dX7_addHairs_54 : decode cX7_addHairs 54 = .ok (.if_icmp .le 14, 3) := by decide +kernel
theorem dX7_addHairs_57 : decode cX7_addHairs 57 = .ok (.new 86, 3) := by decide +kernel
theorem dX7_addHairs_60 : decode cX7_addHairs 60 = .ok (.dup, 1) := by decide +kernel
theorem dX7_addHairs_61 : decode cX7_addHairs 61 = .ok (.ldc_w 278, 3) := by decide +kernel
theorem dX7_addHairs_64 : decode cX7_addHairs 64 = .ok (.invokespecial 90, 3) := by decide +kernel
theorem dX7_addHairs_67 : decode cX7_addHairs 67 = .ok (.athrow, 1) := by decide +kernel
theorem dX7_addHairs_68 : decode cX7_addHairs 68 = .ok (.aload_n 0, 1) := by decide +kernel
theorem dX7_addHairs_69 : decode cX7_addHairs 69 = .ok (.getfield 26, 3) := by decide +kernel
theorem dX7_addHairs_72 : decode cX7_addHairs 72 = .ok (.aload_n 0, 1) := by decide +kernel
theorem dX7_addHairs_73 : decode cX7_addHairs 73 = .ok (.getfield 10, 3) := by decide +kernel
theorem dX7_addHairs_76 : decode cX7_addHairs 76 = .ok (.invokevirtual 250, 3) := by decide +kernel
theorem dX7_addHairs_79 : decode cX7_addHairs 79 = .ok (.aload_n 0, 1) := by decide +kernel
theorem dX7_addHairs_80 : decode cX7_addHairs 80 = .ok (.getfield 10, 3) := by decide +kernel
theorem dX7_addHairs_83 : decode cX7_addHairs 83 = .ok (.dup, 1) := by decide +kernel
theorem dX7_addHairs_84 : decode cX7_addHairs 84 = .ok (.getfield 138, 3) := by decide +kernel
theorem dX7_addHairs_87 : decode cX7_addHairs 87 = .ok (.iload_n 2, 1) := by decide +kernel
theorem dX7_addHairs_88 : decode cX7_addHairs 88 = .ok (.isub, 1) := by decide +kernel
theorem dX7_addHairs_89 : decode cX7_addHairs 89 = .ok (.putfield 138, 3) := by decide +kernel
theorem dX7_addHairs_92 : decode cX7_addHairs 92 = .ok (.aload_n 3, 1) := by decide +kernel
theorem dX7_addHairs_93 : decode cX7_addHairs 93 = .ok (.dup, 1) := by decide +kernel
theorem dX7_addHairs_94 : decode cX7_addHairs 94 = .ok (.getfield 159, 3) := by decide +kernel
theorem dX7_addHairs_97 : decode cX7_addHairs 97 = .ok (.iload_n 2, 1) := by decide +kernel
theorem dX7_addHairs_98 : decode cX7_addHairs 98 = .ok (.iadd, 1) := by decide +kernel
theorem dX7_addHairs_99 : decode cX7_addHairs 99 = .ok (.putfield 159, 3) := by decide +kernel
theorem dX7_addHairs_102 : decode cX7_addHairs 102 = .ok (.aload_n 3, 1) := by decide +kernel
theorem dX7_addHairs_103 : decode cX7_addHairs 103 = .ok (.getfield 159, 3) := by decide +kernel
theorem dX7_addHairs_106 : decode cX7_addHairs 106 = .ok (.ireturn, 1) := by decide +kernel
set_option maxRecDepth 20000 in
theorem ggX7_restore_X7_isSlot : GoodIn wsX7_restore wsX7_isSlot := goodIn_r _ [12] (by decide +kernel) (by decide +kernel)
set_option maxRecDepth 20000 in
theorem gX7_restore_X7_isSlot : GoodIn wsX7_restore (va_wsS RX7 280 yX7_isSlot wsX7_isSlot) := goodIn_app (goodIn_of _ (by decide +kernel)) ggX7_restore_X7_isSlot
set_option maxRecDepth 20000 in
theorem ggX7_restore_X5_find : GoodIn wsX7_restore wsX5_find := goodIn_r _ [17, 18, 19, 10, 11, 12, 74, 75] (by decide +kernel) (by decide +kernel)
set_option maxRecDepth 20000 in
theorem gX7_restore_X5_find : GoodIn wsX7_restore (wsV RX7 285 RX5 yX5_find wsX5_find) := goodIn_app (goodIn_of _ (by decide +kernel)) ggX7_restore_X5_find
set_option maxRecDepth 20000 in
theorem ggX7_restore_X0_record : GoodIn wsX7_restore wsX0_record := goodIn_r _ [24, 25, 26, 27, 28, 29, 30, 31, 32, 33, 34, 35, 36, 37, 38, 39, 40, 41, 42, 43, 44, 45, 46, 47, 48, 49, 50, 51, 52, 53, 54, 55, 56, 57, 58, 76, 77, 78, 66, 67, 68, 69, 70, 71, 72, 73, 79, 80, 81, 82, 83, 84, 85, 86, 87] (by decide +kernel) (by decide +kernel)
set_option maxRecDepth 20000 in
theorem gX7_restore_X0_record : GoodIn wsX7_restore (wsV RX7 250 RX0 yX0_record wsX0_record) := goodIn_app (goodIn_of _ (by decide +kernel)) ggX7_restore_X0_record
set_option maxRecDepth 20000 in
theorem ggX7_restore_X4_copyFrom : GoodIn wsX7_restore wsX4_copyFrom := goodIn_r _ [36, 37, 38, 39, 40, 41, 42, 43, 44, 45, 46, 47, 48, 49, 50, 51, 52, 53, 54, 55, 56, 57, 58, 66, 67, 68, 69, 70, 71, 72, 73, 79, 80, 81, 82, 83, 84, 85, 86, 87] (by decide +kernel) (by decide +kernel)
set_option maxRecDepth 20000 in
theorem gX7_restore_X4_copyFrom : GoodIn wsX7_restore (wsV RX7 115 RX4 yX4_copyFrom wsX4_copyFrom) := goodIn_app (goodIn_of _ (by decide +kernel)) ggX7_restore_X4_copyFrom
theorem dX7_restore_0 : decode cX7_restore 0 = .ok (.iload_n 1, 1) := by decide +kernel
theorem dX7_restore_1 : decode cX7_restore 1 = .ok (.invokestatic 280, 3) := by decide +kernel
theorem dX7_restore_4 : decode cX7_restore 4 = .ok (.ifCond .ne 14, 3) := by decide +kernel
theorem dX7_restore_7 : decode cX7_restore 7 = .ok (.new 96, 3) := by decide +kernel
theorem dX7_restore_10 : decode cX7_restore 10 = .ok (.dup, 1) := by decide +kernel
theorem dX7_restore_11 : decode cX7_restore 11 = .ok (.ldc_w 283, 3) := by decide +kernel
theorem dX7_restore_14 : decode cX7_restore 14 = .ok (.invokespecial 100, 3) := by decide +kernel
theorem dX7_restore_17 : decode cX7_restore 17 = .ok (.athrow, 1) := by decide +kernel
theorem dX7_restore_18 : decode cX7_restore 18 = .ok (.aload_n 0, 1) := by decide +kernel
theorem dX7_restore_19 : decode cX7_restore 19 = .ok (.getfield 33, 3) := by decide +kernel
theorem dX7_restore_22 : decode cX7_restore 22 = .ok (.iload_n 1, 1) := by decide +kernel
theorem dX7_restore_23 : decode cX7_restore 23 = .ok (.invokevirtual 285, 3) := by decide +kernel
theorem dX7_restore_26 : decode cX7_restore 26 = .ok (.astore_n 2, 1) := by decide +kernel
theorem dX7_restore_27 : decode cX7_restore 27 = .ok (.aload_n 2, 1) := by decide +kernel
theorem dX7_restore_28 : decode cX7_restore 28 = .ok (.ifnonnull 14, 3) := by decide +kernel
theorem dX7_restore_31 : decode cX7_restore 31 = .ok (.new 86, 3) := by decide +kernel
theorem dX7_restore_34 : decode cX7_restore 34 = .ok (.dup, 1) := by decide +kernel
theorem dX7_restore_35 : decode cX7_restore 35 = .ok (.ldc_w 289, 3) := by decide +kernel
theorem dX7_restore_38 : decode cX7_restore 38 = .ok (.invokespecial 90, 3) := by decide +kernel
theorem dX7_restore_41 : decode cX7_restore 41 = .ok (.athrow, 1) := by decide +kernel
theorem dX7_restore_42 : decode cX7_restore 42 = .ok (.aload_n 0, 1) := by decide +kernel
theorem dX7_restore_43 : decode cX7_restore 43 = .ok (.getfield 26, 3) := by decide +kernel
theorem dX7_restore_46 : decode cX7_restore 46 = .ok (.aload_n 0, 1) := by decide +kernel
theorem dX7_restore_47 : decode cX7_restore 47 = .ok (.getfield 10, 3) := by decide +kernel
theorem dX7_restore_50 : decode cX7_restore 50 = .ok (.invokevirtual 250, 3) := by decide +kernel
theorem dX7_restore_53 : decode cX7_restore 53 = .ok (.aload_n 0, 1) := by decide +kernel
theorem dX7_restore_54 : decode cX7_restore 54 = .ok (.getfield 10, 3) := by decide +kernel
theorem dX7_restore_57 : decode cX7_restore 57 = .ok (.aload_n 2, 1) := by decide +kernel
theorem dX7_restore_58 : decode cX7_restore 58 = .ok (.invokevirtual 115, 3) := by decide +kernel
theorem dX7_restore_61 : decode cX7_restore 61 = .ok (.aload_n 0, 1) := by decide +kernel
theorem dX7_restore_62 : decode cX7_restore 62 = .ok (.getfield 10, 3) := by decide +kernel
theorem dX7_restore_65 : decode cX7_restore 65 = .ok (.getfield 129, 3) := by decide +kernel
theorem dX7_restore_68 : decode cX7_restore 68 = .ok (.ireturn, 1) := by decide +kernel
set_option maxRecDepth 20000 in
theorem ggX7_undo_X0_takeBack : GoodIn wsX7_undo wsX0_takeBack := goodIn_r _ [10, 11, 12, 13, 14, 15, 16, 17, 18, 19, 20, 21, 22, 23, 24, 25, 26, 27, 28, 29, 30, 31, 32, 33, 34, 35, 36, 37, 38, 39, 40, 47, 48, 49, 50, 51, 52, 53, 54, 55, 56, 57, 58, 59, 60, 61, 62, 63, 64, 65, 66] (by decide +kernel) (by decide +kernel)
set_option maxRecDepth 20000 in
theorem gX7_undo_X0_takeBack : GoodIn wsX7_undo (wsV RX7 296 RX0 yX0_takeBack wsX0_takeBack) := goodIn_app (goodIn_of _ (by decide +kernel)) ggX7_undo_X0_takeBack
theorem dX7_undo_0 : decode cX7_undo 0 = .ok (.aload_n 0, 1) := by decide +kernel
theorem dX7_undo_1 : decode cX7_undo 1 = .ok (.getfield 26, 3) := by decide +kernel
theorem dX7_undo_4 : decode cX7_undo 4 = .ok (.getfield 291, 3) := by decide +kernel
theorem dX7_undo_7 : decode cX7_undo 7 = .ok (.ifCond .ne 14, 3) := by decide +kernel
theorem dX7_undo_10 : decode cX7_undo 10 = .ok (.new 86, 3) := by decide +kernel
theorem dX7_undo_13 : decode cX7_undo 13 = .ok (.dup, 1) := by decide +kernel
theorem dX7_undo_14 : decode cX7_undo 14 = .ok (.ldc_w 294, 3) := by decide +kernel
theorem dX7_undo_17 : decode cX7_undo 17 = .ok (.invokespecial 90, 3) := by decide +kernel
theorem dX7_undo_20 : decode cX7_undo 20 = .ok (.athrow, 1) := by decide +kernel
theorem dX7_undo_21 : decode cX7_undo 21 = .ok (.aload_n 0, 1) := by decide +kernel
theorem dX7_undo_22 : decode cX7_undo 22 = .ok (.getfield 26, 3) := by decide +kernel
theorem dX7_undo_25 : decode cX7_undo 25 = .ok (.aload_n 0, 1) := by decide +kernel
theorem dX7_undo_26 : decode cX7_undo 26 = .ok (.getfield 10, 3) := by decide +kernel
theorem dX7_undo_29 : decode cX7_undo 29 = .ok (.invokevirtual 296, 3) := by decide +kernel
theorem dX7_undo_32 : decode cX7_undo 32 = .ok (.aload_n 0, 1) := by decide +kernel
theorem dX7_undo_33 : decode cX7_undo 33 = .ok (.getfield 26, 3) := by decide +kernel
theorem dX7_undo_36 : decode cX7_undo 36 = .ok (.getfield 291, 3) := by decide +kernel
theorem dX7_undo_39 : decode cX7_undo 39 = .ok (.ireturn, 1) := by decide +kernel
set_option maxRecDepth 20000 in
theorem ggX7_save_X7_isSlot : GoodIn wsX7_save wsX7_isSlot := goodIn_r _ [9] (by decide +kernel) (by decide +kernel)
set_option maxRecDepth 20000 in
theorem gX7_save_X7_isSlot : GoodIn wsX7_save (va_wsS RX7 280 yX7_isSlot wsX7_isSlot) := goodIn_app (goodIn_of _ (by decide +kernel)) ggX7_save_X7_isSlot
set_option maxRecDepth 20000 in
theorem ggX7_save_X5_keep : GoodIn wsX7_save wsX5_keep := goodIn_r _ [14, 15, 16, 7, 8, 9, 17, 18, 19, 20, 21, 22, 23, 24, 25, 26, 27, 28, 29, 30, 31, 32, 33, 34, 35, 36, 37, 38, 39, 40, 41, 42, 43, 58, 59, 50, 51, 52, 53, 54, 55, 56, 57, 60, 61, 62, 63, 64, 65, 66, 67, 68] (by decide +kernel) (by decide +kernel)
set_option maxRecDepth 20000 in
theorem gX7_save_X5_keep : GoodIn wsX7_save (wsV RX7 299 RX5 yX5_keep wsX5_keep) := goodIn_app (goodIn_of _ (by decide +kernel)) ggX7_save_X5_keep
theorem dX7_save_0 : decode cX7_save 0 = .ok (.iload_n 1, 1) := by decide +kernel
theorem dX7_save_1 : decode cX7_save 1 = .ok (.invokestatic 280, 3) := by decide +kernel
theorem dX7_save_4 : decode cX7_save 4 = .ok (.ifCond .ne 14, 3) := by decide +kernel
theorem dX7_save_7 : decode cX7_save 7 = .ok (.new 96, 3) := by decide +kernel
theorem dX7_save_10 : decode cX7_save 10 = .ok (.dup, 1) := by decide +kernel
theorem dX7_save_11 : decode cX7_save 11 = .ok (.ldc_w 283, 3) := by decide +kernel
theorem dX7_save_14 : decode cX7_save 14 = .ok (.invokespecial 100, 3) := by decide +kernel
theorem dX7_save_17 : decode cX7_save 17 = .ok (.athrow, 1) := by decide +kernel
theorem dX7_save_18 : decode cX7_save 18 = .ok (.aload_n 0, 1) := by decide +kernel
theorem dX7_save_19 : decode cX7_save 19 = .ok (.getfield 33, 3) := by decide +kernel
theorem dX7_save_22 : decode cX7_save 22 = .ok (.iload_n 1, 1) := by decide +kernel
theorem dX7_save_23 : decode cX7_save 23 = .ok (.aload_n 0, 1) := by decide +kernel
theorem dX7_save_24 : decode cX7_save 24 = .ok (.getfield 10, 3) := by decide +kernel
theorem dX7_save_27 : decode cX7_save 27 = .ok (.invokevirtual 299, 3) := by decide +kernel
theorem dX7_save_30 : decode cX7_save 30 = .ok (.aload_n 0, 1) := by decide +kernel
theorem dX7_save_31 : decode cX7_save 31 = .ok (.getfield 10, 3) := by decide +kernel
theorem dX7_save_34 : decode cX7_save 34 = .ok (.getfield 129, 3) := by decide +kernel
theorem dX7_save_37 : decode cX7_save 37 = .ok (.ireturn, 1) := by decide +kernel
set_option maxRecDepth 20000 in
theorem ggX7_writeInstrument_X7_instrumentAt : GoodIn wsX7_writeInstrument wsX7_instrumentAt := goodIn_ca (goodIn_r _ [10, 11, 12, 4, 13, 14, 15, 16, 17, 18, 19, 78, 79, 80, 81, 82, 83, 95, 96, 97, 98, 99, 100, 101, 102] (by decide +kernel) (by decide +kernel)) (goodIn_sub (fun _ h => List.mem_cons_of_mem _ (List.mem_append_right _ h)) (by decide +kernel))
set_option maxRecDepth 20000 in
theorem gX7_writeInstrument_X7_instrumentAt : GoodIn wsX7_writeInstrument (wsV RX7 151 RX7 yX7_instrumentAt wsX7_instrumentAt) := goodIn_app (goodIn_of _ (by decide +kernel)) ggX7_writeInstrument_X7_instrumentAt
set_option maxRecDepth 20000 in
theorem ggX7_writeInstrument_X2_sign : GoodIn wsX7_writeInstrument wsX2_sign := goodIn_r _ [24, 25, 26, 84, 85] (by decide +kernel) (by decide +kernel)
set_option maxRecDepth 20000 in
theorem gX7_writeInstrument_X2_sign : GoodIn wsX7_writeInstrument (wsV RX7 306 RX2 yX2_sign wsX2_sign) := goodIn_app (goodIn_of _ (by decide +kernel)) ggX7_writeInstrument_X2_sign
set_option maxRecDepth 20000 in
theorem ggX7_writeInstrument_X4_reading : GoodIn wsX7_writeInstrument wsX4_reading := goodIn_r _ [30, 31, 32, 33, 34, 35, 36, 37, 38, 39, 40, 41, 16, 42, 43, 44, 45, 46, 47, 48, 49, 50, 51, 52, 53, 54, 55, 56, 57, 58, 9, 59, 60, 61, 62, 86, 87, 88, 89, 90, 91, 92, 93, 94, 95, 96, 97, 98, 99, 100, 101, 102] (by decide +kernel) (by decide +kernel)
set_option maxRecDepth 20000 in
theorem gX7_writeInstrument_X4_reading : GoodIn wsX7_writeInstrument (wsV RX7 187 RX4 yX4_reading wsX4_reading) := goodIn_app (goodIn_of _ (by decide +kernel)) ggX7_writeInstrument_X4_reading
set_option maxRecDepth 20000 in
theorem ggX7_writeInstrument_X2_number : GoodIn wsX7_writeInstrument wsX2_number := goodIn_r _ [66, 67, 21, 22, 23, 24, 25, 26, 84, 85] (by decide +kernel) (by decide +kernel)
set_option maxRecDepth 20000 in
theorem gX7_writeInstrument_X2_number : GoodIn wsX7_writeInstrument (wsV RX7 309 RX2 yX2_number wsX2_number) := goodIn_app (goodIn_of _ (by decide +kernel)) ggX7_writeInstrument_X2_number
set_option maxRecDepth 20000 in
theorem ggX7_writeInstrument_X4_settled : GoodIn wsX7_writeInstrument wsX4_settled := goodIn_r _ [71, 43, 44, 51, 52, 53, 54, 16, 55, 56, 57, 58, 9, 59, 60, 86, 87, 88, 89, 90, 91, 92, 93, 94, 95, 96, 97, 98, 99, 100, 101, 102] (by decide +kernel) (by decide +kernel)
set_option maxRecDepth 20000 in
theorem gX7_writeInstrument_X4_settled : GoodIn wsX7_writeInstrument (wsV RX7 190 RX4 yX4_settled wsX4_settled) := goodIn_app (goodIn_of _ (by decide +kernel)) ggX7_writeInstrument_X4_settled
set_option maxRecDepth 20000 in
theorem ggX7_writeInstrument_X1_isBoxed : GoodIn wsX7_writeInstrument wsX1_isBoxed := goodIn_r _ [76, 77, 86, 87, 88, 89, 90, 91, 92, 93, 94] (by decide +kernel) (by decide +kernel)
set_option maxRecDepth 20000 in
theorem gX7_writeInstrument_X1_isBoxed : GoodIn wsX7_writeInstrument (wsV RX7 259 RX1 yX1_isBoxed wsX1_isBoxed) := goodIn_app (goodIn_of _ (by decide +kernel)) ggX7_writeInstrument_X1_isBoxed
theorem dX7_writeInstrument_0 : decode cX7_writeInstrument 0 = .ok (.aload_n 0, 1) := by decide +kernel
theorem dX7_writeInstrument_1 : decode cX7_writeInstrument 1 = .ok (.iload_n 1, 1) := by decide +kernel
theorem dX7_writeInstrument_2 : decode cX7_writeInstrument 2 = .ok (.invokevirtual 151, 3) := by decide +kernel
theorem dX7_writeInstrument_5 : decode cX7_writeInstrument 5 = .ok (.astore_n 2, 1) := by decide +kernel
theorem dX7_writeInstrument_6 : decode cX7_writeInstrument 6 = .ok (.aload_n 0, 1) := by decide +kernel
theorem dX7_writeInstrument_7 : decode cX7_writeInstrument 7 = .ok (.getfield 40, 3) := by decide +kernel
theorem dX7_writeInstrument_10 : decode cX7_writeInstrument 10 = .ok (.iconst 0, 1) := by decide +kernel
theorem dX7_writeInstrument_11 : decode cX7_writeInstrument 11 = .ok (.putfield 303, 3) := by decide +kernel
theorem dX7_writeInstrument_14 : decode cX7_writeInstrument 14 = .ok (.aload_n 0, 1) := by decide +kernel
theorem dX7_writeInstrument_15 : decode cX7_writeInstrument 15 = .ok (.getfield 40, 3) := by decide +kernel
theorem dX7_writeInstrument_18 : decode cX7_writeInstrument 18 = .ok (.aload_n 2, 1) := by decide +kernel
theorem dX7_writeInstrument_19 : decode cX7_writeInstrument 19 = .ok (.getfield 155, 3) := by decide +kernel
theorem dX7_writeInstrument_22 : decode cX7_writeInstrument 22 = .ok (.ifCond .eq 8, 3) := by decide +kernel
theorem dX7_writeInstrument_25 : decode cX7_writeInstrument 25 = .ok (.bipush 104, 2) := by decide +kernel
theorem dX7_writeInstrument_27 : decode cX7_writeInstrument 27 = .ok (.goto 5, 3) := by decide +kernel
theorem dX7_writeInstrument_30 : decode cX7_writeInstrument 30 = .ok (.bipush 98, 2) := by decide +kernel
theorem dX7_writeInstrument_32 : decode cX7_writeInstrument 32 = .ok (.invokevirtual 306, 3) := by decide +kernel
theorem dX7_writeInstrument_35 : decode cX7_writeInstrument 35 = .ok (.aload_n 0, 1) := by decide +kernel
theorem dX7_writeInstrument_36 : decode cX7_writeInstrument 36 = .ok (.getfield 40, 3) := by decide +kernel
theorem dX7_writeInstrument_39 : decode cX7_writeInstrument 39 = .ok (.aload_n 0, 1) := by decide +kernel
theorem dX7_writeInstrument_40 : decode cX7_writeInstrument 40 = .ok (.getfield 10, 3) := by decide +kernel
theorem dX7_writeInstrument_43 : decode cX7_writeInstrument 43 = .ok (.aload_n 2, 1) := by decide +kernel
theorem dX7_writeInstrument_44 : decode cX7_writeInstrument 44 = .ok (.invokevirtual 187, 3) := by decide +kernel
theorem dX7_writeInstrument_47 : decode cX7_writeInstrument 47 = .ok (.invokevirtual 309, 3) := by decide +kernel
theorem dX7_writeInstrument_50 : decode cX7_writeInstrument 50 = .ok (.aload_n 0, 1) := by decide +kernel
theorem dX7_writeInstrument_51 : decode cX7_writeInstrument 51 = .ok (.getfield 10, 3) := by decide +kernel
theorem dX7_writeInstrument_54 : decode cX7_writeInstrument 54 = .ok (.aload_n 2, 1) := by decide +kernel
theorem dX7_writeInstrument_55 : decode cX7_writeInstrument 55 = .ok (.invokevirtual 190, 3) := by decide +kernel
theorem dX7_writeInstrument_58 : decode cX7_writeInstrument 58 = .ok (.ifCond .eq 12, 3) := by decide +kernel
theorem dX7_writeInstrument_61 : decode cX7_writeInstrument 61 = .ok (.aload_n 0, 1) := by decide +kernel
theorem dX7_writeInstrument_62 : decode cX7_writeInstrument 62 = .ok (.getfield 40, 3) := by decide +kernel
theorem dX7_writeInstrument_65 : decode cX7_writeInstrument 65 = .ok (.bipush 42, 2) := by decide +kernel
theorem dX7_writeInstrument_67 : decode cX7_writeInstrument 67 = .ok (.invokevirtual 306, 3) := by decide +kernel
theorem dX7_writeInstrument_70 : decode cX7_writeInstrument 70 = .ok (.aload_n 2, 1) := by decide +kernel
theorem dX7_writeInstrument_71 : decode cX7_writeInstrument 71 = .ok (.invokevirtual 259, 3) := by decide +kernel
theorem dX7_writeInstrument_74 : decode cX7_writeInstrument 74 = .ok (.ifCond .eq 23, 3) := by decide +kernel
theorem dX7_writeInstrument_77 : decode cX7_writeInstrument 77 = .ok (.aload_n 0, 1) := by decide +kernel
theorem dX7_writeInstrument_78 : decode cX7_writeInstrument 78 = .ok (.getfield 40, 3) := by decide +kernel
theorem dX7_writeInstrument_81 : decode cX7_writeInstrument 81 = .ok (.bipush 115, 2) := by decide +kernel
theorem dX7_writeInstrument_83 : decode cX7_writeInstrument 83 = .ok (.invokevirtual 306, 3) := by decide +kernel
theorem dX7_writeInstrument_86 : decode cX7_writeInstrument 86 = .ok (.aload_n 0, 1) := by decide +kernel
theorem dX7_writeInstrument_87 : decode cX7_writeInstrument 87 = .ok (.getfield 40, 3) := by decide +kernel
theorem dX7_writeInstrument_90 : decode cX7_writeInstrument 90 = .ok (.aload_n 2, 1) := by decide +kernel
theorem dX7_writeInstrument_91 : decode cX7_writeInstrument 91 = .ok (.getfield 74, 3) := by decide +kernel
theorem dX7_writeInstrument_94 : decode cX7_writeInstrument 94 = .ok (.invokevirtual 309, 3) := by decide +kernel
theorem dX7_writeInstrument_97 : decode cX7_writeInstrument 97 = .ok (.aload_n 0, 1) := by decide +kernel
theorem dX7_writeInstrument_98 : decode cX7_writeInstrument 98 = .ok (.getfield 40, 3) := by decide +kernel
theorem dX7_writeInstrument_101 : decode cX7_writeInstrument 101 = .ok (.getfield 303, 3) := by decide +kernel
theorem dX7_writeInstrument_104 : decode cX7_writeInstrument 104 = .ok (.ireturn, 1) := by decide +kernel
set_option maxRecDepth 20000 in
theorem ggX7_writeReadings_X2_sign : GoodIn wsX7_writeReadings wsX2_sign := goodIn_r _ [10, 11, 12, 62, 63] (by decide +kernel) (by decide +kernel)
set_option maxRecDepth 20000 in
theorem gX7_writeReadings_X2_sign : GoodIn wsX7_writeReadings (wsV RX7 306 RX2 yX2_sign wsX2_sign) := goodIn_app (goodIn_of _ (by decide +kernel)) ggX7_writeReadings_X2_sign
set_option maxRecDepth 20000 in
theorem ggX7_writeReadings_X4_reading : GoodIn wsX7_writeReadings wsX4_reading := goodIn_r _ [17, 18, 19, 20, 21, 22, 23, 24, 25, 26, 27, 28, 16, 29, 30, 31, 32, 33, 34, 35, 36, 37, 38, 39, 40, 41, 42, 43, 44, 45, 46, 47, 48, 49, 50, 72, 73, 74, 75, 76, 77, 78, 79, 80, 64, 65, 66, 67, 68, 69, 70, 71] (by decide +kernel) (by decide +kernel)
set_option maxRecDepth 20000 in
theorem gX7_writeReadings_X4_reading : GoodIn wsX7_writeReadings (wsV RX7 187 RX4 yX4_reading wsX4_reading) := goodIn_app (goodIn_of _ (by decide +kernel)) ggX7_writeReadings_X4_reading
set_option maxRecDepth 20000 in
theorem ggX7_writeReadings_X2_number : GoodIn wsX7_writeReadings wsX2_number := goodIn_r _ [54, 55, 7, 8, 9, 10, 11, 12, 62, 63] (by decide +kernel) (by decide +kernel)
set_option maxRecDepth 20000 in
theorem gX7_writeReadings_X2_number : GoodIn wsX7_writeReadings (wsV RX7 309 RX2 yX2_number wsX2_number) := goodIn_app (goodIn_of _ (by decide +kernel)) ggX7_writeReadings_X2_number
theorem dX7_writeReadings_0 : decode cX7_writeReadings 0 = .ok (.aload_n 0, 1) := by decide +kernel
theorem dX7_writeReadings_1 : decode cX7_writeReadings 1 = .ok (.getfield 40, 3) := by decide +kernel
theorem dX7_writeReadings_4 : decode cX7_writeReadings 4 = .ok (.iconst 0, 1) := by decide +kernel
theorem dX7_writeReadings_5 : decode cX7_writeReadings 5 = .ok (.putfield 303, 3) := by decide +kernel
theorem dX7_writeReadings_8 : decode cX7_writeReadings 8 = .ok (.iconst 0, 1) := by decide +kernel
theorem dX7_writeReadings_9 : decode cX7_writeReadings 9 = .ok (.istore_n 1, 1) := by decide +kernel
theorem dX7_writeReadings_10 : decode cX7_writeReadings 10 = .ok (.iload_n 1, 1) := by decide +kernel
theorem dX7_writeReadings_11 : decode cX7_writeReadings 11 = .ok (.aload_n 0, 1) := by decide +kernel
theorem dX7_writeReadings_12 : decode cX7_writeReadings 12 = .ok (.getfield 10, 3) := by decide +kernel
theorem dX7_writeReadings_15 : decode cX7_writeReadings 15 = .ok (.getfield 123, 3) := by decide +kernel
theorem dX7_writeReadings_18 : decode cX7_writeReadings 18 = .ok (.if_icmp .ge 45, 3) := by decide +kernel
theorem dX7_writeReadings_21 : decode cX7_writeReadings 21 = .ok (.iload_n 1, 1) := by decide +kernel
theorem dX7_writeReadings_22 : decode cX7_writeReadings 22 = .ok (.ifCond .le 12, 3) := by decide +kernel
theorem dX7_writeReadings_25 : decode cX7_writeReadings 25 = .ok (.aload_n 0, 1) := by decide +kernel
theorem dX7_writeReadings_26 : decode cX7_writeReadings 26 = .ok (.getfield 40, 3) := by decide +kernel
theorem dX7_writeReadings_29 : decode cX7_writeReadings 29 = .ok (.bipush 32, 2) := by decide +kernel
theorem dX7_writeReadings_31 : decode cX7_writeReadings 31 = .ok (.invokevirtual 306, 3) := by decide +kernel
theorem dX7_writeReadings_34 : decode cX7_writeReadings 34 = .ok (.aload_n 0, 1) := by decide +kernel
theorem dX7_writeReadings_35 : decode cX7_writeReadings 35 = .ok (.getfield 40, 3) := by decide +kernel
theorem dX7_writeReadings_38 : decode cX7_writeReadings 38 = .ok (.aload_n 0, 1) := by decide +kernel
theorem dX7_writeReadings_39 : decode cX7_writeReadings 39 = .ok (.getfield 10, 3) := by decide +kernel
theorem dX7_writeReadings_42 : decode cX7_writeReadings 42 = .ok (.aload_n 0, 1) := by decide +kernel
theorem dX7_writeReadings_43 : decode cX7_writeReadings 43 = .ok (.getfield 10, 3) := by decide +kernel
theorem dX7_writeReadings_46 : decode cX7_writeReadings 46 = .ok (.getfield 70, 3) := by decide +kernel
theorem dX7_writeReadings_49 : decode cX7_writeReadings 49 = .ok (.iload_n 1, 1) := by decide +kernel
theorem dX7_writeReadings_50 : decode cX7_writeReadings 50 = .ok (.aaload, 1) := by decide +kernel
theorem dX7_writeReadings_51 : decode cX7_writeReadings 51 = .ok (.invokevirtual 187, 3) := by decide +kernel
theorem dX7_writeReadings_54 : decode cX7_writeReadings 54 = .ok (.invokevirtual 309, 3) := by decide +kernel
theorem dX7_writeReadings_57 : decode cX7_writeReadings 57 = .ok (.iinc 1 1, 3) := by decide +kernel
theorem dX7_writeReadings_60 : decode cX7_writeReadings 60 = .ok (.goto (-50), 3) := by decide +kernel
theorem dX7_writeReadings_63 : decode cX7_writeReadings 63 = .ok (.aload_n 0, 1) := by decide +kernel
theorem dX7_writeReadings_64 : decode cX7_writeReadings 64 = .ok (.getfield 40, 3) := by decide +kernel
theorem dX7_writeReadings_67 : decode cX7_writeReadings 67 = .ok (.getfield 303, 3) := by decide +kernel
theorem dX7_writeReadings_70 : decode cX7_writeReadings 70 = .ok (.ireturn, 1) := by decide +kernel
theorem dX7_outputByte_0 : decode cX7_outputByte 0 = .ok (.iload_n 1, 1) := by decide +kernel
theorem dX7_outputByte_1 : decode cX7_outputByte 1 = .ok (.ifCond .lt 14, 3) := by decide +kernel
theorem dX7_outputByte_4 : decode cX7_outputByte 4 = .ok (.iload_n 1, 1) := by decide +kernel
theorem dX7_outputByte_5 : decode cX7_outputByte 5 = .ok (.aload_n 0, 1) := by decide +kernel
theorem dX7_outputByte_6 : decode cX7_outputByte 6 = .ok (.getfield 40, 3) := by decide +kernel
theorem dX7_outputByte_9 : decode cX7_outputByte 9 = .ok (.getfield 303, 3) := by decide +kernel
theorem dX7_outputByte_12 : decode cX7_outputByte 12 = .ok (.if_icmp .lt 14, 3) := by decide +kernel
theorem dX7_outputByte_15 : decode cX7_outputByte 15 = .ok (.new 96, 3) := by decide +kernel
theorem dX7_outputByte_18 : decode cX7_outputByte 18 = .ok (.dup, 1) := by decide +kernel
theorem dX7_outputByte_19 : decode cX7_outputByte 19 = .ok (.ldc_w 312, 3) := by decide +kernel
theorem dX7_outputByte_22 : decode cX7_outputByte 22 = .ok (.invokespecial 100, 3) := by decide +kernel
theorem dX7_outputByte_25 : decode cX7_outputByte 25 = .ok (.athrow, 1) := by decide +kernel
theorem dX7_outputByte_26 : decode cX7_outputByte 26 = .ok (.aload_n 0, 1) := by decide +kernel
theorem dX7_outputByte_27 : decode cX7_outputByte 27 = .ok (.getfield 40, 3) := by decide +kernel
theorem dX7_outputByte_30 : decode cX7_outputByte 30 = .ok (.getfield 314, 3) := by decide +kernel
theorem dX7_outputByte_33 : decode cX7_outputByte 33 = .ok (.iload_n 1, 1) := by decide +kernel
theorem dX7_outputByte_34 : decode cX7_outputByte 34 = .ok (.baload, 1) := by decide +kernel
theorem dX7_outputByte_35 : decode cX7_outputByte 35 = .ok (.ireturn, 1) := by decide +kernel
set_option maxRecDepth 20000 in
theorem ggX7_instrumentAt_X4_find : GoodIn wsX7_instrumentAt wsX4_find := goodIn_r _ [8, 9, 10, 17, 18, 19, 20, 21, 22, 23, 24] (by decide +kernel) (by decide +kernel)
set_option maxRecDepth 20000 in
theorem gX7_instrumentAt_X4_find : GoodIn wsX7_instrumentAt (wsV RX7 318 RX4 yX4_find wsX4_find) := goodIn_app (goodIn_of _ (by decide +kernel)) ggX7_instrumentAt_X4_find
theorem dX7_instrumentAt_0 : decode cX7_instrumentAt 0 = .ok (.aload_n 0, 1) := by decide +kernel
theorem dX7_instrumentAt_1 : decode cX7_instrumentAt 1 = .ok (.getfield 10, 3) := by decide +kernel
theorem dX7_instrumentAt_4 : decode cX7_instrumentAt 4 = .ok (.iload_n 1, 1) := by decide +kernel
theorem dX7_instrumentAt_5 : decode cX7_instrumentAt 5 = .ok (.invokevirtual 318, 3) := by decide +kernel
theorem dX7_instrumentAt_8 : decode cX7_instrumentAt 8 = .ok (.astore_n 2, 1) := by decide +kernel
theorem dX7_instrumentAt_9 : decode cX7_instrumentAt 9 = .ok (.aload_n 2, 1) := by decide +kernel
theorem dX7_instrumentAt_10 : decode cX7_instrumentAt 10 = .ok (.ifnonnull 14, 3) := by decide +kernel
theorem dX7_instrumentAt_13 : decode cX7_instrumentAt 13 = .ok (.new 96, 3) := by decide +kernel
theorem dX7_instrumentAt_16 : decode cX7_instrumentAt 16 = .ok (.dup, 1) := by decide +kernel
theorem dX7_instrumentAt_17 : decode cX7_instrumentAt 17 = .ok (.ldc_w 320, 3) := by decide +kernel
theorem dX7_instrumentAt_20 : decode cX7_instrumentAt 20 = .ok (.invokespecial 100, 3) := by decide +kernel
theorem dX7_instrumentAt_23 : decode cX7_instrumentAt 23 = .ok (.athrow, 1) := by decide +kernel
theorem dX7_instrumentAt_24 : decode cX7_instrumentAt 24 = .ok (.aload_n 2, 1) := by decide +kernel
theorem dX7_instrumentAt_25 : decode cX7_instrumentAt 25 = .ok (.areturn, 1) := by decide +kernel
theorem dX7_isSalt_0 : decode cX7_isSalt 0 = .ok (.iload_n 0, 1) := by decide +kernel
theorem dX7_isSalt_1 : decode cX7_isSalt 1 = .ok (.ifCond .lt 15, 3) := by decide +kernel
theorem dX7_isSalt_4 : decode cX7_isSalt 4 = .ok (.iload_n 0, 1) := by decide +kernel
theorem dX7_isSalt_5 : decode cX7_isSalt 5 = .ok (.getstatic 322, 3) := by decide +kernel
theorem dX7_isSalt_8 : decode cX7_isSalt 8 = .ok (.arraylength, 1) := by decide +kernel
theorem dX7_isSalt_9 : decode cX7_isSalt 9 = .ok (.if_icmp .ge 7, 3) := by decide +kernel
theorem dX7_isSalt_12 : decode cX7_isSalt 12 = .ok (.iconst 1, 1) := by decide +kernel
theorem dX7_isSalt_13 : decode cX7_isSalt 13 = .ok (.goto 4, 3) := by decide +kernel
theorem dX7_isSalt_16 : decode cX7_isSalt 16 = .ok (.iconst 0, 1) := by decide +kernel
theorem dX7_isSalt_17 : decode cX7_isSalt 17 = .ok (.ireturn, 1) := by decide +kernel
theorem dX7_isSlot_0 : decode cX7_isSlot 0 = .ok (.iload_n 0, 1) := by decide +kernel
theorem dX7_isSlot_1 : decode cX7_isSlot 1 = .ok (.ifCond .lt 12, 3) := by decide +kernel
theorem dX7_isSlot_4 : decode cX7_isSlot 4 = .ok (.iload_n 0, 1) := by decide +kernel
theorem dX7_isSlot_5 : decode cX7_isSlot 5 = .ok (.iconst 2, 1) := by decide +kernel
theorem dX7_isSlot_6 : decode cX7_isSlot 6 = .ok (.if_icmp .ge 7, 3) := by decide +kernel
theorem dX7_isSlot_9 : decode cX7_isSlot 9 = .ok (.iconst 1, 1) := by decide +kernel
theorem dX7_isSlot_10 : decode cX7_isSlot 10 = .ok (.goto 4, 3) := by decide +kernel
theorem dX7_isSlot_13 : decode cX7_isSlot 13 = .ok (.iconst 0, 1) := by decide +kernel
theorem dX7_isSlot_14 : decode cX7_isSlot 14 = .ok (.ireturn, 1) := by decide +kernel
theorem dX7_fixedPointOr_0 : decode cX7_fixedPointOr 0 = .ok (.iload_n 0, 1) := by decide +kernel
theorem dX7_fixedPointOr_1 : decode cX7_fixedPointOr 1 = .ok (.ifCond .lt 19, 3) := by decide +kernel
theorem dX7_fixedPointOr_4 : decode cX7_fixedPointOr 4 = .ok (.iload_n 0, 1) := by decide +kernel
theorem dX7_fixedPointOr_5 : decode cX7_fixedPointOr 5 = .ok (.getstatic 322, 3) := by decide +kernel
theorem dX7_fixedPointOr_8 : decode cX7_fixedPointOr 8 = .ok (.arraylength, 1) := by decide +kernel
theorem dX7_fixedPointOr_9 : decode cX7_fixedPointOr 9 = .ok (.if_icmp .ge 11, 3) := by decide +kernel
theorem dX7_fixedPointOr_12 : decode cX7_fixedPointOr 12 = .ok (.getstatic 322, 3) := by decide +kernel
theorem dX7_fixedPointOr_15 : decode cX7_fixedPointOr 15 = .ok (.iload_n 0, 1) := by decide +kernel
theorem dX7_fixedPointOr_16 : decode cX7_fixedPointOr 16 = .ok (.iaload, 1) := by decide +kernel
theorem dX7_fixedPointOr_17 : decode cX7_fixedPointOr 17 = .ok (.goto 4, 3) := by decide +kernel
theorem dX7_fixedPointOr_20 : decode cX7_fixedPointOr 20 = .ok (.iload_n 1, 1) := by decide +kernel
theorem dX7_fixedPointOr_21 : decode cX7_fixedPointOr 21 = .ok (.ireturn, 1) := by decide +kernel
theorem dX7_quotient_0 : decode cX7_quotient 0 = .ok (.iload_n 1, 1) := by decide +kernel
theorem dX7_quotient_1 : decode cX7_quotient 1 = .ok (.ifCond .ne 7, 3) := by decide +kernel
theorem dX7_quotient_4 : decode cX7_quotient 4 = .ok (.iconst 0, 1) := by decide +kernel
theorem dX7_quotient_5 : decode cX7_quotient 5 = .ok (.goto 6, 3) := by decide +kernel
theorem dX7_quotient_8 : decode cX7_quotient 8 = .ok (.iload_n 0, 1) := by decide +kernel
theorem dX7_quotient_9 : decode cX7_quotient 9 = .ok (.iload_n 1, 1) := by decide +kernel
theorem dX7_quotient_10 : decode cX7_quotient 10 = .ok (.idiv, 1) := by decide +kernel
theorem dX7_quotient_11 : decode cX7_quotient 11 = .ok (.ireturn, 1) := by decide +kernel
set_option maxRecDepth 20000 in
theorem ggX8_init_X8_hangsHair : GoodIn wsX8_init wsX8_hangsHair := goodIn_r _ [19, 7, 20, 21, 22, 18, 23, 24, 25, 26, 67, 68, 69, 70, 71, 72, 73, 74, 75, 76, 77, 78, 79, 80, 81, 82, 83, 84, 85, 86, 87, 88] (by decide +kernel) (by decide +kernel)
set_option maxRecDepth 20000 in
theorem gX8_init_X8_hangsHair : GoodIn wsX8_init (wsV RX8 39 RX8 yX8_hangsHair wsX8_hangsHair) := goodIn_app (goodIn_of _ (by decide +kernel)) ggX8_init_X8_hangsHair
set_option maxRecDepth 20000 in
theorem ggX8_init_X8_hangsBulb : GoodIn wsX8_init wsX8_hangsBulb := goodIn_r _ [30, 7, 20, 21, 22, 18, 23, 24, 25, 26, 67, 68, 69, 70, 71, 72, 73, 74, 75, 76, 77, 78, 79, 80, 81, 82, 83, 84, 85, 86, 87, 88] (by decide +kernel) (by decide +kernel)
set_option maxRecDepth 20000 in
theorem gX8_init_X8_hangsBulb : GoodIn wsX8_init (wsV RX8 43 RX8 yX8_hangsBulb wsX8_hangsBulb) := goodIn_app (goodIn_of _ (by decide +kernel)) ggX8_init_X8_hangsBulb
set_option maxRecDepth 20000 in
theorem ggX8_init_X8_passes : GoodIn wsX8_init wsX8_passes := goodIn_r _ [34, 35, 36, 37, 18, 38, 7, 39, 40, 41, 42, 24, 25, 26, 43, 44, 45, 46, 47, 48, 49, 50, 51, 52, 53, 54, 5, 55, 56, 57, 58, 59, 60, 61, 62, 63, 64, 65, 66, 67, 68, 69, 70, 71, 72, 73, 74, 75, 76, 77, 78, 79, 80, 81, 82, 83, 84, 85, 86, 87, 88] (by decide +kernel) (by decide +kernel)
set_option maxRecDepth 20000 in
theorem gX8_init_X8_passes : GoodIn wsX8_init (wsV RX8 46 RX8 yX8_passes wsX8_passes) := goodIn_app (goodIn_of _ (by decide +kernel)) ggX8_init_X8_passes
set_option maxRecDepth 20000 in
theorem ggX8_init_X8_i : GoodIn wsX8_init wsX8_i := goodIn_r _ [26] (by decide +kernel) (by decide +kernel)
set_option maxRecDepth 20000 in
theorem gX8_init_X8_i : GoodIn wsX8_init (va_wsS RX8 50 yX8_i wsX8_i) := goodIn_app (goodIn_of _ (by decide +kernel)) ggX8_init_X8_i
theorem dX8_init_0 : decode cX8_init 0 = .ok (.aload_n 0, 1) := by decide +kernel
theorem dX8_init_1 : decode cX8_init 1 = .ok (.invokespecial 1, 3) := by decide +kernel
theorem dX8_init_4 : decode cX8_init 4 = .ok (.aload_n 0, 1) := by decide +kernel
theorem dX8_init_5 : decode cX8_init 5 = .ok (.iconst 4, 1) := by decide +kernel
theorem dX8_init_6 : decode cX8_init 6 = .ok (.newarray .int, 2) := by decide +kernel
theorem dX8_init_8 : decode cX8_init 8 = .ok (.dup, 1) := by decide +kernel
theorem dX8_init_9 : decode cX8_init 9 = .ok (.iconst 0, 1) := by decide +kernel
theorem dX8_init_10 : decode cX8_init 10 = .ok (.bipush 33, 2) := by decide +kernel
theorem dX8_init_12 : decode cX8_init 12 = .ok (.iastore, 1) := by decide +kernel
theorem dX8_init_13 : decode cX8_init 13 = .ok (.dup, 1) := by decide +kernel
theorem dX8_init_14 : decode cX8_init 14 = .ok (.iconst 1, 1) := by decide +kernel
theorem dX8_init_15 : decode cX8_init 15 = .ok (.bipush 43, 2) := by decide +kernel
theorem dX8_init_17 : decode cX8_init 17 = .ok (.iastore, 1) := by decide +kernel
theorem dX8_init_18 : decode cX8_init 18 = .ok (.dup, 1) := by decide +kernel
theorem dX8_init_19 : decode cX8_init 19 = .ok (.iconst 2, 1) := by decide +kernel
theorem dX8_init_20 : decode cX8_init 20 = .ok (.bipush 75, 2) := by decide +kernel
theorem dX8_init_22 : decode cX8_init 22 = .ok (.iastore, 1) := by decide +kernel
theorem dX8_init_23 : decode cX8_init 23 = .ok (.dup, 1) := by decide +kernel
theorem dX8_init_24 : decode cX8_init 24 = .ok (.iconst 3, 1) := by decide +kernel
theorem dX8_init_25 : decode cX8_init 25 = .ok (.bipush 97, 2) := by decide +kernel
theorem dX8_init_27 : decode cX8_init 27 = .ok (.iastore, 1) := by decide +kernel
theorem dX8_init_28 : decode cX8_init 28 = .ok (.putfield 7, 3) := by decide +kernel
theorem dX8_init_31 : decode cX8_init 31 = .ok (.aload_n 0, 1) := by decide +kernel
theorem dX8_init_32 : decode cX8_init 32 = .ok (.bipush 72, 2) := by decide +kernel
theorem dX8_init_34 : decode cX8_init 34 = .ok (.newarray .int, 2) := by decide +kernel
theorem dX8_init_36 : decode cX8_init 36 = .ok (.dup, 1) := by decide +kernel
theorem dX8_init_37 : decode cX8_init 37 = .ok (.iconst 0, 1) := by decide +kernel
theorem dX8_init_38 : decode cX8_init 38 = .ok (.bipush 114, 2) := by decide +kernel
theorem dX8_init_40 : decode cX8_init 40 = .ok (.iastore, 1) := by decide +kernel
theorem dX8_init_41 : decode cX8_init 41 = .ok (.dup, 1) := by decide +kernel
theorem dX8_init_42 : decode cX8_init 42 = .ok (.iconst 1, 1) := by decide +kernel
theorem dX8_init_43 : decode cX8_init 43 = .ok (.bipush 111, 2) := by decide +kernel
theorem dX8_init_45 : decode cX8_init 45 = .ok (.iastore, 1) := by decide +kernel
theorem dX8_init_46 : decode cX8_init 46 = .ok (.dup, 1) := by decide +kernel
theorem dX8_init_47 : decode cX8_init 47 = .ok (.iconst 2, 1) := by decide +kernel
theorem dX8_init_48 : decode cX8_init 48 = .ok (.bipush 111, 2) := by decide +kernel
theorem dX8_init_50 : decode cX8_init 50 = .ok (.iastore, 1) := by decide +kernel
theorem dX8_init_51 : decode cX8_init 51 = .ok (.dup, 1) := by decide +kernel
theorem dX8_init_52 : decode cX8_init 52 = .ok (.iconst 3, 1) := by decide +kernel
theorem dX8_init_53 : decode cX8_init 53 = .ok (.bipush 109, 2) := by decide +kernel
theorem dX8_init_55 : decode cX8_init 55 = .ok (.iastore, 1) := by decide +kernel
theorem dX8_init_56 : decode cX8_init 56 = .ok (.dup, 1) := by decide +kernel
theorem dX8_init_57 : decode cX8_init 57 = .ok (.iconst 4, 1) := by decide +kernel
theorem dX8_init_58 : decode cX8_init 58 = .ok (.iconst 0, 1) := by decide +kernel
theorem dX8_init_59 : decode cX8_init 59 = .ok (.iastore, 1) := by decide +kernel
theorem dX8_init_60 : decode cX8_init 60 = .ok (.dup, 1) := by decide +kernel
theorem dX8_init_61 : decode cX8_init 61 = .ok (.iconst 5, 1) := by decide +kernel
theorem dX8_init_62 : decode cX8_init 62 = .ok (.iconst 0, 1) := by decide +kernel
theorem dX8_init_63 : decode cX8_init 63 = .ok (.iastore, 1) := by decide +kernel
theorem dX8_init_64 : decode cX8_init 64 = .ok (.dup, 1) := by decide +kernel
theorem dX8_init_65 : decode cX8_init 65 = .ok (.bipush 6, 2) := by decide +kernel
theorem dX8_init_67 : decode cX8_init 67 = .ok (.iconst 0, 1) := by decide +kernel
theorem dX8_init_68 : decode cX8_init 68 = .ok (.iastore, 1) := by decide +kernel
theorem dX8_init_69 : decode cX8_init 69 = .ok (.dup, 1) := by decide +kernel
theorem dX8_init_70 : decode cX8_init 70 = .ok (.bipush 7, 2) := by decide +kernel
theorem dX8_init_72 : decode cX8_init 72 = .ok (.iconst 0, 1) := by decide +kernel
theorem dX8_init_73 : decode cX8_init 73 = .ok (.iastore, 1) := by decide +kernel
theorem dX8_init_74 : decode cX8_init 74 = .ok (.dup, 1) := by decide +kernel
theorem dX8_init_75 : decode cX8_init 75 = .ok (.bipush 8, 2) := by decide +kernel
theorem dX8_init_77 : decode cX8_init 77 = .ok (.bipush 104, 2) := by decide +kernel
theorem dX8_init_79 : decode cX8_init 79 = .ok (.iastore, 1) := by decide +kernel
theorem dX8_init_80 : decode cX8_init 80 = .ok (.dup, 1) := by decide +kernel
theorem dX8_init_81 : decode cX8_init 81 = .ok (.bipush 9, 2) := by decide +kernel
theorem dX8_init_83 : decode cX8_init 83 = .ok (.bipush 97, 2) := by decide +kernel
theorem dX8_init_85 : decode cX8_init 85 = .ok (.iastore, 1) := by decide +kernel
theorem dX8_init_86 : decode cX8_init 86 = .ok (.dup, 1) := by decide +kernel
theorem dX8_init_87 : decode cX8_init 87 = .ok (.bipush 10, 2) := by decide +kernel
theorem dX8_init_89 : decode cX8_init 89 = .ok (.bipush 105, 2) := by decide +kernel
theorem dX8_init_91 : decode cX8_init 91 = .ok (.iastore, 1) := by decide +kernel
theorem dX8_init_92 : decode cX8_init 92 = .ok (.dup, 1) := by decide +kernel
theorem dX8_init_93 : decode cX8_init 93 = .ok (.bipush 11, 2) := by decide +kernel
theorem dX8_init_95 : decode cX8_init 95 = .ok (.bipush 114, 2) := by decide +kernel
theorem dX8_init_97 : decode cX8_init 97 = .ok (.iastore, 1) := by decide +kernel
theorem dX8_init_98 : decode cX8_init 98 = .ok (.dup, 1) := by decide +kernel
theorem dX8_init_99 : decode cX8_init 99 = .ok (.bipush 12, 2) := by decide +kernel
theorem dX8_init_101 : decode cX8_init 101 = .ok (.iconst 0, 1) := by decide +kernel
theorem dX8_init_102 : decode cX8_init 102 = .ok (.iastore, 1) := by decide +kernel
theorem dX8_init_103 : decode cX8_init 103 = .ok (.dup, 1) := by decide +kernel
theorem dX8_init_104 : decode cX8_init 104 = .ok (.bipush 13, 2) := by decide +kernel
theorem dX8_init_106 : decode cX8_init 106 = .ok (.iconst 0, 1) := by decide +kernel
theorem dX8_init_107 : decode cX8_init 107 = .ok (.iastore, 1) := by decide +kernel
theorem dX8_init_108 : decode cX8_init 108 = .ok (.dup, 1) := by decide +kernel
theorem dX8_init_109 : decode cX8_init 109 = .ok (.bipush 14, 2) := by decide +kernel
theorem dX8_init_111 : decode cX8_init 111 = .ok (.iconst 0, 1) := by decide +kernel
theorem dX8_init_112 : decode cX8_init 112 = .ok (.iastore, 1) := by decide +kernel
theorem dX8_init_113 : decode cX8_init 113 = .ok (.dup, 1) := by decide +kernel
theorem dX8_init_114 : decode cX8_init 114 = .ok (.bipush 15, 2) := by decide +kernel
theorem dX8_init_116 : decode cX8_init 116 = .ok (.iconst 0, 1) := by decide +kernel
theorem dX8_init_117 : decode cX8_init 117 = .ok (.iastore, 1) := by decide +kernel
theorem dX8_init_118 : decode cX8_init 118 = .ok (.dup, 1) := by decide +kernel
theorem dX8_init_119 : decode cX8_init 119 = .ok (.bipush 16, 2) := by decide +kernel
theorem dX8_init_121 : decode cX8_init 121 = .ok (.bipush 98, 2) := by decide +kernel
theorem dX8_init_123 : decode cX8_init 123 = .ok (.iastore, 1) := by decide +kernel
theorem dX8_init_124 : decode cX8_init 124 = .ok (.dup, 1) := by decide +kernel
theorem dX8_init_125 : decode cX8_init 125 = .ok (.bipush 17, 2) := by decide +kernel
theorem dX8_init_127 : decode cX8_init 127 = .ok (.bipush 117, 2) := by decide +kernel
theorem dX8_init_129 : decode cX8_init 129 = .ok (.iastore, 1) := by decide +kernel
theorem dX8_init_130 : decode cX8_init 130 = .ok (.dup, 1) := by decide +kernel
theorem dX8_init_131 : decode cX8_init 131 = .ok (.bipush 18, 2) := by decide +kernel
theorem dX8_init_133 : decode cX8_init 133 = .ok (.bipush 108, 2) := by decide +kernel
theorem dX8_init_135 : decode cX8_init 135 = .ok (.iastore, 1) := by decide +kernel
theorem dX8_init_136 : decode cX8_init 136 = .ok (.dup, 1) := by decide +kernel
theorem dX8_init_137 : decode cX8_init 137 = .ok (.bipush 19, 2) := by decide +kernel
theorem dX8_init_139 : decode cX8_init 139 = .ok (.bipush 98, 2) := by decide +kernel
theorem dX8_init_141 : decode cX8_init 141 = .ok (.iastore, 1) := by decide +kernel
theorem dX8_init_142 : decode cX8_init 142 = .ok (.dup, 1) := by decide +kernel
theorem dX8_init_143 : decode cX8_init 143 = .ok (.bipush 20, 2) := by decide +kernel
theorem dX8_init_145 : decode cX8_init 145 = .ok (.iconst 0, 1) := by decide +kernel
theorem dX8_init_146 : decode cX8_init 146 = .ok (.iastore, 1) := by decide +kernel
theorem dX8_init_147 : decode cX8_init 147 = .ok (.dup, 1) := by decide +kernel
theorem dX8_init_148 : decode cX8_init 148 = .ok (.bipush 21, 2) := by decide +kernel
theorem dX8_init_150 : decode cX8_init 150 = .ok (.iconst 0, 1) := by decide +kernel
theorem dX8_init_151 : decode cX8_init 151 = .ok (.iastore, 1) := by decide +kernel
theorem dX8_init_152 : decode cX8_init 152 = .ok (.dup, 1) := by decide +kernel
theorem dX8_init_153 : decode cX8_init 153 = .ok (.bipush 22, 2) := by decide +kernel
theorem dX8_init_155 : decode cX8_init 155 = .ok (.iconst 0, 1) := by decide +kernel
theorem dX8_init_156 : decode cX8_init 156 = .ok (.iastore, 1) := by decide +kernel
theorem dX8_init_157 : decode cX8_init 157 = .ok (.dup, 1) := by decide +kernel
theorem dX8_init_158 : decode cX8_init 158 = .ok (.bipush 23, 2) := by decide +kernel
theorem dX8_init_160 : decode cX8_init 160 = .ok (.iconst 0, 1) := by decide +kernel
theorem dX8_init_161 : decode cX8_init 161 = .ok (.iastore, 1) := by decide +kernel
theorem dX8_init_162 : decode cX8_init 162 = .ok (.dup, 1) := by decide +kernel
theorem dX8_init_163 : decode cX8_init 163 = .ok (.bipush 24, 2) := by decide +kernel
theorem dX8_init_165 : decode cX8_init 165 = .ok (.bipush 98, 2) := by decide +kernel
theorem dX8_init_167 : decode cX8_init 167 = .ok (.iastore, 1) := by decide +kernel
theorem dX8_init_168 : decode cX8_init 168 = .ok (.dup, 1) := by decide +kernel
theorem dX8_init_169 : decode cX8_init 169 = .ok (.bipush 25, 2) := by decide +kernel
theorem dX8_init_171 : decode cX8_init 171 = .ok (.bipush 111, 2) := by decide +kernel
theorem dX8_init_173 : decode cX8_init 173 = .ok (.iastore, 1) := by decide +kernel
theorem dX8_init_174 : decode cX8_init 174 = .ok (.dup, 1) := by decide +kernel
theorem dX8_init_175 : decode cX8_init 175 = .ok (.bipush 26, 2) := by decide +kernel
theorem dX8_init_177 : decode cX8_init 177 = .ok (.bipush 120, 2) := by decide +kernel
theorem dX8_init_179 : decode cX8_init 179 = .ok (.iastore, 1) := by decide +kernel
theorem dX8_init_180 : decode cX8_init 180 = .ok (.dup, 1) := by decide +kernel
theorem dX8_init_181 : decode cX8_init 181 = .ok (.bipush 27, 2) := by decide +kernel
theorem dX8_init_183 : decode cX8_init 183 = .ok (.iconst 0, 1) := by decide +kernel
theorem dX8_init_184 : decode cX8_init 184 = .ok (.iastore, 1) := by decide +kernel
theorem dX8_init_185 : decode cX8_init 185 = .ok (.dup, 1) := by decide +kernel
theorem dX8_init_186 : decode cX8_init 186 = .ok (.bipush 28, 2) := by decide +kernel
theorem dX8_init_188 : decode cX8_init 188 = .ok (.iconst 0, 1) := by decide +kernel
theorem dX8_init_189 : decode cX8_init 189 = .ok (.iastore, 1) := by decide +kernel
theorem dX8_init_190 : decode cX8_init 190 = .ok (.dup, 1) := by decide +kernel
theorem dX8_init_191 : decode cX8_init 191 = .ok (.bipush 29, 2) := by decide +kernel
theorem dX8_init_193 : decode cX8_init 193 = .ok (.iconst 0, 1) := by decide +kernel
theorem dX8_init_194 : decode cX8_init 194 = .ok (.iastore, 1) := by decide +kernel
theorem dX8_init_195 : decode cX8_init 195 = .ok (.dup, 1) := by decide +kernel
theorem dX8_init_196 : decode cX8_init 196 = .ok (.bipush 30, 2) := by decide +kernel
theorem dX8_init_198 : decode cX8_init 198 = .ok (.iconst 0, 1) := by decide +kernel
theorem dX8_init_199 : decode cX8_init 199 = .ok (.iastore, 1) := by decide +kernel
theorem dX8_init_200 : decode cX8_init 200 = .ok (.dup, 1) := by decide +kernel
theorem dX8_init_201 : decode cX8_init 201 = .ok (.bipush 31, 2) := by decide +kernel
theorem dX8_init_203 : decode cX8_init 203 = .ok (.iconst 0, 1) := by decide +kernel
theorem dX8_init_204 : decode cX8_init 204 = .ok (.iastore, 1) := by decide +kernel
theorem dX8_init_205 : decode cX8_init 205 = .ok (.dup, 1) := by decide +kernel
theorem dX8_init_206 : decode cX8_init 206 = .ok (.bipush 32, 2) := by decide +kernel
theorem dX8_init_208 : decode cX8_init 208 = .ok (.bipush 111, 2) := by decide +kernel
theorem dX8_init_210 : decode cX8_init 210 = .ok (.iastore, 1) := by decide +kernel
theorem dX8_init_211 : decode cX8_init 211 = .ok (.dup, 1) := by decide +kernel
theorem dX8_init_212 : decode cX8_init 212 = .ok (.bipush 33, 2) := by decide +kernel
theorem dX8_init_214 : decode cX8_init 214 = .ok (.bipush 117, 2) := by decide +kernel
theorem dX8_init_216 : decode cX8_init 216 = .ok (.iastore, 1) := by decide +kernel
theorem dX8_init_217 : decode cX8_init 217 = .ok (.dup, 1) := by decide +kernel
theorem dX8_init_218 : decode cX8_init 218 = .ok (.bipush 34, 2) := by decide +kernel
theorem dX8_init_220 : decode cX8_init 220 = .ok (.bipush 116, 2) := by decide +kernel
theorem dX8_init_222 : decode cX8_init 222 = .ok (.iastore, 1) := by decide +kernel
theorem dX8_init_223 : decode cX8_init 223 = .ok (.dup, 1) := by decide +kernel
theorem dX8_init_224 : decode cX8_init 224 = .ok (.bipush 35, 2) := by decide +kernel
theorem dX8_init_226 : decode cX8_init 226 = .ok (.iconst 0, 1) := by decide +kernel
theorem dX8_init_227 : decode cX8_init 227 = .ok (.iastore, 1) := by decide +kernel
theorem dX8_init_228 : decode cX8_init 228 = .ok (.dup, 1) := by decide +kernel
theorem dX8_init_229 : decode cX8_init 229 = .ok (.bipush 36, 2) := by decide +kernel
theorem dX8_init_231 : decode cX8_init 231 = .ok (.iconst 0, 1) := by decide +kernel
theorem dX8_init_232 : decode cX8_init 232 = .ok (.iastore, 1) := by decide +kernel
theorem dX8_init_233 : decode cX8_init 233 = .ok (.dup, 1) := by decide +kernel
theorem dX8_init_234 : decode cX8_init 234 = .ok (.bipush 37, 2) := by decide +kernel
theorem dX8_init_236 : decode cX8_init 236 = .ok (.iconst 0, 1) := by decide +kernel
theorem dX8_init_237 : decode cX8_init 237 = .ok (.iastore, 1) := by decide +kernel
theorem dX8_init_238 : decode cX8_init 238 = .ok (.dup, 1) := by decide +kernel
theorem dX8_init_239 : decode cX8_init 239 = .ok (.bipush 38, 2) := by decide +kernel
theorem dX8_init_241 : decode cX8_init 241 = .ok (.iconst 0, 1) := by decide +kernel
theorem dX8_init_242 : decode cX8_init 242 = .ok (.iastore, 1) := by decide +kernel
theorem dX8_init_243 : decode cX8_init 243 = .ok (.dup, 1) := by decide +kernel
theorem dX8_init_244 : decode cX8_init 244 = .ok (.bipush 39, 2) := by decide +kernel
theorem dX8_init_246 : decode cX8_init 246 = .ok (.iconst 0, 1) := by decide +kernel
theorem dX8_init_247 : decode cX8_init 247 = .ok (.iastore, 1) := by decide +kernel
theorem dX8_init_248 : decode cX8_init 248 = .ok (.dup, 1) := by decide +kernel
theorem dX8_init_249 : decode cX8_init 249 = .ok (.bipush 40, 2) := by decide +kernel
theorem dX8_init_251 : decode cX8_init 251 = .ok (.bipush 116, 2) := by decide +kernel
theorem dX8_init_253 : decode cX8_init 253 = .ok (.iastore, 1) := by decide +kernel
theorem dX8_init_254 : decode cX8_init 254 = .ok (.dup, 1) := by decide +kernel
theorem dX8_init_255 : decode cX8_init 255 = .ok (.bipush 41, 2) := by decide +kernel
theorem dX8_init_257 : decode cX8_init 257 = .ok (.bipush 105, 2) := by decide +kernel
theorem dX8_init_259 : decode cX8_init 259 = .ok (.iastore, 1) := by decide +kernel
theorem dX8_init_260 : decode cX8_init 260 = .ok (.dup, 1) := by decide +kernel
theorem dX8_init_261 : decode cX8_init 261 = .ok (.bipush 42, 2) := by decide +kernel
theorem dX8_init_263 : decode cX8_init 263 = .ok (.bipush 103, 2) := by decide +kernel
theorem dX8_init_265 : decode cX8_init 265 = .ok (.iastore, 1) := by decide +kernel
theorem dX8_init_266 : decode cX8_init 266 = .ok (.dup, 1) := by decide +kernel
theorem dX8_init_267 : decode cX8_init 267 = .ok (.bipush 43, 2) := by decide +kernel
theorem dX8_init_269 : decode cX8_init 269 = .ok (.bipush 104, 2) := by decide +kernel
theorem dX8_init_271 : decode cX8_init 271 = .ok (.iastore, 1) := by decide +kernel
theorem dX8_init_272 : decode cX8_init 272 = .ok (.dup, 1) := by decide +kernel
theorem dX8_init_273 : decode cX8_init 273 = .ok (.bipush 44, 2) := by decide +kernel
theorem dX8_init_275 : decode cX8_init 275 = .ok (.bipush 116, 2) := by decide +kernel
theorem dX8_init_277 : decode cX8_init 277 = .ok (.iastore, 1) := by decide +kernel
theorem dX8_init_278 : decode cX8_init 278 = .ok (.dup, 1) := by decide +kernel
theorem dX8_init_279 : decode cX8_init 279 = .ok (.bipush 45, 2) := by decide +kernel
theorem dX8_init_281 : decode cX8_init 281 = .ok (.bipush 101, 2) := by decide +kernel
theorem dX8_init_283 : decode cX8_init 283 = .ok (.iastore, 1) := by decide +kernel
theorem dX8_init_284 : decode cX8_init 284 = .ok (.dup, 1) := by decide +kernel
theorem dX8_init_285 : decode cX8_init 285 = .ok (.bipush 46, 2) := by decide +kernel
theorem dX8_init_287 : decode cX8_init 287 = .ok (.bipush 110, 2) := by decide +kernel
theorem dX8_init_289 : decode cX8_init 289 = .ok (.iastore, 1) := by decide +kernel
theorem dX8_init_290 : decode cX8_init 290 = .ok (.dup, 1) := by decide +kernel
theorem dX8_init_291 : decode cX8_init 291 = .ok (.bipush 47, 2) := by decide +kernel
theorem dX8_init_293 : decode cX8_init 293 = .ok (.iconst 0, 1) := by decide +kernel
theorem dX8_init_294 : decode cX8_init 294 = .ok (.iastore, 1) := by decide +kernel
theorem dX8_init_295 : decode cX8_init 295 = .ok (.dup, 1) := by decide +kernel
theorem dX8_init_296 : decode cX8_init 296 = .ok (.bipush 48, 2) := by decide +kernel
theorem dX8_init_298 : decode cX8_init 298 = .ok (.bipush 109, 2) := by decide +kernel
theorem dX8_init_300 : decode cX8_init 300 = .ok (.iastore, 1) := by decide +kernel
theorem dX8_init_301 : decode cX8_init 301 = .ok (.dup, 1) := by decide +kernel
theorem dX8_init_302 : decode cX8_init 302 = .ok (.bipush 49, 2) := by decide +kernel
theorem dX8_init_304 : decode cX8_init 304 = .ok (.bipush 111, 2) := by decide +kernel
theorem dX8_init_306 : decode cX8_init 306 = .ok (.iastore, 1) := by decide +kernel
theorem dX8_init_307 : decode cX8_init 307 = .ok (.dup, 1) := by decide +kernel
theorem dX8_init_308 : decode cX8_init 308 = .ok (.bipush 50, 2) := by decide +kernel
theorem dX8_init_310 : decode cX8_init 310 = .ok (.bipush 105, 2) := by decide +kernel
theorem dX8_init_312 : decode cX8_init 312 = .ok (.iastore, 1) := by decide +kernel
theorem dX8_init_313 : decode cX8_init 313 = .ok (.dup, 1) := by decide +kernel
theorem dX8_init_314 : decode cX8_init 314 = .ok (.bipush 51, 2) := by decide +kernel
theorem dX8_init_316 : decode cX8_init 316 = .ok (.bipush 115, 2) := by decide +kernel
theorem dX8_init_318 : decode cX8_init 318 = .ok (.iastore, 1) := by decide +kernel
theorem dX8_init_319 : decode cX8_init 319 = .ok (.dup, 1) := by decide +kernel
theorem dX8_init_320 : decode cX8_init 320 = .ok (.bipush 52, 2) := by decide +kernel
theorem dX8_init_322 : decode cX8_init 322 = .ok (.bipush 116, 2) := by decide +kernel
theorem dX8_init_324 : decode cX8_init 324 = .ok (.iastore, 1) := by decide +kernel
theorem dX8_init_325 : decode cX8_init 325 = .ok (.dup, 1) := by decide +kernel
theorem dX8_init_326 : decode cX8_init 326 = .ok (.bipush 53, 2) := by decide +kernel
theorem dX8_init_328 : decode cX8_init 328 = .ok (.bipush 101, 2) := by decide +kernel
theorem dX8_init_330 : decode cX8_init 330 = .ok (.iastore, 1) := by decide +kernel
