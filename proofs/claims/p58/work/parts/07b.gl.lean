set_option maxRecDepth 20000 in
theorem ggL_sum_X7_wetnessOf : GoodIn wsL_sum wsX7_wetnessOf := goodIn_ca (goodIn_r _ [61, 38, 62, 40, 41, 42, 5, 43, 44, 45, 7, 46, 47, 48, 49, 50, 51, 52, 97, 98, 99, 100, 101, 102, 103, 104, 105, 83, 84, 85, 86, 87, 88, 89, 90, 91, 92, 93, 94, 95, 96] (by decide +kernel) (by decide +kernel)) (goodIn_sub (fun _ h => List.mem_cons_of_mem _ (List.mem_append_right _ h)) (by decide +kernel))
set_option maxRecDepth 20000 in
theorem gL_sum_X7_wetnessOf : GoodIn wsL_sum (wsV RL 130 RX7 yX7_wetnessOf wsX7_wetnessOf) := goodIn_app (goodIn_of _ (by decide +kernel)) ggL_sum_X7_wetnessOf
set_option maxRecDepth 20000 in
theorem ggL_sum_X7_slackOf : GoodIn wsL_sum wsX7_slackOf := goodIn_ca (goodIn_r _ [66, 38, 67, 40, 41, 42, 5, 43, 44, 45, 7, 46, 47, 48, 49, 50, 51, 52, 97, 98, 99, 100, 101, 102, 103, 104, 105, 83, 84, 85, 86, 87, 88, 89, 90, 91, 92, 93, 94, 95, 96] (by decide +kernel) (by decide +kernel)) (goodIn_sub (fun _ h => List.mem_cons_of_mem _ (List.mem_append_right _ h)) (by decide +kernel))
set_option maxRecDepth 20000 in
theorem gL_sum_X7_slackOf : GoodIn wsL_sum (wsV RL 133 RX7 yX7_slackOf wsX7_slackOf) := goodIn_app (goodIn_of _ (by decide +kernel)) ggL_sum_X7_slackOf
set_option maxRecDepth 20000 in
theorem ggL_sum_X7_waterOf : GoodIn wsL_sum wsX7_waterOf := goodIn_ca (goodIn_r _ [71, 38, 72, 40, 41, 42, 5, 43, 44, 45, 7, 46, 47, 48, 49, 50, 51, 52, 97, 98, 99, 100, 101, 102, 103, 104, 105, 83, 84, 85, 86, 87, 88, 89, 90, 91, 92, 93, 94, 95, 96] (by decide +kernel) (by decide +kernel)) (goodIn_sub (fun _ h => List.mem_cons_of_mem _ (List.mem_append_right _ h)) (by decide +kernel))
set_option maxRecDepth 20000 in
theorem gL_sum_X7_waterOf : GoodIn wsL_sum (wsV RL 136 RX7 yX7_waterOf wsX7_waterOf) := goodIn_app (goodIn_of _ (by decide +kernel)) ggL_sum_X7_waterOf
set_option maxRecDepth 20000 in
theorem ggL_sum_X7_zeroOf : GoodIn wsL_sum wsX7_zeroOf := goodIn_ca (goodIn_r _ [76, 77, 40, 41, 42, 5, 43, 44, 45, 7, 46, 47, 48, 49, 50, 51, 52, 97, 98, 99, 100, 101, 102, 103, 104, 105, 83, 84, 85, 86, 87, 88, 89, 90, 91, 92, 93, 94, 95, 96] (by decide +kernel) (by decide +kernel)) (goodIn_sub (fun _ h => List.mem_cons_of_mem _ (List.mem_append_right _ h)) (by decide +kernel))
set_option maxRecDepth 20000 in
theorem gL_sum_X7_zeroOf : GoodIn wsL_sum (wsV RL 139 RX7 yX7_zeroOf wsX7_zeroOf) := goodIn_app (goodIn_of _ (by decide +kernel)) ggL_sum_X7_zeroOf
set_option maxRecDepth 20000 in
theorem ggL_sum_X7_boxOf : GoodIn wsL_sum wsX7_boxOf := goodIn_ca (goodIn_r _ [81, 82, 40, 41, 42, 5, 43, 44, 45, 7, 46, 47, 48, 49, 50, 51, 52, 97, 98, 99, 100, 101, 102, 103, 104, 105, 83, 84, 85, 86, 87, 88, 89, 90, 91, 92, 93, 94, 95, 96] (by decide +kernel) (by decide +kernel)) (goodIn_sub (fun _ h => List.mem_cons_of_mem _ (List.mem_append_right _ h)) (by decide +kernel))
set_option maxRecDepth 20000 in
theorem gL_sum_X7_boxOf : GoodIn wsL_sum (wsV RL 142 RX7 yX7_boxOf wsX7_boxOf) := goodIn_app (goodIn_of _ (by decide +kernel)) ggL_sum_X7_boxOf
set_option maxRecDepth 20000 in
theorem ggL_instruments_X7_hairDifference : GoodIn wsL_instruments wsX7_hairDifference := goodIn_r _ [12, 13, 14, 15, 3, 16, 17, 18, 19, 20, 21, 22, 23, 24, 25, 26, 27, 28, 29, 30, 31, 32, 234, 235, 236, 237, 238, 239, 240, 241, 242, 243, 244, 245, 246, 247, 248, 249, 250, 251, 252, 253, 254, 255, 256] (by decide +kernel) (by decide +kernel)
set_option maxRecDepth 20000 in
theorem gL_instruments_X7_hairDifference : GoodIn wsL_instruments (wsV RL 145 RX7 yX7_hairDifference wsX7_hairDifference) := goodIn_app (goodIn_of _ (by decide +kernel)) ggL_instruments_X7_hairDifference
set_option maxRecDepth 20000 in
theorem ggL_instruments_X7_instrumentCount : GoodIn wsL_instruments wsX7_instrumentCount := goodIn_r _ [36, 13, 37, 234, 235, 236, 237, 238, 239, 240, 241, 242, 243, 244, 245, 246, 247] (by decide +kernel) (by decide +kernel)
set_option maxRecDepth 20000 in
theorem gL_instruments_X7_instrumentCount : GoodIn wsL_instruments (wsV RL 121 RX7 yX7_instrumentCount wsX7_instrumentCount) := goodIn_app (goodIn_of _ (by decide +kernel)) ggL_instruments_X7_instrumentCount
set_option maxRecDepth 20000 in
theorem ggL_instruments_X7_isHair : GoodIn wsL_instruments wsX7_isHair := goodIn_ca (goodIn_r _ [41, 42, 43, 44, 45, 11, 46, 47, 48, 13, 49, 50, 51, 20, 52, 23, 24, 248, 249, 250, 251, 252, 253, 254, 255, 256, 234, 235, 236, 237, 238, 239, 240, 241, 242, 243, 244, 245, 246, 247] (by decide +kernel) (by decide +kernel)) (goodIn_sub (fun _ h => List.mem_cons_of_mem _ (List.mem_append_left _ (List.mem_append_right _ h))) (by decide +kernel))
set_option maxRecDepth 20000 in
theorem gL_instruments_X7_isHair : GoodIn wsL_instruments (wsV RL 148 RX7 yX7_isHair wsX7_isHair) := goodIn_app (goodIn_of _ (by decide +kernel)) ggL_instruments_X7_isHair
set_option maxRecDepth 20000 in
theorem ggL_instruments_X7_boxOf : GoodIn wsL_instruments wsX7_boxOf := goodIn_ca (goodIn_r _ [56, 57, 43, 44, 45, 11, 46, 47, 48, 13, 49, 50, 51, 20, 52, 23, 24, 248, 249, 250, 251, 252, 253, 254, 255, 256, 234, 235, 236, 237, 238, 239, 240, 241, 242, 243, 244, 245, 246, 247] (by decide +kernel) (by decide +kernel)) (goodIn_sub (fun _ h => List.mem_cons_of_mem _ (List.mem_append_left _ (List.mem_append_right _ h))) (by decide +kernel))
set_option maxRecDepth 20000 in
theorem gL_instruments_X7_boxOf : GoodIn wsL_instruments (wsV RL 142 RX7 yX7_boxOf wsX7_boxOf) := goodIn_app (goodIn_of _ (by decide +kernel)) ggL_instruments_X7_boxOf
set_option maxRecDepth 20000 in
theorem ggL_instruments_X7_humidity : GoodIn wsL_instruments wsX7_humidity := goodIn_r _ [61, 13, 62, 234, 235, 236, 237, 238, 239, 240, 241, 242, 243, 244, 245, 246, 247] (by decide +kernel) (by decide +kernel)
set_option maxRecDepth 20000 in
theorem gL_instruments_X7_humidity : GoodIn wsL_instruments (wsV RL 109 RX7 yX7_humidity wsX7_humidity) := goodIn_app (goodIn_of _ (by decide +kernel)) ggL_instruments_X7_humidity
set_option maxRecDepth 20000 in
theorem ggL_instruments_X7_fixedPoint : GoodIn wsL_instruments wsX7_fixedPoint := goodIn_ca (goodIn_r _ [66, 67, 68, 69, 70, 11, 71, 72, 73, 74, 75] (by decide +kernel) (by decide +kernel)) (goodIn_sub (fun _ h => List.mem_cons_of_mem _ (List.mem_append_right _ h)) (by decide +kernel))
set_option maxRecDepth 20000 in
theorem gL_instruments_X7_fixedPoint : GoodIn wsL_instruments (wsV RL 152 RX7 yX7_fixedPoint wsX7_fixedPoint) := goodIn_app (goodIn_of _ (by decide +kernel)) ggL_instruments_X7_fixedPoint
set_option maxRecDepth 20000 in
theorem ggL_instruments_X7_temperature : GoodIn wsL_instruments wsX7_temperature := goodIn_r _ [79, 13, 80, 234, 235, 236, 237, 238, 239, 240, 241, 242, 243, 244, 245, 246, 247] (by decide +kernel) (by decide +kernel)
set_option maxRecDepth 20000 in
theorem gL_instruments_X7_temperature : GoodIn wsL_instruments (wsV RL 112 RX7 yX7_temperature wsX7_temperature) := goodIn_app (goodIn_of _ (by decide +kernel)) ggL_instruments_X7_temperature
set_option maxRecDepth 20000 in
theorem ggL_instruments_X7_waterOf : GoodIn wsL_instruments wsX7_waterOf := goodIn_ca (goodIn_r _ [84, 42, 85, 43, 44, 45, 11, 46, 47, 48, 13, 49, 50, 51, 20, 52, 23, 24, 248, 249, 250, 251, 252, 253, 254, 255, 256, 234, 235, 236, 237, 238, 239, 240, 241, 242, 243, 244, 245, 246, 247] (by decide +kernel) (by decide +kernel)) (goodIn_sub (fun _ h => List.mem_cons_of_mem _ (List.mem_append_left _ (List.mem_append_right _ h))) (by decide +kernel))
set_option maxRecDepth 20000 in
theorem gL_instruments_X7_waterOf : GoodIn wsL_instruments (wsV RL 136 RX7 yX7_waterOf wsX7_waterOf) := goodIn_app (goodIn_of _ (by decide +kernel)) ggL_instruments_X7_waterOf
set_option maxRecDepth 20000 in
theorem ggL_instruments_X7_wetnessOf : GoodIn wsL_instruments wsX7_wetnessOf := goodIn_ca (goodIn_r _ [89, 42, 90, 43, 44, 45, 11, 46, 47, 48, 13, 49, 50, 51, 20, 52, 23, 24, 248, 249, 250, 251, 252, 253, 254, 255, 256, 234, 235, 236, 237, 238, 239, 240, 241, 242, 243, 244, 245, 246, 247] (by decide +kernel) (by decide +kernel)) (goodIn_sub (fun _ h => List.mem_cons_of_mem _ (List.mem_append_left _ (List.mem_append_right _ h))) (by decide +kernel))
set_option maxRecDepth 20000 in
theorem gL_instruments_X7_wetnessOf : GoodIn wsL_instruments (wsV RL 130 RX7 yX7_wetnessOf wsX7_wetnessOf) := goodIn_app (goodIn_of _ (by decide +kernel)) ggL_instruments_X7_wetnessOf
set_option maxRecDepth 20000 in
theorem ggL_instruments_X7_slackOf : GoodIn wsL_instruments wsX7_slackOf := goodIn_ca (goodIn_r _ [94, 42, 95, 43, 44, 45, 11, 46, 47, 48, 13, 49, 50, 51, 20, 52, 23, 24, 248, 249, 250, 251, 252, 253, 254, 255, 256, 234, 235, 236, 237, 238, 239, 240, 241, 242, 243, 244, 245, 246, 247] (by decide +kernel) (by decide +kernel)) (goodIn_sub (fun _ h => List.mem_cons_of_mem _ (List.mem_append_left _ (List.mem_append_right _ h))) (by decide +kernel))
set_option maxRecDepth 20000 in
theorem gL_instruments_X7_slackOf : GoodIn wsL_instruments (wsV RL 133 RX7 yX7_slackOf wsX7_slackOf) := goodIn_app (goodIn_of _ (by decide +kernel)) ggL_instruments_X7_slackOf
set_option maxRecDepth 20000 in
theorem ggL_instruments_X7_zeroOf : GoodIn wsL_instruments wsX7_zeroOf := goodIn_ca (goodIn_r _ [99, 100, 43, 44, 45, 11, 46, 47, 48, 13, 49, 50, 51, 20, 52, 23, 24, 248, 249, 250, 251, 252, 253, 254, 255, 256, 234, 235, 236, 237, 238, 239, 240, 241, 242, 243, 244, 245, 246, 247] (by decide +kernel) (by decide +kernel)) (goodIn_sub (fun _ h => List.mem_cons_of_mem _ (List.mem_append_left _ (List.mem_append_right _ h))) (by decide +kernel))
set_option maxRecDepth 20000 in
theorem gL_instruments_X7_zeroOf : GoodIn wsL_instruments (wsV RL 139 RX7 yX7_zeroOf wsX7_zeroOf) := goodIn_app (goodIn_of _ (by decide +kernel)) ggL_instruments_X7_zeroOf
set_option maxRecDepth 20000 in
theorem ggL_instruments_X7_hairsOf : GoodIn wsL_instruments wsX7_hairsOf := goodIn_ca (goodIn_r _ [104, 42, 105, 43, 44, 45, 11, 46, 47, 48, 13, 49, 50, 51, 20, 52, 23, 24, 248, 249, 250, 251, 252, 253, 254, 255, 256, 234, 235, 236, 237, 238, 239, 240, 241, 242, 243, 244, 245, 246, 247] (by decide +kernel) (by decide +kernel)) (goodIn_sub (fun _ h => List.mem_cons_of_mem _ (List.mem_append_left _ (List.mem_append_right _ h))) (by decide +kernel))
set_option maxRecDepth 20000 in
theorem gL_instruments_X7_hairsOf : GoodIn wsL_instruments (wsV RL 124 RX7 yX7_hairsOf wsX7_hairsOf) := goodIn_app (goodIn_of _ (by decide +kernel)) ggL_instruments_X7_hairsOf
set_option maxRecDepth 20000 in
theorem ggL_instruments_X7_minutesUntilStill : GoodIn wsL_instruments wsX7_minutesUntilStill := goodIn_ca (goodIn_r _ [109, 110, 13, 111, 43, 44, 45, 11, 46, 47, 48, 49, 50, 51, 20, 52, 23, 24, 112, 113, 114, 115, 116, 117, 118, 119, 120, 121, 122, 123, 124, 125, 126, 127, 128, 129, 130, 131, 132, 133, 134, 135, 136, 137, 138, 139, 140, 141, 142, 74, 75, 72, 143, 144, 145, 146, 147, 148, 6, 3, 7, 149, 2, 4, 150, 151, 152, 153, 154, 155, 234, 235, 236, 237, 238, 239, 240, 241, 242, 243, 244, 245, 246, 247, 248, 249, 250, 251, 252, 253, 254, 255, 256] (by decide +kernel) (by decide +kernel)) (goodIn_sub (fun _ h => List.mem_cons_of_mem _ (List.mem_append_left _ (List.mem_append_right _ h))) (by decide +kernel))
set_option maxRecDepth 20000 in
theorem gL_instruments_X7_minutesUntilStill : GoodIn wsL_instruments (wsV RL 163 RX7 yX7_minutesUntilStill wsX7_minutesUntilStill) := goodIn_app (goodIn_of _ (by decide +kernel)) ggL_instruments_X7_minutesUntilStill
set_option maxRecDepth 20000 in
theorem ggL_instruments_X7_surroundingOf : GoodIn wsL_instruments wsX7_surroundingOf := goodIn_ca (goodIn_r _ [159, 13, 43, 44, 45, 11, 46, 47, 48, 49, 50, 51, 20, 52, 23, 24, 143, 138, 139, 140, 141, 142, 74, 75, 72, 234, 235, 236, 237, 238, 239, 240, 241, 242, 243, 244, 245, 246, 247, 248, 249, 250, 251, 252, 253, 254, 255, 256] (by decide +kernel) (by decide +kernel)) (goodIn_sub (fun _ h => List.mem_cons_of_mem _ (List.mem_append_left _ (List.mem_append_right _ h))) (by decide +kernel))
set_option maxRecDepth 20000 in
theorem gL_instruments_X7_surroundingOf : GoodIn wsL_instruments (wsV RL 166 RX7 yX7_surroundingOf wsX7_surroundingOf) := goodIn_app (goodIn_of _ (by decide +kernel)) ggL_instruments_X7_surroundingOf
set_option maxRecDepth 20000 in
theorem ggL_instruments_X7_depressionOf : GoodIn wsL_instruments wsX7_depressionOf := goodIn_ca (goodIn_r _ [163, 42, 13, 43, 44, 45, 11, 46, 47, 48, 49, 50, 51, 20, 52, 23, 24, 164, 165, 166, 167, 136, 168, 137, 138, 139, 140, 141, 142, 74, 75, 72, 248, 249, 250, 251, 252, 253, 254, 255, 256, 234, 235, 236, 237, 238, 239, 240, 241, 242, 243, 244, 245, 246, 247] (by decide +kernel) (by decide +kernel)) (goodIn_sub (fun _ h => List.mem_cons_of_mem _ (List.mem_append_left _ (List.mem_append_right _ h))) (by decide +kernel))
set_option maxRecDepth 20000 in
theorem gL_instruments_X7_depressionOf : GoodIn wsL_instruments (wsV RL 169 RX7 yX7_depressionOf wsX7_depressionOf) := goodIn_app (goodIn_of _ (by decide +kernel)) ggL_instruments_X7_depressionOf
set_option maxRecDepth 20000 in
theorem ggL_instruments_X7_rawValue : GoodIn wsL_instruments wsX7_rawValue := goodIn_ca (goodIn_r _ [172, 13, 43, 44, 45, 11, 46, 47, 48, 49, 50, 51, 20, 52, 23, 24, 173, 174, 175, 176, 130, 135, 177, 168, 178, 165, 166, 167, 136, 137, 138, 139, 140, 141, 142, 74, 75, 72, 150, 151, 234, 235, 236, 237, 238, 239, 240, 241, 242, 243, 244, 245, 246, 247, 248, 249, 250, 251, 252, 253, 254, 255, 256] (by decide +kernel) (by decide +kernel)) (goodIn_sub (fun _ h => List.mem_cons_of_mem _ (List.mem_append_left _ (List.mem_append_right _ h))) (by decide +kernel))
set_option maxRecDepth 20000 in
theorem gL_instruments_X7_rawValue : GoodIn wsL_instruments (wsV RL 172 RX7 yX7_rawValue wsX7_rawValue) := goodIn_app (goodIn_of _ (by decide +kernel)) ggL_instruments_X7_rawValue
set_option maxRecDepth 20000 in
theorem ggL_instruments_X7_readingOf : GoodIn wsL_instruments wsX7_readingOf := goodIn_ca (goodIn_r _ [182, 13, 43, 44, 45, 11, 46, 47, 48, 49, 50, 51, 20, 52, 23, 24, 183, 184, 185, 186, 187, 188, 2, 3, 4, 189, 6, 7, 190, 174, 175, 176, 130, 135, 177, 168, 178, 165, 166, 167, 136, 137, 138, 139, 140, 141, 142, 74, 75, 72, 150, 151, 234, 235, 236, 237, 238, 239, 240, 241, 242, 243, 244, 245, 246, 247, 248, 249, 250, 251, 252, 253, 254, 255, 256] (by decide +kernel) (by decide +kernel)) (goodIn_sub (fun _ h => List.mem_cons_of_mem _ (List.mem_append_left _ (List.mem_append_right _ h))) (by decide +kernel))
set_option maxRecDepth 20000 in
theorem gL_instruments_X7_readingOf : GoodIn wsL_instruments (wsV RL 175 RX7 yX7_readingOf wsX7_readingOf) := goodIn_app (goodIn_of _ (by decide +kernel)) ggL_instruments_X7_readingOf
set_option maxRecDepth 20000 in
theorem ggL_instruments_X7_errorOf : GoodIn wsL_instruments wsX7_errorOf := goodIn_ca (goodIn_r _ [194, 13, 43, 44, 45, 11, 46, 47, 48, 49, 50, 51, 20, 52, 23, 24, 183, 184, 185, 186, 187, 188, 2, 3, 4, 189, 6, 7, 190, 174, 175, 176, 130, 135, 177, 168, 178, 165, 166, 167, 136, 137, 138, 139, 140, 141, 142, 74, 75, 72, 150, 151, 143, 234, 235, 236, 237, 238, 239, 240, 241, 242, 243, 244, 245, 246, 247, 248, 249, 250, 251, 252, 253, 254, 255, 256] (by decide +kernel) (by decide +kernel)) (goodIn_sub (fun _ h => List.mem_cons_of_mem _ (List.mem_append_left _ (List.mem_append_right _ h))) (by decide +kernel))
set_option maxRecDepth 20000 in
theorem gL_instruments_X7_errorOf : GoodIn wsL_instruments (wsV RL 178 RX7 yX7_errorOf wsX7_errorOf) := goodIn_app (goodIn_of _ (by decide +kernel)) ggL_instruments_X7_errorOf
set_option maxRecDepth 20000 in
theorem ggL_instruments_X7_isSettled : GoodIn wsL_instruments wsX7_isSettled := goodIn_ca (goodIn_r _ [198, 13, 43, 44, 45, 11, 46, 47, 48, 49, 50, 51, 20, 52, 23, 24, 199, 132, 133, 134, 130, 135, 136, 137, 138, 139, 140, 141, 142, 74, 75, 72, 234, 235, 236, 237, 238, 239, 240, 241, 242, 243, 244, 245, 246, 247, 248, 249, 250, 251, 252, 253, 254, 255, 256] (by decide +kernel) (by decide +kernel)) (goodIn_sub (fun _ h => List.mem_cons_of_mem _ (List.mem_append_left _ (List.mem_append_right _ h))) (by decide +kernel))
set_option maxRecDepth 20000 in
theorem gL_instruments_X7_isSettled : GoodIn wsL_instruments (wsV RL 181 RX7 yX7_isSettled wsX7_isSettled) := goodIn_app (goodIn_of _ (by decide +kernel)) ggL_instruments_X7_isSettled
set_option maxRecDepth 20000 in
theorem ggL_instruments_X7_whyUnusable : GoodIn wsL_instruments wsX7_whyUnusable := goodIn_ca (goodIn_r _ [203, 43, 44, 45, 11, 46, 47, 48, 13, 49, 50, 51, 20, 52, 23, 24, 204, 205, 206, 115, 207, 117, 118, 123, 122, 208, 209, 210, 211, 125, 234, 235, 236, 237, 238, 239, 240, 241, 242, 243, 244, 245, 246, 247, 248, 249, 250, 251, 252, 253, 254, 255, 256] (by decide +kernel) (by decide +kernel)) (goodIn_sub (fun _ h => List.mem_cons_of_mem _ (List.mem_append_left _ (List.mem_append_right _ h))) (by decide +kernel))
set_option maxRecDepth 20000 in
theorem gL_instruments_X7_whyUnusable : GoodIn wsL_instruments (wsV RL 184 RX7 yX7_whyUnusable wsX7_whyUnusable) := goodIn_app (goodIn_of _ (by decide +kernel)) ggL_instruments_X7_whyUnusable
set_option maxRecDepth 20000 in
theorem ggL_instruments_X7_weightOf : GoodIn wsL_instruments wsX7_weightOf := goodIn_ca (goodIn_r _ [215, 43, 44, 45, 11, 46, 47, 48, 13, 49, 50, 51, 20, 52, 23, 24, 216, 217, 218, 115, 219, 117, 118, 220, 205, 206, 207, 123, 122, 208, 209, 210, 211, 125, 234, 235, 236, 237, 238, 239, 240, 241, 242, 243, 244, 245, 246, 247, 248, 249, 250, 251, 252, 253, 254, 255, 256] (by decide +kernel) (by decide +kernel)) (goodIn_sub (fun _ h => List.mem_cons_of_mem _ (List.mem_append_left _ (List.mem_append_right _ h))) (by decide +kernel))
set_option maxRecDepth 20000 in
theorem gL_instruments_X7_weightOf : GoodIn wsL_instruments (wsV RL 187 RX7 yX7_weightOf wsX7_weightOf) := goodIn_app (goodIn_of _ (by decide +kernel)) ggL_instruments_X7_weightOf
set_option maxRecDepth 20000 in
theorem ggL_instruments_X7_calibrationObstacle : GoodIn wsL_instruments wsX7_calibrationObstacle := goodIn_ca (goodIn_r _ [224, 13, 43, 44, 45, 11, 46, 47, 48, 49, 50, 51, 20, 52, 23, 24, 225, 226, 227, 228, 229, 209, 210, 115, 211, 125, 131, 132, 133, 134, 130, 135, 136, 137, 138, 139, 140, 141, 142, 74, 75, 72, 234, 235, 236, 237, 238, 239, 240, 241, 242, 243, 244, 245, 246, 247, 248, 249, 250, 251, 252, 253, 254, 255, 256] (by decide +kernel) (by decide +kernel)) (goodIn_sub (fun _ h => List.mem_cons_of_mem _ (List.mem_append_left _ (List.mem_append_right _ h))) (by decide +kernel))
set_option maxRecDepth 20000 in
theorem gL_instruments_X7_calibrationObstacle : GoodIn wsL_instruments (wsV RL 190 RX7 yX7_calibrationObstacle wsX7_calibrationObstacle) := goodIn_app (goodIn_of _ (by decide +kernel)) ggL_instruments_X7_calibrationObstacle
set_option maxRecDepth 20000 in
theorem ggL_instruments_X7_readingAfter : GoodIn wsL_instruments wsX7_readingAfter := goodIn_ca (goodIn_ca (goodIn_r _ [233, 67, 68, 110, 13, 111, 43, 44, 45, 11, 46, 47, 48, 49, 50, 51, 20, 52, 23, 24, 112, 113, 114, 115, 116, 117, 118, 119, 120, 121, 122, 123, 124, 125, 143, 138, 139, 140, 141, 142, 74, 75, 72, 144, 145, 146, 147, 148, 6, 3, 7, 149, 2, 4, 150, 151, 152, 153, 154, 155, 183, 184, 185, 186, 187, 188, 189, 190, 174, 175, 176, 130, 135, 177, 168, 178, 165, 166, 167, 136, 137, 234, 235, 236, 237, 238, 239, 240, 241, 242, 243, 244, 245, 246, 247, 248, 249, 250, 251, 252, 253, 254, 255, 256] (by decide +kernel) (by decide +kernel)) (goodIn_sub (fun _ h => List.mem_cons_of_mem _ (List.mem_append_right _ h)) (by decide +kernel))) (goodIn_sub (fun _ h => List.mem_cons_of_mem _ (List.mem_append_left _ (List.mem_append_right _ h))) (by decide +kernel))
set_option maxRecDepth 20000 in
theorem gL_instruments_X7_readingAfter : GoodIn wsL_instruments (wsV RL 193 RX7 yX7_readingAfter wsX7_readingAfter) := goodIn_app (goodIn_of _ (by decide +kernel)) ggL_instruments_X7_readingAfter
set_option maxRecDepth 20000 in
theorem ggL_comparisons_X7_instrumentCount : GoodIn wsL_comparisons wsX7_instrumentCount := goodIn_r _ [15, 16, 17, 192, 193, 194, 195, 196, 197, 198, 199, 200, 201, 202, 203, 204, 205] (by decide +kernel) (by decide +kernel)
set_option maxRecDepth 20000 in
theorem gL_comparisons_X7_instrumentCount : GoodIn wsL_comparisons (wsV RL 121 RX7 yX7_instrumentCount wsX7_instrumentCount) := goodIn_app (goodIn_of _ (by decide +kernel)) ggL_comparisons_X7_instrumentCount
set_option maxRecDepth 20000 in
theorem ggL_comparisons_X7_readingOf : GoodIn wsL_comparisons wsX7_readingOf := goodIn_ca (goodIn_r _ [21, 16, 22, 23, 24, 14, 25, 26, 27, 28, 29, 30, 31, 32, 33, 34, 35, 36, 37, 38, 39, 40, 6, 3, 7, 41, 9, 10, 42, 43, 44, 45, 46, 47, 48, 49, 50, 51, 52, 53, 54, 55, 56, 57, 58, 59, 60, 61, 62, 63, 64, 65, 192, 193, 194, 195, 196, 197, 198, 199, 200, 201, 202, 203, 204, 205, 206, 207, 208, 209, 210, 211, 212, 213, 214] (by decide +kernel) (by decide +kernel)) (goodIn_sub (fun _ h => List.mem_cons_of_mem _ (List.mem_append_right _ h)) (by decide +kernel))
set_option maxRecDepth 20000 in
theorem gL_comparisons_X7_readingOf : GoodIn wsL_comparisons (wsV RL 175 RX7 yX7_readingOf wsX7_readingOf) := goodIn_app (goodIn_of _ (by decide +kernel)) ggL_comparisons_X7_readingOf
