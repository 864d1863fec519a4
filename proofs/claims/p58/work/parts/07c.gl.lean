set_option maxRecDepth 20000 in
theorem ggL_comparisons_X7_whyUnusable : GoodIn wsL_comparisons wsX7_whyUnusable := goodIn_ca (goodIn_r _ [69, 22, 23, 24, 14, 25, 26, 27, 16, 28, 29, 30, 31, 32, 33, 34, 70, 71, 72, 73, 74, 75, 76, 77, 78, 79, 80, 81, 82, 83, 192, 193, 194, 195, 196, 197, 198, 199, 200, 201, 202, 203, 204, 205, 206, 207, 208, 209, 210, 211, 212, 213, 214] (by decide +kernel) (by decide +kernel)) (goodIn_sub (fun _ h => List.mem_cons_of_mem _ (List.mem_append_right _ h)) (by decide +kernel))
set_option maxRecDepth 20000 in
theorem gL_comparisons_X7_whyUnusable : GoodIn wsL_comparisons (wsV RL 184 RX7 yX7_whyUnusable wsX7_whyUnusable) := goodIn_app (goodIn_of _ (by decide +kernel)) ggL_comparisons_X7_whyUnusable
set_option maxRecDepth 20000 in
theorem ggL_comparisons_X7_weightOf : GoodIn wsL_comparisons wsX7_weightOf := goodIn_ca (goodIn_r _ [87, 22, 23, 24, 14, 25, 26, 27, 16, 28, 29, 30, 31, 32, 33, 34, 88, 89, 90, 73, 91, 75, 76, 92, 71, 72, 74, 77, 78, 79, 80, 81, 82, 83, 192, 193, 194, 195, 196, 197, 198, 199, 200, 201, 202, 203, 204, 205, 206, 207, 208, 209, 210, 211, 212, 213, 214] (by decide +kernel) (by decide +kernel)) (goodIn_sub (fun _ h => List.mem_cons_of_mem _ (List.mem_append_right _ h)) (by decide +kernel))
set_option maxRecDepth 20000 in
theorem gL_comparisons_X7_weightOf : GoodIn wsL_comparisons (wsV RL 187 RX7 yX7_weightOf wsX7_weightOf) := goodIn_app (goodIn_of _ (by decide +kernel)) ggL_comparisons_X7_weightOf
set_option maxRecDepth 20000 in
theorem ggL_comparisons_X7_humidity : GoodIn wsL_comparisons wsX7_humidity := goodIn_r _ [96, 16, 97, 192, 193, 194, 195, 196, 197, 198, 199, 200, 201, 202, 203, 204, 205] (by decide +kernel) (by decide +kernel)
set_option maxRecDepth 20000 in
theorem gL_comparisons_X7_humidity : GoodIn wsL_comparisons (wsV RL 109 RX7 yX7_humidity wsX7_humidity) := goodIn_app (goodIn_of _ (by decide +kernel)) ggL_comparisons_X7_humidity
set_option maxRecDepth 20000 in
theorem ggL_comparisons_X7_isHair : GoodIn wsL_comparisons wsX7_isHair := goodIn_ca (goodIn_r _ [101, 102, 22, 23, 24, 14, 25, 26, 27, 16, 28, 29, 30, 31, 32, 33, 34, 206, 207, 208, 209, 210, 211, 212, 213, 214, 192, 193, 194, 195, 196, 197, 198, 199, 200, 201, 202, 203, 204, 205] (by decide +kernel) (by decide +kernel)) (goodIn_sub (fun _ h => List.mem_cons_of_mem _ (List.mem_append_right _ h)) (by decide +kernel))
set_option maxRecDepth 20000 in
theorem gL_comparisons_X7_isHair : GoodIn wsL_comparisons (wsV RL 148 RX7 yX7_isHair wsX7_isHair) := goodIn_app (goodIn_of _ (by decide +kernel)) ggL_comparisons_X7_isHair
set_option maxRecDepth 20000 in
theorem ggL_comparisons_X7_slackOf : GoodIn wsL_comparisons wsX7_slackOf := goodIn_ca (goodIn_r _ [106, 102, 107, 22, 23, 24, 14, 25, 26, 27, 16, 28, 29, 30, 31, 32, 33, 34, 206, 207, 208, 209, 210, 211, 212, 213, 214, 192, 193, 194, 195, 196, 197, 198, 199, 200, 201, 202, 203, 204, 205] (by decide +kernel) (by decide +kernel)) (goodIn_sub (fun _ h => List.mem_cons_of_mem _ (List.mem_append_right _ h)) (by decide +kernel))
set_option maxRecDepth 20000 in
theorem gL_comparisons_X7_slackOf : GoodIn wsL_comparisons (wsV RL 133 RX7 yX7_slackOf wsX7_slackOf) := goodIn_app (goodIn_of _ (by decide +kernel)) ggL_comparisons_X7_slackOf
set_option maxRecDepth 20000 in
theorem ggL_comparisons_X7_boxOf : GoodIn wsL_comparisons wsX7_boxOf := goodIn_ca (goodIn_r _ [111, 112, 22, 23, 24, 14, 25, 26, 27, 16, 28, 29, 30, 31, 32, 33, 34, 206, 207, 208, 209, 210, 211, 212, 213, 214, 192, 193, 194, 195, 196, 197, 198, 199, 200, 201, 202, 203, 204, 205] (by decide +kernel) (by decide +kernel)) (goodIn_sub (fun _ h => List.mem_cons_of_mem _ (List.mem_append_right _ h)) (by decide +kernel))
set_option maxRecDepth 20000 in
theorem gL_comparisons_X7_boxOf : GoodIn wsL_comparisons (wsV RL 142 RX7 yX7_boxOf wsX7_boxOf) := goodIn_app (goodIn_of _ (by decide +kernel)) ggL_comparisons_X7_boxOf
set_option maxRecDepth 20000 in
theorem ggL_comparisons_X7_isSettled : GoodIn wsL_comparisons wsX7_isSettled := goodIn_ca (goodIn_r _ [116, 16, 22, 23, 24, 14, 25, 26, 27, 28, 29, 30, 31, 32, 33, 34, 117, 118, 119, 120, 46, 47, 54, 55, 56, 57, 58, 59, 60, 61, 62, 63, 192, 193, 194, 195, 196, 197, 198, 199, 200, 201, 202, 203, 204, 205, 206, 207, 208, 209, 210, 211, 212, 213, 214] (by decide +kernel) (by decide +kernel)) (goodIn_sub (fun _ h => List.mem_cons_of_mem _ (List.mem_append_right _ h)) (by decide +kernel))
set_option maxRecDepth 20000 in
theorem gL_comparisons_X7_isSettled : GoodIn wsL_comparisons (wsV RL 181 RX7 yX7_isSettled wsX7_isSettled) := goodIn_app (goodIn_of _ (by decide +kernel)) ggL_comparisons_X7_isSettled
set_option maxRecDepth 20000 in
theorem ggL_comparisons_X7_errorOf : GoodIn wsL_comparisons wsX7_errorOf := goodIn_ca (goodIn_r _ [124, 16, 22, 23, 24, 14, 25, 26, 27, 28, 29, 30, 31, 32, 33, 34, 35, 36, 37, 38, 39, 40, 6, 3, 7, 41, 9, 10, 42, 43, 44, 45, 46, 47, 48, 49, 50, 51, 52, 53, 54, 55, 56, 57, 58, 59, 60, 61, 62, 63, 64, 65, 125, 192, 193, 194, 195, 196, 197, 198, 199, 200, 201, 202, 203, 204, 205, 206, 207, 208, 209, 210, 211, 212, 213, 214] (by decide +kernel) (by decide +kernel)) (goodIn_sub (fun _ h => List.mem_cons_of_mem _ (List.mem_append_right _ h)) (by decide +kernel))
set_option maxRecDepth 20000 in
theorem gL_comparisons_X7_errorOf : GoodIn wsL_comparisons (wsV RL 178 RX7 yX7_errorOf wsX7_errorOf) := goodIn_app (goodIn_of _ (by decide +kernel)) ggL_comparisons_X7_errorOf
set_option maxRecDepth 20000 in
theorem ggL_comparisons_X7_usableInstruments : GoodIn wsL_comparisons wsX7_usableInstruments := goodIn_r _ [129, 16, 130, 131, 132, 31, 133, 33, 34, 134, 71, 72, 73, 74, 75, 76, 77, 78, 79, 80, 81, 82, 83, 192, 193, 194, 195, 196, 197, 198, 199, 200, 201, 202, 203, 204, 205, 206, 207, 208, 209, 210, 211, 212, 213, 214] (by decide +kernel) (by decide +kernel)
set_option maxRecDepth 20000 in
theorem gL_comparisons_X7_usableInstruments : GoodIn wsL_comparisons (wsV RL 199 RX7 yX7_usableInstruments wsX7_usableInstruments) := goodIn_app (goodIn_of _ (by decide +kernel)) ggL_comparisons_X7_usableInstruments
set_option maxRecDepth 20000 in
theorem ggL_comparisons_X7_blend : GoodIn wsL_comparisons wsX7_blend := goodIn_r _ [138, 16, 139, 140, 141, 31, 142, 33, 34, 143, 89, 90, 73, 91, 75, 76, 92, 71, 72, 74, 77, 78, 79, 80, 81, 82, 83, 144, 36, 37, 38, 39, 40, 6, 3, 7, 41, 9, 10, 42, 43, 44, 45, 46, 47, 48, 49, 50, 51, 52, 53, 54, 55, 56, 57, 58, 59, 60, 61, 14, 62, 63, 64, 65, 192, 193, 194, 195, 196, 197, 198, 199, 200, 201, 202, 203, 204, 205, 206, 207, 208, 209, 210, 211, 212, 213, 214] (by decide +kernel) (by decide +kernel)
set_option maxRecDepth 20000 in
theorem gL_comparisons_X7_blend : GoodIn wsL_comparisons (wsV RL 202 RX7 yX7_blend wsX7_blend) := goodIn_app (goodIn_of _ (by decide +kernel)) ggL_comparisons_X7_blend
set_option maxRecDepth 20000 in
theorem ggL_comparisons_X7_bestInstrument : GoodIn wsL_comparisons wsX7_bestInstrument := goodIn_r _ [148, 16, 149, 150, 151, 31, 152, 33, 34, 60, 153, 2, 3, 4, 144, 36, 37, 38, 39, 40, 6, 7, 41, 9, 10, 42, 43, 44, 45, 46, 47, 48, 49, 50, 51, 52, 53, 54, 55, 56, 57, 58, 59, 61, 14, 62, 63, 64, 65, 134, 71, 72, 73, 74, 75, 76, 77, 78, 79, 80, 81, 82, 83, 192, 193, 194, 195, 196, 197, 198, 199, 200, 201, 202, 203, 204, 205, 206, 207, 208, 209, 210, 211, 212, 213, 214] (by decide +kernel) (by decide +kernel)
set_option maxRecDepth 20000 in
theorem gL_comparisons_X7_bestInstrument : GoodIn wsL_comparisons (wsV RL 205 RX7 yX7_bestInstrument wsX7_bestInstrument) := goodIn_app (goodIn_of _ (by decide +kernel)) ggL_comparisons_X7_bestInstrument
set_option maxRecDepth 20000 in
theorem ggL_comparisons_X7_slackestInstrument : GoodIn wsL_comparisons wsX7_slackestInstrument := goodIn_r _ [157, 16, 158, 159, 160, 31, 161, 33, 34, 46, 48, 192, 193, 194, 195, 196, 197, 198, 199, 200, 201, 202, 203, 204, 205, 206, 207, 208, 209, 210, 211, 212, 213, 214] (by decide +kernel) (by decide +kernel)
set_option maxRecDepth 20000 in
theorem gL_comparisons_X7_slackestInstrument : GoodIn wsL_comparisons (wsV RL 208 RX7 yX7_slackestInstrument wsX7_slackestInstrument) := goodIn_app (goodIn_of _ (by decide +kernel)) ggL_comparisons_X7_slackestInstrument
set_option maxRecDepth 20000 in
theorem ggL_comparisons_X7_disagreements : GoodIn wsL_comparisons wsX7_disagreements := goodIn_r _ [165, 16, 166, 167, 168, 31, 169, 33, 34, 170, 80, 81, 73, 82, 83, 171, 118, 119, 120, 46, 47, 54, 55, 56, 57, 58, 59, 60, 61, 14, 62, 63, 144, 36, 37, 38, 39, 40, 6, 3, 7, 41, 9, 10, 42, 43, 44, 45, 48, 49, 50, 51, 52, 53, 64, 65, 192, 193, 194, 195, 196, 197, 198, 199, 200, 201, 202, 203, 204, 205, 206, 207, 208, 209, 210, 211, 212, 213, 214] (by decide +kernel) (by decide +kernel)
set_option maxRecDepth 20000 in
theorem gL_comparisons_X7_disagreements : GoodIn wsL_comparisons (wsV RL 211 RX7 yX7_disagreements wsX7_disagreements) := goodIn_app (goodIn_of _ (by decide +kernel)) ggL_comparisons_X7_disagreements
set_option maxRecDepth 20000 in
theorem ggL_comparisons_X7_spread : GoodIn wsL_comparisons wsX7_spread := goodIn_r _ [175, 16, 176, 177, 178, 31, 179, 33, 34, 40, 6, 3, 7, 41, 9, 10, 134, 71, 72, 73, 74, 75, 76, 77, 78, 79, 80, 81, 82, 83, 144, 36, 37, 38, 39, 42, 43, 44, 45, 46, 47, 48, 49, 50, 51, 52, 53, 54, 55, 56, 57, 58, 59, 60, 61, 14, 62, 63, 64, 65, 192, 193, 194, 195, 196, 197, 198, 199, 200, 201, 202, 203, 204, 205, 206, 207, 208, 209, 210, 211, 212, 213, 214] (by decide +kernel) (by decide +kernel)
set_option maxRecDepth 20000 in
theorem gL_comparisons_X7_spread : GoodIn wsL_comparisons (wsV RL 214 RX7 yX7_spread wsX7_spread) := goodIn_app (goodIn_of _ (by decide +kernel)) ggL_comparisons_X7_spread
set_option maxRecDepth 20000 in
theorem ggL_comparisons_X7_meanReading : GoodIn wsL_comparisons wsX7_meanReading := goodIn_r _ [183, 16, 17, 184, 185, 186, 31, 187, 33, 34, 144, 36, 37, 38, 39, 40, 6, 3, 7, 41, 9, 10, 42, 43, 44, 45, 46, 47, 48, 49, 50, 51, 52, 53, 54, 55, 56, 57, 58, 59, 60, 61, 14, 62, 63, 64, 65, 192, 193, 194, 195, 196, 197, 198, 199, 200, 201, 202, 203, 204, 205, 206, 207, 208, 209, 210, 211, 212, 213, 214] (by decide +kernel) (by decide +kernel)
set_option maxRecDepth 20000 in
theorem gL_comparisons_X7_meanReading : GoodIn wsL_comparisons (wsV RL 217 RX7 yX7_meanReading wsX7_meanReading) := goodIn_app (goodIn_of _ (by decide +kernel)) ggL_comparisons_X7_meanReading
set_option maxRecDepth 20000 in
theorem ggL_comparisons_X7_usableShare : GoodIn wsL_comparisons wsX7_usableShare := goodIn_r _ [191, 16, 17, 130, 131, 132, 31, 133, 33, 34, 134, 71, 72, 73, 74, 75, 76, 77, 78, 79, 80, 81, 82, 83, 192, 193, 194, 195, 196, 197, 198, 199, 200, 201, 202, 203, 204, 205, 206, 207, 208, 209, 210, 211, 212, 213, 214] (by decide +kernel) (by decide +kernel)
set_option maxRecDepth 20000 in
theorem gL_comparisons_X7_usableShare : GoodIn wsL_comparisons (wsV RL 221 RX7 yX7_usableShare wsX7_usableShare) := goodIn_app (goodIn_of _ (by decide +kernel)) ggL_comparisons_X7_usableShare
set_option maxRecDepth 20000 in
theorem ggL_act_X7_instrumentCount : GoodIn wsL_act wsX7_instrumentCount := goodIn_r _ [5, 6, 7, 287, 288, 289, 290, 291, 292, 293, 294, 295, 296, 297, 298, 299, 300] (by decide +kernel) (by decide +kernel)
set_option maxRecDepth 20000 in
theorem gL_act_X7_instrumentCount : GoodIn wsL_act (wsV RL 121 RX7 yX7_instrumentCount wsX7_instrumentCount) := goodIn_app (goodIn_of _ (by decide +kernel)) ggL_act_X7_instrumentCount
set_option maxRecDepth 20000 in
theorem ggL_act_L_next : GoodIn wsL_act wsL_next := goodIn_r _ [11, 12] (by decide +kernel) (by decide +kernel)
set_option maxRecDepth 20000 in
theorem gL_act_L_next : GoodIn wsL_act (va_wsS RL 81 yL_next wsL_next) := goodIn_app (goodIn_of _ (by decide +kernel)) ggL_act_L_next
set_option maxRecDepth 20000 in
theorem ggL_act_X7_isHair : GoodIn wsL_act wsX7_isHair := goodIn_ca (goodIn_r _ [16, 17, 18, 19, 20, 4, 21, 22, 23, 6, 24, 25, 26, 27, 28, 29, 30, 301, 302, 303, 304, 305, 306, 307, 308, 309, 287, 288, 289, 290, 291, 292, 293, 294, 295, 296, 297, 298, 299, 300] (by decide +kernel) (by decide +kernel)) (goodIn_sub (fun _ h => List.mem_cons_of_mem _ (List.mem_append_left _ (List.mem_append_left _ (List.mem_append_right _ h)))) (by decide +kernel))
set_option maxRecDepth 20000 in
theorem gL_act_X7_isHair : GoodIn wsL_act (wsV RL 148 RX7 yX7_isHair wsX7_isHair) := goodIn_app (goodIn_of _ (by decide +kernel)) ggL_act_X7_isHair
set_option maxRecDepth 20000 in
theorem ggL_act_X7_boxOf : GoodIn wsL_act wsX7_boxOf := goodIn_ca (goodIn_r _ [34, 35, 18, 19, 20, 4, 21, 22, 23, 6, 24, 25, 26, 27, 28, 29, 30, 301, 302, 303, 304, 305, 306, 307, 308, 309, 287, 288, 289, 290, 291, 292, 293, 294, 295, 296, 297, 298, 299, 300] (by decide +kernel) (by decide +kernel)) (goodIn_sub (fun _ h => List.mem_cons_of_mem _ (List.mem_append_left _ (List.mem_append_left _ (List.mem_append_right _ h)))) (by decide +kernel))
set_option maxRecDepth 20000 in
theorem gL_act_X7_boxOf : GoodIn wsL_act (wsV RL 142 RX7 yX7_boxOf wsX7_boxOf) := goodIn_app (goodIn_of _ (by decide +kernel)) ggL_act_X7_boxOf
set_option maxRecDepth 20000 in
theorem ggL_act_X7_readingAfter : GoodIn wsL_act wsX7_readingAfter := goodIn_ca (goodIn_ca (goodIn_r _ [39, 40, 41, 42, 6, 43, 18, 19, 20, 4, 21, 22, 23, 24, 25, 26, 27, 28, 29, 30, 44, 45, 46, 47, 48, 49, 50, 51, 52, 53, 54, 55, 56, 57, 58, 59, 60, 61, 62, 63, 64, 65, 66, 67, 68, 69, 70, 71, 72, 73, 74, 75, 76, 77, 78, 79, 80, 81, 82, 83, 84, 85, 86, 87, 88, 89, 90, 91, 92, 93, 94, 95, 96, 97, 98, 99, 100, 101, 102, 103, 104, 287, 288, 289, 290, 291, 292, 293, 294, 295, 296, 297, 298, 299, 300, 301, 302, 303, 304, 305, 306, 307, 308, 309] (by decide +kernel) (by decide +kernel)) (goodIn_sub (fun _ h => List.mem_cons_of_mem _ (List.mem_append_left _ (List.mem_append_right _ h))) (by decide +kernel))) (goodIn_sub (fun _ h => List.mem_cons_of_mem _ (List.mem_append_left _ (List.mem_append_left _ (List.mem_append_right _ h)))) (by decide +kernel))
set_option maxRecDepth 20000 in
theorem gL_act_X7_readingAfter : GoodIn wsL_act (wsV RL 193 RX7 yX7_readingAfter wsX7_readingAfter) := goodIn_app (goodIn_of _ (by decide +kernel)) ggL_act_X7_readingAfter
set_option maxRecDepth 20000 in
theorem ggL_act_X7_hairStock : GoodIn wsL_act wsX7_hairStock := goodIn_r _ [108, 6, 109, 287, 288, 289, 290, 291, 292, 293, 294, 295, 296, 297, 298, 299, 300] (by decide +kernel) (by decide +kernel)
set_option maxRecDepth 20000 in
theorem gL_act_X7_hairStock : GoodIn wsL_act (wsV RL 118 RX7 yX7_hairStock wsX7_hairStock) := goodIn_app (goodIn_of _ (by decide +kernel)) ggL_act_X7_hairStock
set_option maxRecDepth 20000 in
theorem ggL_act_L_advanced : GoodIn wsL_act wsL_advanced := goodIn_ca (goodIn_ca (goodIn_r _ [112, 113, 114, 115, 116, 117, 4, 118, 40, 41, 119, 120, 6, 43, 121, 122, 123, 124, 125, 126, 127, 128, 129, 130, 76, 73, 77, 131, 132, 133, 27, 134, 29, 135, 63, 98, 136, 137, 138, 30, 139, 45, 46, 47, 48, 49, 50, 51, 52, 53, 54, 55, 56, 57, 140, 141, 142, 143, 104, 59, 60, 61, 62, 64, 65, 66, 144, 68, 69, 70, 71, 72, 74, 75, 78, 79, 80, 81, 82, 83, 145, 146, 147, 148, 89, 287, 288, 289, 290, 291, 292, 293, 294, 295, 296, 297, 298, 299, 300, 310, 311, 312, 301, 302, 303, 304, 305, 306, 307, 308, 309] (by decide +kernel) (by decide +kernel)) (goodIn_sub (fun _ h => List.mem_cons_of_mem _ (List.mem_append_left _ (List.mem_append_right _ h))) (by decide +kernel))) (goodIn_sub (fun _ h => List.mem_cons_of_mem _ (List.mem_append_right _ h)) (by decide +kernel))
set_option maxRecDepth 20000 in
theorem gL_act_L_advanced : GoodIn wsL_act (va_wsS RL 225 yL_advanced wsL_advanced) := goodIn_app (goodIn_of _ (by decide +kernel)) ggL_act_L_advanced
set_option maxRecDepth 20000 in
theorem ggL_act_X7_readingOf : GoodIn wsL_act wsX7_readingOf := goodIn_ca (goodIn_r _ [152, 6, 18, 19, 20, 4, 21, 22, 23, 24, 25, 26, 27, 28, 29, 30, 84, 85, 86, 87, 88, 89, 76, 73, 77, 90, 72, 74, 91, 92, 93, 94, 95, 96, 97, 98, 99, 100, 101, 102, 103, 104, 59, 60, 61, 62, 63, 64, 65, 66, 78, 79, 287, 288, 289, 290, 291, 292, 293, 294, 295, 296, 297, 298, 299, 300, 301, 302, 303, 304, 305, 306, 307, 308, 309] (by decide +kernel) (by decide +kernel)) (goodIn_sub (fun _ h => List.mem_cons_of_mem _ (List.mem_append_left _ (List.mem_append_left _ (List.mem_append_right _ h)))) (by decide +kernel))
set_option maxRecDepth 20000 in
theorem gL_act_X7_readingOf : GoodIn wsL_act (wsV RL 175 RX7 yX7_readingOf wsX7_readingOf) := goodIn_app (goodIn_of _ (by decide +kernel)) ggL_act_X7_readingOf
set_option maxRecDepth 20000 in
theorem ggL_act_X7_humidity : GoodIn wsL_act wsX7_humidity := goodIn_r _ [156, 6, 157, 287, 288, 289, 290, 291, 292, 293, 294, 295, 296, 297, 298, 299, 300] (by decide +kernel) (by decide +kernel)
set_option maxRecDepth 20000 in
theorem gL_act_X7_humidity : GoodIn wsL_act (wsV RL 109 RX7 yX7_humidity wsX7_humidity) := goodIn_app (goodIn_of _ (by decide +kernel)) ggL_act_X7_humidity
set_option maxRecDepth 20000 in
theorem ggL_act_L_damped : GoodIn wsL_act wsL_damped := goodIn_ca (goodIn_r _ [160, 113, 161, 162, 163, 4, 164, 40, 41, 121, 6, 157, 122, 123, 124, 125, 126, 127, 128, 129, 130, 76, 73, 77, 131, 132, 133, 27, 134, 29, 135, 63, 98, 136, 137, 138, 30, 139, 45, 46, 47, 48, 49, 50, 51, 52, 53, 54, 55, 56, 57, 287, 288, 289, 290, 291, 292, 293, 294, 295, 296, 297, 298, 299, 300, 310, 311, 312, 301, 302, 303, 304, 305, 306, 307, 308, 309] (by decide +kernel) (by decide +kernel)) (goodIn_sub (fun _ h => List.mem_cons_of_mem _ (List.mem_append_left _ (List.mem_append_right _ h))) (by decide +kernel))
set_option maxRecDepth 20000 in
theorem gL_act_L_damped : GoodIn wsL_act (va_wsS RL 229 yL_damped wsL_damped) := goodIn_app (goodIn_of _ (by decide +kernel)) ggL_act_L_damped
set_option maxRecDepth 20000 in
theorem ggL_act_L_boxed : GoodIn wsL_act wsL_boxed := goodIn_ca (goodIn_ca (goodIn_ca (goodIn_r _ [167, 168, 113, 114, 169, 170, 171, 4, 172, 40, 41, 119, 120, 121, 6, 35, 18, 19, 20, 21, 22, 23, 24, 25, 26, 27, 28, 29, 30, 173, 174, 175, 66, 176, 177, 178, 47, 179, 57, 122, 123, 124, 125, 126, 127, 128, 129, 130, 76, 73, 77, 131, 132, 133, 134, 135, 63, 98, 136, 137, 138, 139, 45, 46, 48, 49, 50, 51, 52, 53, 54, 55, 56, 58, 59, 60, 61, 62, 64, 65, 287, 288, 289, 290, 291, 292, 301, 302, 303, 304, 305, 306, 307, 308, 309, 293, 294, 295, 296, 297, 298, 299, 300, 310, 311, 312] (by decide +kernel) (by decide +kernel)) (goodIn_sub (fun _ h => List.mem_cons_of_mem _ (List.mem_append_left _ (List.mem_append_right _ h))) (by decide +kernel))) (goodIn_sub (fun _ h => List.mem_cons_of_mem _ (List.mem_append_right _ h)) (by decide +kernel))) (goodIn_sub (fun _ h => List.mem_cons_of_mem _ (List.mem_append_left _ (List.mem_append_left _ (List.mem_append_right _ h)))) (by decide +kernel))
set_option maxRecDepth 20000 in
theorem gL_act_L_boxed : GoodIn wsL_act (va_wsS RL 232 yL_boxed wsL_boxed) := goodIn_app (goodIn_of _ (by decide +kernel)) ggL_act_L_boxed
set_option maxRecDepth 20000 in
theorem ggL_act_X7_fixedPoint : GoodIn wsL_act wsX7_fixedPoint := goodIn_ca (goodIn_r _ [183, 40, 41, 173, 174, 4, 175, 66, 184, 64, 65] (by decide +kernel) (by decide +kernel)) (goodIn_sub (fun _ h => List.mem_cons_of_mem _ (List.mem_append_left _ (List.mem_append_right _ h))) (by decide +kernel))
set_option maxRecDepth 20000 in
theorem gL_act_X7_fixedPoint : GoodIn wsL_act (wsV RL 152 RX7 yX7_fixedPoint wsX7_fixedPoint) := goodIn_app (goodIn_of _ (by decide +kernel)) ggL_act_X7_fixedPoint
set_option maxRecDepth 20000 in
theorem ggL_act_L_taught : GoodIn wsL_act wsL_taught := goodIn_ca (goodIn_r _ [187, 113, 188, 189, 190, 4, 191, 40, 41, 121, 6, 192, 122, 123, 124, 125, 126, 127, 128, 129, 130, 76, 73, 77, 131, 132, 133, 27, 134, 29, 135, 63, 98, 136, 137, 138, 30, 139, 45, 46, 47, 48, 49, 50, 51, 52, 53, 54, 55, 56, 57, 287, 288, 289, 290, 291, 292, 293, 294, 295, 296, 297, 298, 299, 300, 310, 311, 312, 301, 302, 303, 304, 305, 306, 307, 308, 309] (by decide +kernel) (by decide +kernel)) (goodIn_sub (fun _ h => List.mem_cons_of_mem _ (List.mem_append_left _ (List.mem_append_right _ h))) (by decide +kernel))
set_option maxRecDepth 20000 in
theorem gL_act_L_taught : GoodIn wsL_act (va_wsS RL 236 yL_taught wsL_taught) := goodIn_app (goodIn_of _ (by decide +kernel)) ggL_act_L_taught
set_option maxRecDepth 20000 in
theorem ggL_act_L_taken : GoodIn wsL_act wsL_taken := goodIn_ca (goodIn_ca (goodIn_r _ [195, 168, 114, 196, 197, 198, 4, 199, 119, 120, 121, 6, 35, 18, 19, 20, 21, 22, 23, 24, 25, 26, 27, 28, 29, 30, 176, 177, 178, 47, 179, 57, 122, 123, 124, 125, 126, 127, 128, 129, 130, 76, 73, 77, 131, 132, 133, 134, 135, 63, 98, 136, 137, 138, 139, 45, 46, 48, 49, 50, 51, 52, 53, 54, 55, 56, 287, 288, 289, 290, 291, 292, 301, 302, 303, 304, 305, 306, 307, 308, 309, 293, 294, 295, 296, 297, 298, 299, 300, 310, 311, 312] (by decide +kernel) (by decide +kernel)) (goodIn_sub (fun _ h => List.mem_cons_of_mem _ (List.mem_append_right _ h)) (by decide +kernel))) (goodIn_sub (fun _ h => List.mem_cons_of_mem _ (List.mem_append_left _ (List.mem_append_left _ (List.mem_append_right _ h)))) (by decide +kernel))
set_option maxRecDepth 20000 in
theorem gL_act_L_taken : GoodIn wsL_act (va_wsS RL 239 yL_taken wsL_taken) := goodIn_app (goodIn_of _ (by decide +kernel)) ggL_act_L_taken
