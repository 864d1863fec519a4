set_option maxRecDepth 20000 in
theorem ggX7_init_X2_init : GoodIn wsX7_init wsX2_init := goodIn_r _ [74, 75, 2, 3, 54, 76, 174, 175] (by decide +kernel) (by decide +kernel)
set_option maxRecDepth 20000 in
theorem gX7_init_X2_init_n39 : GoodIn wsX7_init (wsX2_init) := ggX7_init_X2_init
set_option maxRecDepth 20000 in
theorem ggX7_init_X1_init : GoodIn wsX7_init wsX1_init := goodIn_r _ [38, 39, 2, 3, 40, 176, 177, 178, 179, 180, 181, 182, 183, 184] (by decide +kernel) (by decide +kernel)
set_option maxRecDepth 20000 in
theorem gX7_init_X1_init_n46 : GoodIn wsX7_init (wsX1_init) := ggX7_init_X1_init
set_option maxRecDepth 20000 in
theorem ggX7_init_X4_begin : GoodIn wsX7_init wsX4_begin := goodIn_r _ [80, 81, 82, 83, 84, 85, 86, 87, 151, 152, 153, 154, 155, 156, 157, 158] (by decide +kernel) (by decide +kernel)
set_option maxRecDepth 20000 in
theorem gX7_init_X4_begin : GoodIn wsX7_init (wsV RX7 51 RX4 yX4_begin wsX4_begin) := goodIn_app (goodIn_of _ (by decide +kernel)) ggX7_init_X4_begin
set_option maxRecDepth 20000 in
theorem ggX7_init_X4_newHair : GoodIn wsX7_init wsX4_newHair := goodIn_r _ [91, 81, 36, 83, 92, 93, 94, 26, 95, 96, 97, 98, 99, 100, 101, 102, 103, 104, 105, 106, 107, 40, 151, 152, 153, 154, 155, 156, 157, 158, 176, 177, 178, 179, 180, 181, 182, 183, 184] (by decide +kernel) (by decide +kernel)
set_option maxRecDepth 20000 in
theorem gX7_init_X4_newHair : GoodIn wsX7_init (wsV RX7 55 RX4 yX4_newHair wsX4_newHair) := goodIn_app (goodIn_of _ (by decide +kernel)) ggX7_init_X4_newHair
set_option maxRecDepth 20000 in
theorem ggX7_init_X4_newBulb : GoodIn wsX7_init wsX4_newBulb := goodIn_r _ [111, 81, 36, 112, 113, 114, 26, 115, 106, 100, 101, 102, 103, 96, 97, 98, 104, 99, 105, 107, 40, 151, 152, 153, 154, 155, 156, 157, 158, 176, 177, 178, 179, 180, 181, 182, 183, 184] (by decide +kernel) (by decide +kernel)
set_option maxRecDepth 20000 in
theorem gX7_init_X4_newBulb : GoodIn wsX7_init (wsV RX7 59 RX4 yX4_newBulb wsX4_newBulb) := goodIn_app (goodIn_of _ (by decide +kernel)) ggX7_init_X4_newBulb
set_option maxRecDepth 20000 in
theorem ggX7_init_X4_pass : GoodIn wsX7_init wsX4_pass := goodIn_r _ [119, 87, 82, 81, 36, 120, 121, 122, 6, 123, 124, 83, 125, 126, 127, 128, 129, 130, 131, 26, 132, 96, 106, 133, 134, 135, 136, 97, 105, 137, 138, 139, 140, 141, 142, 143, 144, 145, 99, 146, 147, 148, 149, 85, 86, 150, 151, 152, 153, 154, 155, 156, 157, 158, 176, 177, 178, 179, 180, 181, 182, 183, 184] (by decide +kernel) (by decide +kernel)
set_option maxRecDepth 20000 in
theorem gX7_init_X4_pass : GoodIn wsX7_init (wsV RX7 66 RX4 yX4_pass wsX4_pass) := goodIn_app (goodIn_of _ (by decide +kernel)) ggX7_init_X4_pass
set_option maxRecDepth 20000 in
theorem ggX7_append_X6_put : GoodIn wsX7_append wsX6_put := goodIn_r _ [10, 11, 12, 23, 24, 25, 26, 27, 28] (by decide +kernel) (by decide +kernel)
set_option maxRecDepth 20000 in
theorem gX7_append_X6_put : GoodIn wsX7_append (wsV RX7 93 RX6 yX6_put wsX6_put) := goodIn_app (goodIn_of _ (by decide +kernel)) ggX7_append_X6_put
set_option maxRecDepth 20000 in
theorem ggX7_load_X3_parse : GoodIn wsX7_load wsX3_parse := goodIn_r _ [18, 19, 20, 21, 22, 23, 24, 25, 26, 27, 28, 29, 30, 31, 32, 33, 34, 35, 36, 37, 38, 39, 40, 17, 41, 42, 43, 44, 45, 46, 47, 48, 49, 50, 51, 52, 53, 54, 55, 56, 57, 58, 59, 60, 61, 62, 63, 64, 65, 66, 67, 68, 69, 70, 71, 72, 73, 74, 75, 76, 77, 78, 79, 80, 81, 82, 83, 84, 85, 86, 87, 88, 89, 90, 91, 92, 93, 94, 95, 96, 97, 98, 99, 100, 101, 102, 103, 104, 105, 106, 107, 108, 109, 110, 111, 112, 113, 114, 115, 116, 117, 118, 119, 120, 121, 122, 123, 124, 125, 126, 127, 128, 129, 130, 131, 132, 133, 134, 135, 136, 137, 138, 139, 140, 141, 142, 143, 144, 145, 146, 147, 148, 149, 150, 151, 152, 153, 154, 155, 156, 157, 158, 159, 160, 161, 162, 163, 164, 165, 166, 167, 168, 169, 170, 171, 172, 173, 174, 175, 176, 177, 178, 179, 180, 181, 182, 183, 184, 185, 186, 187, 188, 189, 190, 191, 192, 193, 194, 195, 196, 197, 198, 199, 200, 201, 202, 203, 204, 205, 206, 207, 208, 209, 210, 211, 212, 213, 214, 215, 216, 217, 218, 219, 220, 221, 222, 223, 224, 225, 226, 227, 228, 229, 230, 231, 232, 233, 234, 235, 236, 237, 238, 239, 240, 241, 242, 243, 244, 245, 246, 247, 248, 249, 250, 251, 252, 253, 254, 255, 283, 284, 285, 286, 287, 288, 289, 290, 291, 292, 301, 302, 303, 304, 293, 294, 295, 296, 297, 298, 299, 300, 305, 306, 307, 308, 309, 310, 311, 312, 313] (by decide +kernel) (by decide +kernel)
set_option maxRecDepth 20000 in
theorem gX7_load_X3_parse : GoodIn wsX7_load (wsV RX7 101 RX3 yX3_parse wsX3_parse) := goodIn_app (goodIn_of _ (by decide +kernel)) ggX7_load_X3_parse
set_option maxRecDepth 20000 in
theorem ggX7_load_X4_copyFrom : GoodIn wsX7_load wsX4_copyFrom := goodIn_r _ [259, 126, 127, 128, 129, 130, 131, 132, 146, 260, 261, 262, 150, 263, 152, 153, 154, 160, 155, 161, 162, 163, 164, 293, 294, 295, 296, 297, 298, 299, 300, 305, 306, 307, 308, 309, 310, 311, 312, 313] (by decide +kernel) (by decide +kernel)
set_option maxRecDepth 20000 in
theorem gX7_load_X4_copyFrom : GoodIn wsX7_load (wsV RX7 115 RX4 yX4_copyFrom wsX4_copyFrom) := goodIn_app (goodIn_of _ (by decide +kernel)) ggX7_load_X4_copyFrom
set_option maxRecDepth 20000 in
theorem ggX7_load_X0_forget : GoodIn wsX7_load wsX0_forget := goodIn_r _ [268, 269, 270, 314, 315, 316] (by decide +kernel) (by decide +kernel)
set_option maxRecDepth 20000 in
theorem gX7_load_X0_forget : GoodIn wsX7_load (wsV RX7 119 RX0 yX0_forget wsX0_forget) := goodIn_app (goodIn_of _ (by decide +kernel)) ggX7_load_X0_forget
set_option maxRecDepth 20000 in
theorem ggX7_load_X5_forget : GoodIn wsX7_load wsX5_forget := goodIn_r _ [275, 276, 317, 318] (by decide +kernel) (by decide +kernel)
set_option maxRecDepth 20000 in
theorem gX7_load_X5_forget : GoodIn wsX7_load (wsV RX7 122 RX5 yX5_forget wsX5_forget) := goodIn_app (goodIn_of _ (by decide +kernel)) ggX7_load_X5_forget
set_option maxRecDepth 20000 in
theorem ggX7_fixedPoint_X7_isSalt : GoodIn wsX7_fixedPoint wsX7_isSalt := goodIn_r _ [6, 7] (by decide +kernel) (by decide +kernel)
set_option maxRecDepth 20000 in
theorem gX7_fixedPoint_X7_isSalt : GoodIn wsX7_fixedPoint (va_wsS RX7 141 yX7_isSalt wsX7_isSalt) := goodIn_app (goodIn_of _ (by decide +kernel)) ggX7_fixedPoint_X7_isSalt
set_option maxRecDepth 20000 in
theorem ggX7_fixedPoint_X7_fixedPointOr : GoodIn wsX7_fixedPoint wsX7_fixedPointOr := goodIn_r _ [10, 7] (by decide +kernel) (by decide +kernel)
set_option maxRecDepth 20000 in
theorem gX7_fixedPoint_X7_fixedPointOr : GoodIn wsX7_fixedPoint (va_wsS RX7 147 yX7_fixedPointOr wsX7_fixedPointOr) := goodIn_app (goodIn_of _ (by decide +kernel)) ggX7_fixedPoint_X7_fixedPointOr
set_option maxRecDepth 20000 in
theorem ggX7_isHair_X7_instrumentAt : GoodIn wsX7_isHair wsX7_instrumentAt := goodIn_ca (goodIn_r _ [6, 7, 8, 9, 10, 11, 12, 13, 14, 15, 16, 26, 27, 28, 29, 30, 31, 32, 33, 34, 35, 36, 37, 38, 39] (by decide +kernel) (by decide +kernel)) (goodIn_sub (fun _ h => List.mem_cons_of_mem _ (List.mem_append_right _ h)) (by decide +kernel))
set_option maxRecDepth 20000 in
theorem gX7_isHair_X7_instrumentAt : GoodIn wsX7_isHair (wsV RX7 151 RX7 yX7_instrumentAt wsX7_instrumentAt) := goodIn_app (goodIn_of _ (by decide +kernel)) ggX7_isHair_X7_instrumentAt
set_option maxRecDepth 20000 in
theorem ggX7_hairsOf_X7_instrumentAt : GoodIn wsX7_hairsOf wsX7_instrumentAt := goodIn_ca (goodIn_r _ [7, 8, 9, 10, 11, 12, 13, 14, 15, 16, 17, 27, 28, 29, 30, 31, 32, 33, 34, 35, 36, 37, 38, 39, 40] (by decide +kernel) (by decide +kernel)) (goodIn_sub (fun _ h => List.mem_cons_of_mem _ (List.mem_append_right _ h)) (by decide +kernel))
set_option maxRecDepth 20000 in
theorem gX7_hairsOf_X7_instrumentAt : GoodIn wsX7_hairsOf (wsV RX7 151 RX7 yX7_instrumentAt wsX7_instrumentAt) := goodIn_app (goodIn_of _ (by decide +kernel)) ggX7_hairsOf_X7_instrumentAt
set_option maxRecDepth 20000 in
theorem ggX7_brokenOf_X7_instrumentAt : GoodIn wsX7_brokenOf wsX7_instrumentAt := goodIn_ca (goodIn_r _ [7, 8, 9, 10, 11, 12, 13, 14, 15, 16, 17, 27, 28, 29, 30, 31, 32, 33, 34, 35, 36, 37, 38, 39, 40] (by decide +kernel) (by decide +kernel)) (goodIn_sub (fun _ h => List.mem_cons_of_mem _ (List.mem_append_right _ h)) (by decide +kernel))
set_option maxRecDepth 20000 in
theorem gX7_brokenOf_X7_instrumentAt : GoodIn wsX7_brokenOf (wsV RX7 151 RX7 yX7_instrumentAt wsX7_instrumentAt) := goodIn_app (goodIn_of _ (by decide +kernel)) ggX7_brokenOf_X7_instrumentAt
set_option maxRecDepth 20000 in
theorem ggX7_wetnessOf_X7_instrumentAt : GoodIn wsX7_wetnessOf wsX7_instrumentAt := goodIn_ca (goodIn_r _ [7, 8, 9, 10, 11, 12, 13, 14, 15, 16, 17, 27, 28, 29, 30, 31, 32, 33, 34, 35, 36, 37, 38, 39, 40] (by decide +kernel) (by decide +kernel)) (goodIn_sub (fun _ h => List.mem_cons_of_mem _ (List.mem_append_right _ h)) (by decide +kernel))
set_option maxRecDepth 20000 in
theorem gX7_wetnessOf_X7_instrumentAt : GoodIn wsX7_wetnessOf (wsV RX7 151 RX7 yX7_instrumentAt wsX7_instrumentAt) := goodIn_app (goodIn_of _ (by decide +kernel)) ggX7_wetnessOf_X7_instrumentAt
set_option maxRecDepth 20000 in
theorem ggX7_slackOf_X7_instrumentAt : GoodIn wsX7_slackOf wsX7_instrumentAt := goodIn_ca (goodIn_r _ [7, 8, 9, 10, 11, 12, 13, 14, 15, 16, 17, 27, 28, 29, 30, 31, 32, 33, 34, 35, 36, 37, 38, 39, 40] (by decide +kernel) (by decide +kernel)) (goodIn_sub (fun _ h => List.mem_cons_of_mem _ (List.mem_append_right _ h)) (by decide +kernel))
set_option maxRecDepth 20000 in
theorem gX7_slackOf_X7_instrumentAt : GoodIn wsX7_slackOf (wsV RX7 151 RX7 yX7_instrumentAt wsX7_instrumentAt) := goodIn_app (goodIn_of _ (by decide +kernel)) ggX7_slackOf_X7_instrumentAt
set_option maxRecDepth 20000 in
theorem ggX7_waterOf_X7_instrumentAt : GoodIn wsX7_waterOf wsX7_instrumentAt := goodIn_ca (goodIn_r _ [7, 8, 9, 10, 11, 12, 13, 14, 15, 16, 17, 27, 28, 29, 30, 31, 32, 33, 34, 35, 36, 37, 38, 39, 40] (by decide +kernel) (by decide +kernel)) (goodIn_sub (fun _ h => List.mem_cons_of_mem _ (List.mem_append_right _ h)) (by decide +kernel))
set_option maxRecDepth 20000 in
theorem gX7_waterOf_X7_instrumentAt : GoodIn wsX7_waterOf (wsV RX7 151 RX7 yX7_instrumentAt wsX7_instrumentAt) := goodIn_app (goodIn_of _ (by decide +kernel)) ggX7_waterOf_X7_instrumentAt
set_option maxRecDepth 20000 in
theorem ggX7_depressionOf_X7_instrumentAt : GoodIn wsX7_depressionOf wsX7_instrumentAt := goodIn_ca (goodIn_r _ [7, 8, 9, 2, 10, 11, 12, 13, 14, 15, 16, 41, 42, 43, 44, 45, 46, 47, 48, 49, 50, 51, 52, 53, 54] (by decide +kernel) (by decide +kernel)) (goodIn_sub (fun _ h => List.mem_cons_of_mem _ (List.mem_append_right _ h)) (by decide +kernel))
set_option maxRecDepth 20000 in
theorem gX7_depressionOf_X7_instrumentAt : GoodIn wsX7_depressionOf (wsV RX7 151 RX7 yX7_instrumentAt wsX7_instrumentAt) := goodIn_app (goodIn_of _ (by decide +kernel)) ggX7_depressionOf_X7_instrumentAt
set_option maxRecDepth 20000 in
theorem ggX7_depressionOf_X4_depression : GoodIn wsX7_depressionOf wsX4_depression := goodIn_r _ [20, 21, 22, 23, 24, 25, 13, 26, 27, 28, 29, 6, 30, 31, 32, 33, 34, 35, 36, 37, 38, 39, 40, 47, 48, 49, 50, 51, 52, 53, 54] (by decide +kernel) (by decide +kernel)
set_option maxRecDepth 20000 in
theorem gX7_depressionOf_X4_depression : GoodIn wsX7_depressionOf (wsV RX7 174 RX4 yX4_depression wsX4_depression) := goodIn_app (goodIn_of _ (by decide +kernel)) ggX7_depressionOf_X4_depression
set_option maxRecDepth 20000 in
theorem ggX7_zeroOf_X7_instrumentAt : GoodIn wsX7_zeroOf wsX7_instrumentAt := goodIn_ca (goodIn_r _ [6, 7, 8, 9, 10, 11, 12, 13, 14, 15, 16, 26, 27, 28, 29, 30, 31, 32, 33, 34, 35, 36, 37, 38, 39] (by decide +kernel) (by decide +kernel)) (goodIn_sub (fun _ h => List.mem_cons_of_mem _ (List.mem_append_right _ h)) (by decide +kernel))
set_option maxRecDepth 20000 in
theorem gX7_zeroOf_X7_instrumentAt : GoodIn wsX7_zeroOf (wsV RX7 151 RX7 yX7_instrumentAt wsX7_instrumentAt) := goodIn_app (goodIn_of _ (by decide +kernel)) ggX7_zeroOf_X7_instrumentAt
set_option maxRecDepth 20000 in
theorem ggX7_boxOf_X7_instrumentAt : GoodIn wsX7_boxOf wsX7_instrumentAt := goodIn_ca (goodIn_r _ [6, 7, 8, 9, 10, 11, 12, 13, 14, 15, 16, 26, 27, 28, 29, 30, 31, 32, 33, 34, 35, 36, 37, 38, 39] (by decide +kernel) (by decide +kernel)) (goodIn_sub (fun _ h => List.mem_cons_of_mem _ (List.mem_append_right _ h)) (by decide +kernel))
set_option maxRecDepth 20000 in
theorem gX7_boxOf_X7_instrumentAt : GoodIn wsX7_boxOf (wsV RX7 151 RX7 yX7_instrumentAt wsX7_instrumentAt) := goodIn_app (goodIn_of _ (by decide +kernel)) ggX7_boxOf_X7_instrumentAt
set_option maxRecDepth 20000 in
theorem ggX7_surroundingOf_X7_instrumentAt : GoodIn wsX7_surroundingOf wsX7_instrumentAt := goodIn_ca (goodIn_r _ [6, 7, 8, 1, 9, 10, 11, 12, 13, 14, 15, 25, 26, 27, 28, 29, 30, 31, 32, 33, 34, 35, 36, 37, 38] (by decide +kernel) (by decide +kernel)) (goodIn_sub (fun _ h => List.mem_cons_of_mem _ (List.mem_append_right _ h)) (by decide +kernel))
set_option maxRecDepth 20000 in
theorem gX7_surroundingOf_X7_instrumentAt : GoodIn wsX7_surroundingOf (wsV RX7 151 RX7 yX7_instrumentAt wsX7_instrumentAt) := goodIn_app (goodIn_of _ (by decide +kernel)) ggX7_surroundingOf_X7_instrumentAt
set_option maxRecDepth 20000 in
theorem ggX7_surroundingOf_X4_surrounding : GoodIn wsX7_surroundingOf wsX4_surrounding := goodIn_r _ [19, 20, 21, 22, 5, 23, 24, 39, 40, 41, 42, 43, 44, 45, 46, 47, 31, 32, 33, 34, 35, 36, 37, 38] (by decide +kernel) (by decide +kernel)
set_option maxRecDepth 20000 in
theorem gX7_surroundingOf_X4_surrounding : GoodIn wsX7_surroundingOf (wsV RX7 181 RX4 yX4_surrounding wsX4_surrounding) := goodIn_app (goodIn_of _ (by decide +kernel)) ggX7_surroundingOf_X4_surrounding
set_option maxRecDepth 20000 in
theorem ggX7_rawValue_X7_instrumentAt : GoodIn wsX7_rawValue wsX7_instrumentAt := goodIn_ca (goodIn_r _ [6, 7, 8, 1, 9, 10, 11, 12, 13, 14, 15, 40, 41, 42, 43, 44, 45, 46, 47, 48, 49, 50, 51, 52, 53] (by decide +kernel) (by decide +kernel)) (goodIn_sub (fun _ h => List.mem_cons_of_mem _ (List.mem_append_right _ h)) (by decide +kernel))
set_option maxRecDepth 20000 in
theorem gX7_rawValue_X7_instrumentAt : GoodIn wsX7_rawValue (wsV RX7 151 RX7 yX7_instrumentAt wsX7_instrumentAt) := goodIn_app (goodIn_of _ (by decide +kernel)) ggX7_rawValue_X7_instrumentAt
set_option maxRecDepth 20000 in
theorem ggX7_rawValue_X4_raw : GoodIn wsX7_rawValue wsX4_raw := goodIn_r _ [19, 20, 21, 22, 23, 24, 25, 26, 12, 27, 28, 29, 30, 31, 32, 33, 34, 35, 5, 36, 37, 38, 39, 54, 55, 56, 57, 58, 59, 60, 61, 62, 46, 47, 48, 49, 50, 51, 52, 53] (by decide +kernel) (by decide +kernel)
set_option maxRecDepth 20000 in
theorem gX7_rawValue_X4_raw : GoodIn wsX7_rawValue (wsV RX7 184 RX4 yX4_raw wsX4_raw) := goodIn_app (goodIn_of _ (by decide +kernel)) ggX7_rawValue_X4_raw
set_option maxRecDepth 20000 in
theorem ggX7_readingOf_X7_instrumentAt : GoodIn wsX7_readingOf wsX7_instrumentAt := goodIn_ca (goodIn_r _ [6, 7, 8, 1, 9, 10, 11, 12, 13, 14, 15, 52, 53, 54, 55, 56, 57, 58, 59, 60, 61, 62, 63, 64, 65] (by decide +kernel) (by decide +kernel)) (goodIn_sub (fun _ h => List.mem_cons_of_mem _ (List.mem_append_right _ h)) (by decide +kernel))
set_option maxRecDepth 20000 in
theorem gX7_readingOf_X7_instrumentAt : GoodIn wsX7_readingOf (wsV RX7 151 RX7 yX7_instrumentAt wsX7_instrumentAt) := goodIn_app (goodIn_of _ (by decide +kernel)) ggX7_readingOf_X7_instrumentAt
set_option maxRecDepth 20000 in
theorem ggX7_readingOf_X4_reading : GoodIn wsX7_readingOf wsX4_reading := goodIn_r _ [19, 20, 21, 22, 23, 24, 25, 26, 27, 28, 29, 30, 12, 31, 32, 33, 34, 35, 36, 37, 38, 39, 40, 41, 42, 43, 44, 45, 46, 47, 5, 48, 49, 50, 51, 66, 67, 68, 69, 70, 71, 72, 73, 74, 58, 59, 60, 61, 62, 63, 64, 65] (by decide +kernel) (by decide +kernel)
set_option maxRecDepth 20000 in
theorem gX7_readingOf_X4_reading : GoodIn wsX7_readingOf (wsV RX7 187 RX4 yX4_reading wsX4_reading) := goodIn_app (goodIn_of _ (by decide +kernel)) ggX7_readingOf_X4_reading
set_option maxRecDepth 20000 in
theorem ggX7_errorOf_X7_instrumentAt : GoodIn wsX7_errorOf wsX7_instrumentAt := goodIn_ca (goodIn_r _ [6, 7, 8, 1, 9, 10, 11, 12, 13, 14, 15, 53, 54, 55, 56, 57, 58, 59, 60, 61, 62, 63, 64, 65, 66] (by decide +kernel) (by decide +kernel)) (goodIn_sub (fun _ h => List.mem_cons_of_mem _ (List.mem_append_right _ h)) (by decide +kernel))
set_option maxRecDepth 20000 in
theorem gX7_errorOf_X7_instrumentAt : GoodIn wsX7_errorOf (wsV RX7 151 RX7 yX7_instrumentAt wsX7_instrumentAt) := goodIn_app (goodIn_of _ (by decide +kernel)) ggX7_errorOf_X7_instrumentAt
set_option maxRecDepth 20000 in
theorem ggX7_errorOf_X4_reading : GoodIn wsX7_errorOf wsX4_reading := goodIn_r _ [19, 20, 21, 22, 23, 24, 25, 26, 27, 28, 29, 30, 12, 31, 32, 33, 34, 35, 36, 37, 38, 39, 40, 41, 42, 43, 44, 45, 46, 47, 5, 48, 49, 50, 51, 67, 68, 69, 70, 71, 72, 73, 74, 75, 59, 60, 61, 62, 63, 64, 65, 66] (by decide +kernel) (by decide +kernel)
set_option maxRecDepth 20000 in
theorem gX7_errorOf_X4_reading : GoodIn wsX7_errorOf (wsV RX7 187 RX4 yX4_reading wsX4_reading) := goodIn_app (goodIn_of _ (by decide +kernel)) ggX7_errorOf_X4_reading
set_option maxRecDepth 20000 in
theorem ggX7_errorOf_X4_surrounding : GoodIn wsX7_errorOf wsX4_surrounding := goodIn_r _ [44, 45, 46, 47, 5, 48, 49, 67, 68, 69, 70, 71, 72, 73, 74, 75, 59, 60, 61, 62, 63, 64, 65, 66] (by decide +kernel) (by decide +kernel)
set_option maxRecDepth 20000 in
theorem gX7_errorOf_X4_surrounding : GoodIn wsX7_errorOf (wsV RX7 181 RX4 yX4_surrounding wsX4_surrounding) := goodIn_app (goodIn_of _ (by decide +kernel)) ggX7_errorOf_X4_surrounding
set_option maxRecDepth 20000 in
theorem ggX7_isSettled_X7_instrumentAt : GoodIn wsX7_isSettled wsX7_instrumentAt := goodIn_ca (goodIn_r _ [6, 7, 8, 1, 9, 10, 11, 12, 13, 14, 15, 32, 33, 34, 35, 36, 37, 38, 39, 40, 41, 42, 43, 44, 45] (by decide +kernel) (by decide +kernel)) (goodIn_sub (fun _ h => List.mem_cons_of_mem _ (List.mem_append_right _ h)) (by decide +kernel))
set_option maxRecDepth 20000 in
theorem gX7_isSettled_X7_instrumentAt : GoodIn wsX7_isSettled (wsV RX7 151 RX7 yX7_instrumentAt wsX7_instrumentAt) := goodIn_app (goodIn_of _ (by decide +kernel)) ggX7_isSettled_X7_instrumentAt
set_option maxRecDepth 20000 in
theorem ggX7_isSettled_X4_settled : GoodIn wsX7_isSettled wsX4_settled := goodIn_r _ [19, 20, 21, 22, 23, 24, 25, 12, 26, 27, 28, 29, 5, 30, 31, 46, 47, 48, 49, 50, 51, 52, 53, 54, 38, 39, 40, 41, 42, 43, 44, 45] (by decide +kernel) (by decide +kernel)
set_option maxRecDepth 20000 in
theorem gX7_isSettled_X4_settled : GoodIn wsX7_isSettled (wsV RX7 190 RX4 yX4_settled wsX4_settled) := goodIn_app (goodIn_of _ (by decide +kernel)) ggX7_isSettled_X4_settled
set_option maxRecDepth 20000 in
theorem ggX7_whyUnusable_X7_instrumentAt : GoodIn wsX7_whyUnusable wsX7_instrumentAt := goodIn_ca (goodIn_r _ [5, 6, 7, 8, 9, 10, 11, 12, 13, 14, 15, 30, 31, 32, 33, 34, 35, 36, 37, 38, 39, 40, 41, 42, 43] (by decide +kernel) (by decide +kernel)) (goodIn_sub (fun _ h => List.mem_cons_of_mem _ (List.mem_append_right _ h)) (by decide +kernel))
set_option maxRecDepth 20000 in
theorem gX7_whyUnusable_X7_instrumentAt : GoodIn wsX7_whyUnusable (wsV RX7 151 RX7 yX7_instrumentAt wsX7_instrumentAt) := goodIn_app (goodIn_of _ (by decide +kernel)) ggX7_whyUnusable_X7_instrumentAt
set_option maxRecDepth 20000 in
theorem ggX7_whyUnusable_X1_flaw : GoodIn wsX7_whyUnusable wsX1_flaw := goodIn_r _ [20, 21, 22, 23, 24, 25, 26, 27, 19, 28, 29, 44, 45, 46, 47, 48, 49, 50, 51, 52] (by decide +kernel) (by decide +kernel)
set_option maxRecDepth 20000 in
theorem gX7_whyUnusable_X1_flaw : GoodIn wsX7_whyUnusable (wsV RX7 194 RX1 yX1_flaw wsX1_flaw) := goodIn_app (goodIn_of _ (by decide +kernel)) ggX7_whyUnusable_X1_flaw
set_option maxRecDepth 20000 in
theorem ggX7_weightOf_X7_instrumentAt : GoodIn wsX7_weightOf wsX7_instrumentAt := goodIn_ca (goodIn_r _ [5, 6, 7, 8, 9, 10, 11, 12, 13, 14, 15, 34, 35, 36, 37, 38, 39, 40, 41, 42, 43, 44, 45, 46, 47] (by decide +kernel) (by decide +kernel)) (goodIn_sub (fun _ h => List.mem_cons_of_mem _ (List.mem_append_right _ h)) (by decide +kernel))
set_option maxRecDepth 20000 in
theorem gX7_weightOf_X7_instrumentAt : GoodIn wsX7_weightOf (wsV RX7 151 RX7 yX7_instrumentAt wsX7_instrumentAt) := goodIn_app (goodIn_of _ (by decide +kernel)) ggX7_weightOf_X7_instrumentAt
set_option maxRecDepth 20000 in
theorem ggX7_weightOf_X1_weight : GoodIn wsX7_weightOf wsX1_weight := goodIn_r _ [20, 21, 22, 23, 24, 25, 19, 26, 27, 28, 29, 30, 31, 32, 33, 48, 49, 50, 51, 52, 53, 54, 55, 56] (by decide +kernel) (by decide +kernel)
set_option maxRecDepth 20000 in
theorem gX7_weightOf_X1_weight : GoodIn wsX7_weightOf (wsV RX7 198 RX1 yX1_weight wsX1_weight) := goodIn_app (goodIn_of _ (by decide +kernel)) ggX7_weightOf_X1_weight
set_option maxRecDepth 20000 in
theorem ggX7_calibrationObstacle_X7_instrumentAt : GoodIn wsX7_calibrationObstacle wsX7_instrumentAt := goodIn_ca (goodIn_r _ [6, 7, 8, 1, 9, 10, 11, 12, 13, 14, 15, 42, 43, 44, 45, 46, 47, 48, 49, 50, 51, 52, 53, 54, 55] (by decide +kernel) (by decide +kernel)) (goodIn_sub (fun _ h => List.mem_cons_of_mem _ (List.mem_append_right _ h)) (by decide +kernel))
set_option maxRecDepth 20000 in
theorem gX7_calibrationObstacle_X7_instrumentAt : GoodIn wsX7_calibrationObstacle (wsV RX7 151 RX7 yX7_instrumentAt wsX7_instrumentAt) := goodIn_app (goodIn_of _ (by decide +kernel)) ggX7_calibrationObstacle_X7_instrumentAt
set_option maxRecDepth 20000 in
theorem ggX7_calibrationObstacle_X4_obstacle : GoodIn wsX7_calibrationObstacle wsX4_obstacle := goodIn_r _ [19, 20, 21, 22, 23, 24, 25, 26, 27, 28, 12, 29, 30, 31, 32, 33, 34, 35, 36, 37, 38, 39, 5, 40, 41, 56, 57, 58, 59, 60, 61, 62, 63, 64, 48, 49, 50, 51, 52, 53, 54, 55] (by decide +kernel) (by decide +kernel)
set_option maxRecDepth 20000 in
theorem gX7_calibrationObstacle_X4_obstacle : GoodIn wsX7_calibrationObstacle (wsV RX7 201 RX4 yX4_obstacle wsX4_obstacle) := goodIn_app (goodIn_of _ (by decide +kernel)) ggX7_calibrationObstacle_X4_obstacle
set_option maxRecDepth 20000 in
theorem ggX7_usableInstruments_X4_countUsable : GoodIn wsX7_usableInstruments wsX4_countUsable := goodIn_r _ [6, 7, 8, 9, 10, 11, 12, 13, 14, 15, 16, 17, 18, 19, 20, 21, 22, 29, 30, 31, 32, 33, 34, 35, 36, 37, 38, 39, 40, 41, 42, 43, 44, 45] (by decide +kernel) (by decide +kernel)
set_option maxRecDepth 20000 in
theorem gX7_usableInstruments_X4_countUsable : GoodIn wsX7_usableInstruments (wsV RX7 204 RX4 yX4_countUsable wsX4_countUsable) := goodIn_app (goodIn_of _ (by decide +kernel)) ggX7_usableInstruments_X4_countUsable
set_option maxRecDepth 20000 in
theorem ggX7_blend_X4_blended : GoodIn wsX7_blend wsX4_blended := goodIn_r _ [6, 7, 8, 9, 10, 11, 12, 13, 14, 15, 16, 17, 18, 19, 20, 21, 22, 23, 24, 25, 26, 27, 28, 29, 5, 30, 31, 32, 33, 34, 35, 36, 37, 38, 39, 40, 41, 42, 43, 44, 45, 46, 47, 48, 49, 50, 51, 52, 53, 54, 55, 56, 57, 58, 59, 60, 61, 62, 63, 70, 71, 72, 73, 74, 75, 76, 77, 78, 79, 80, 81, 82, 83, 84, 85, 86] (by decide +kernel) (by decide +kernel)
set_option maxRecDepth 20000 in
theorem gX7_blend_X4_blended : GoodIn wsX7_blend (wsV RX7 207 RX4 yX4_blended wsX4_blended) := goodIn_app (goodIn_of _ (by decide +kernel)) ggX7_blend_X4_blended
set_option maxRecDepth 20000 in
theorem ggX7_bestInstrument_X4_nearest : GoodIn wsX7_bestInstrument wsX4_nearest := goodIn_r _ [6, 7, 8, 9, 10, 11, 12, 13, 14, 15, 16, 5, 17, 18, 19, 20, 21, 22, 23, 24, 25, 26, 27, 28, 29, 30, 31, 32, 33, 34, 35, 36, 37, 38, 39, 40, 41, 42, 43, 44, 45, 46, 47, 48, 49, 50, 51, 52, 53, 54, 55, 56, 57, 58, 59, 60, 61, 62, 69, 70, 71, 72, 73, 74, 75, 76, 77, 78, 79, 80, 81, 82, 83, 84, 85] (by decide +kernel) (by decide +kernel)
set_option maxRecDepth 20000 in
theorem gX7_bestInstrument_X4_nearest : GoodIn wsX7_bestInstrument (wsV RX7 210 RX4 yX4_nearest wsX4_nearest) := goodIn_app (goodIn_of _ (by decide +kernel)) ggX7_bestInstrument_X4_nearest
set_option maxRecDepth 20000 in
theorem ggX7_slackestInstrument_X4_slackest : GoodIn wsX7_slackestInstrument wsX4_slackest := goodIn_r _ [6, 7, 8, 9, 10, 17, 18, 19, 20, 21, 22, 23, 24, 25, 26, 27, 28, 29, 30, 31, 32, 33] (by decide +kernel) (by decide +kernel)
set_option maxRecDepth 20000 in
theorem gX7_slackestInstrument_X4_slackest : GoodIn wsX7_slackestInstrument (wsV RX7 213 RX4 yX4_slackest wsX4_slackest) := goodIn_app (goodIn_of _ (by decide +kernel)) ggX7_slackestInstrument_X4_slackest
set_option maxRecDepth 20000 in
theorem ggX7_disagreements_X4_countDisagreeing : GoodIn wsX7_disagreements wsX4_countDisagreeing := goodIn_r _ [6, 7, 8, 9, 10, 11, 12, 13, 14, 15, 16, 17, 5, 18, 19, 20, 21, 22, 23, 24, 25, 26, 27, 28, 29, 30, 31, 32, 33, 34, 35, 36, 37, 38, 39, 40, 41, 42, 43, 44, 45, 46, 47, 48, 49, 50, 51, 52, 53, 54, 55, 62, 63, 64, 65, 66, 67, 68, 69, 70, 71, 72, 73, 74, 75, 76, 77, 78] (by decide +kernel) (by decide +kernel)
set_option maxRecDepth 20000 in
theorem gX7_disagreements_X4_countDisagreeing : GoodIn wsX7_disagreements (wsV RX7 216 RX4 yX4_countDisagreeing wsX4_countDisagreeing) := goodIn_app (goodIn_of _ (by decide +kernel)) ggX7_disagreements_X4_countDisagreeing
set_option maxRecDepth 20000 in
theorem ggX7_spread_X4_readingSpan : GoodIn wsX7_spread wsX4_readingSpan := goodIn_r _ [6, 7, 8, 9, 10, 11, 12, 13, 14, 15, 16, 17, 18, 19, 20, 21, 22, 23, 24, 25, 26, 27, 28, 29, 30, 31, 32, 5, 33, 34, 35, 36, 37, 38, 39, 40, 41, 42, 43, 44, 45, 46, 47, 48, 49, 50, 51, 52, 53, 54, 55, 56, 57, 58, 59, 66, 67, 68, 69, 70, 71, 72, 73, 74, 75, 76, 77, 78, 79, 80, 81, 82] (by decide +kernel) (by decide +kernel)
set_option maxRecDepth 20000 in
theorem gX7_spread_X4_readingSpan : GoodIn wsX7_spread (wsV RX7 219 RX4 yX4_readingSpan wsX4_readingSpan) := goodIn_app (goodIn_of _ (by decide +kernel)) ggX7_spread_X4_readingSpan
set_option maxRecDepth 20000 in
theorem ggX7_readingAfter_X7_instrumentAt : GoodIn wsX7_readingAfter wsX7_instrumentAt := goodIn_ca (goodIn_r _ [10, 11, 12, 4, 13, 14, 15, 16, 17, 18, 19, 81, 82, 83, 84, 85, 86, 87, 88, 89, 90, 91, 92, 93, 94] (by decide +kernel) (by decide +kernel)) (goodIn_sub (fun _ h => List.mem_cons_of_mem _ (List.mem_append_right _ h)) (by decide +kernel))
set_option maxRecDepth 20000 in
theorem gX7_readingAfter_X7_instrumentAt : GoodIn wsX7_readingAfter (wsV RX7 151 RX7 yX7_instrumentAt wsX7_instrumentAt) := goodIn_app (goodIn_of _ (by decide +kernel)) ggX7_readingAfter_X7_instrumentAt
set_option maxRecDepth 20000 in
theorem ggX7_readingAfter_X1_copyFrom : GoodIn wsX7_readingAfter wsX1_copyFrom := goodIn_r _ [24, 25, 26, 27, 28, 29, 30, 31, 32, 33, 95, 96, 97, 98, 99, 100, 101, 102, 103] (by decide +kernel) (by decide +kernel)
set_option maxRecDepth 20000 in
theorem gX7_readingAfter_X1_copyFrom : GoodIn wsX7_readingAfter (wsV RX7 222 RX1 yX1_copyFrom wsX1_copyFrom) := goodIn_app (goodIn_of _ (by decide +kernel)) ggX7_readingAfter_X1_copyFrom
