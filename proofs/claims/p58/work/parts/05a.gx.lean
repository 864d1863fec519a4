set_option maxRecDepth 20000 in
theorem ggX0_init_X4_init : GoodIn wsX0_init wsX4_init := goodIn_r _ [10, 11, 2, 3, 12, 13, 14, 15, 16, 17, 18, 19, 23, 24, 25, 26, 27, 28, 29, 30, 31, 32, 33, 34, 35, 36, 37, 38, 39] (by decide +kernel) (by decide +kernel)
set_option maxRecDepth 20000 in
theorem gX0_init_X4_init : GoodIn wsX0_init (wsX4_init) := ggX0_init_X4_init
set_option maxRecDepth 20000 in
theorem ggX0_record_X4_copyFrom : GoodIn wsX0_record wsX4_copyFrom := goodIn_r _ [12, 13, 14, 15, 16, 17, 18, 19, 20, 21, 22, 23, 24, 25, 26, 27, 28, 29, 30, 31, 32, 33, 34, 38, 39, 40, 41, 42, 43, 44, 45, 46, 47, 48, 49, 50, 51, 52, 53, 54] (by decide +kernel) (by decide +kernel)
set_option maxRecDepth 20000 in
theorem gX0_record_X4_copyFrom : GoodIn wsX0_record (wsV RX0 25 RX4 yX4_copyFrom wsX4_copyFrom) := goodIn_app (goodIn_of _ (by decide +kernel)) ggX0_record_X4_copyFrom
set_option maxRecDepth 20000 in
theorem ggX0_takeBack_X4_copyFrom : GoodIn wsX0_takeBack wsX4_copyFrom := goodIn_r _ [8, 9, 10, 11, 12, 13, 14, 15, 16, 17, 18, 19, 20, 21, 22, 23, 24, 25, 26, 27, 28, 29, 30, 34, 35, 36, 37, 38, 39, 40, 41, 42, 43, 44, 45, 46, 47, 48, 49, 50] (by decide +kernel) (by decide +kernel)
set_option maxRecDepth 20000 in
theorem gX0_takeBack_X4_copyFrom : GoodIn wsX0_takeBack (wsV RX0 25 RX4 yX4_copyFrom wsX4_copyFrom) := goodIn_app (goodIn_of _ (by decide +kernel)) ggX0_takeBack_X4_copyFrom
set_option maxRecDepth 20000 in
theorem ggX1_becomeHair_X1_clear : GoodIn wsX1_becomeHair wsX1_clear := goodIn_r _ [9, 1, 2, 3, 10, 4, 11, 12, 13, 14, 15, 16, 17, 18, 19, 20, 21, 22, 23] (by decide +kernel) (by decide +kernel)
set_option maxRecDepth 20000 in
theorem gX1_becomeHair_X1_clear : GoodIn wsX1_becomeHair (wsV RX1 15 RX1 yX1_clear wsX1_clear) := goodIn_app (goodIn_of _ (by decide +kernel)) ggX1_becomeHair_X1_clear
set_option maxRecDepth 20000 in
theorem ggX1_becomeBulb_X1_clear : GoodIn wsX1_becomeBulb wsX1_clear := goodIn_r _ [6, 7, 8, 9, 10, 11, 12, 1, 13, 14, 15, 16, 17, 18, 19, 20, 21, 22, 23] (by decide +kernel) (by decide +kernel)
set_option maxRecDepth 20000 in
theorem gX1_becomeBulb_X1_clear : GoodIn wsX1_becomeBulb (wsV RX1 15 RX1 yX1_clear wsX1_clear) := goodIn_app (goodIn_of _ (by decide +kernel)) ggX1_becomeBulb_X1_clear
set_option maxRecDepth 20000 in
theorem ggX1_flaw_X1_isBoxed : GoodIn wsX1_flaw wsX1_isBoxed := goodIn_r _ [9, 10, 11, 12, 13, 14, 15, 16, 17, 18, 19] (by decide +kernel) (by decide +kernel)
set_option maxRecDepth 20000 in
theorem gX1_flaw_X1_isBoxed : GoodIn wsX1_flaw (wsV RX1 43 RX1 yX1_isBoxed wsX1_isBoxed) := goodIn_app (goodIn_of _ (by decide +kernel)) ggX1_flaw_X1_isBoxed
set_option maxRecDepth 20000 in
theorem ggX1_weight_X1_flaw : GoodIn wsX1_weight wsX1_flaw := goodIn_r _ [7, 1, 2, 8, 9, 10, 11, 12, 6, 13, 14, 15, 16, 17, 18, 19, 20, 21, 22, 23] (by decide +kernel) (by decide +kernel)
set_option maxRecDepth 20000 in
theorem gX1_weight_X1_flaw : GoodIn wsX1_weight (wsV RX1 47 RX1 yX1_flaw wsX1_flaw) := goodIn_app (goodIn_of _ (by decide +kernel)) ggX1_weight_X1_flaw
set_option maxRecDepth 20000 in
theorem ggX1_age_X7_quotient : GoodIn wsX1_age wsX7_quotient := goodIn_r _ [14] (by decide +kernel) (by decide +kernel)
set_option maxRecDepth 20000 in
theorem gX1_age_X7_quotient_n57 : GoodIn wsX1_age (wsX7_quotient) := ggX1_age_X7_quotient
set_option maxRecDepth 20000 in
theorem ggX1_age_X1_moveWetness : GoodIn wsX1_age wsX1_moveWetness := goodIn_r _ [19, 20, 9, 10, 5, 11, 3, 4, 6, 21, 22, 23, 24, 25, 26, 27, 28, 29] (by decide +kernel) (by decide +kernel)
set_option maxRecDepth 20000 in
theorem gX1_age_X1_moveWetness : GoodIn wsX1_age (wsV RX1 60 RX1 yX1_moveWetness wsX1_moveWetness) := goodIn_app (goodIn_of _ (by decide +kernel)) ggX1_age_X1_moveWetness
set_option maxRecDepth 20000 in
theorem ggX3_init_X6_init : GoodIn wsX3_init wsX6_init := goodIn_r _ [14, 15, 2, 3, 16, 17, 30, 31, 32, 33, 34, 35] (by decide +kernel) (by decide +kernel)
set_option maxRecDepth 20000 in
theorem gX3_init_X6_init_n11 : GoodIn wsX3_init (wsX6_init) := ggX3_init_X6_init
set_option maxRecDepth 20000 in
theorem ggX3_init_X4_init : GoodIn wsX3_init wsX4_init := goodIn_r _ [20, 21, 2, 3, 22, 23, 24, 25, 26, 27, 28, 29, 40, 41, 42, 43, 44, 45, 46, 47, 48, 49, 50, 51, 52, 53, 54, 55, 56] (by decide +kernel) (by decide +kernel)
set_option maxRecDepth 20000 in
theorem gX3_init_X4_init : GoodIn wsX3_init (wsX4_init) := ggX3_init_X4_init
set_option maxRecDepth 20000 in
theorem ggX3_parse_X6_begin : GoodIn wsX3_parse wsX6_begin := goodIn_r _ [10, 11, 12, 13, 14, 15, 16, 17, 18, 19, 243, 244, 245, 246, 247, 248] (by decide +kernel) (by decide +kernel)
set_option maxRecDepth 20000 in
theorem gX3_parse_X6_begin : GoodIn wsX3_parse (wsV RX3 32 RX6 yX6_begin wsX6_begin) := goodIn_app (goodIn_of _ (by decide +kernel)) ggX3_parse_X6_begin
set_option maxRecDepth 20000 in
theorem ggX3_parse_X3_readHead : GoodIn wsX3_parse wsX3_readHead := goodIn_r _ [24, 3, 1, 25, 26, 27, 28, 9, 29, 18, 16, 30, 17, 19, 31, 32, 33, 34, 35, 36, 37, 38, 39, 40, 41, 42, 43, 44, 45, 46, 47, 48, 49, 50, 51, 52, 53, 54, 55, 56, 57, 58, 59, 60, 61, 62, 63, 64, 65, 66, 67, 68, 69, 70, 71, 72, 73, 74, 75, 76, 77, 78, 79, 80, 81, 82, 83, 84, 85, 86, 87, 88, 89, 90, 91, 92, 93, 23, 94, 95, 2, 96, 97, 98, 99, 4, 100, 101, 102, 103, 104, 105, 106, 107, 108, 109, 110, 111, 112, 113, 114, 115, 239, 240, 241, 242, 243, 244, 245, 246, 247, 248, 249, 250, 251, 252, 253, 254, 255, 256, 257, 258, 259, 260] (by decide +kernel) (by decide +kernel)
set_option maxRecDepth 20000 in
theorem gX3_parse_X3_readHead : GoodIn wsX3_parse (wsV RX3 36 RX3 yX3_readHead wsX3_readHead) := goodIn_app (goodIn_of _ (by decide +kernel)) ggX3_parse_X3_readHead
set_option maxRecDepth 20000 in
theorem ggX3_parse_X6_next : GoodIn wsX3_parse wsX6_next := goodIn_r _ [29, 18, 16, 30, 17, 19, 31, 32, 33, 9, 34, 35, 36, 37, 243, 244, 245, 246, 247, 248] (by decide +kernel) (by decide +kernel)
set_option maxRecDepth 20000 in
theorem gX3_parse_X6_next : GoodIn wsX3_parse (wsV RX3 39 RX6 yX6_next wsX6_next) := goodIn_app (goodIn_of _ (by decide +kernel)) ggX3_parse_X6_next
set_option maxRecDepth 20000 in
theorem ggX3_parse_X3_readLine : GoodIn wsX3_parse wsX3_readLine := goodIn_r _ [119, 3, 26, 27, 28, 9, 29, 18, 16, 30, 17, 19, 31, 32, 33, 34, 35, 36, 37, 38, 39, 40, 41, 42, 43, 44, 45, 46, 47, 48, 49, 50, 51, 52, 53, 54, 55, 56, 57, 58, 59, 60, 61, 62, 63, 64, 65, 66, 67, 68, 69, 70, 71, 72, 73, 74, 75, 76, 77, 78, 79, 80, 81, 82, 83, 84, 85, 86, 87, 88, 89, 90, 120, 121, 122, 23, 123, 25, 124, 1, 91, 92, 93, 94, 95, 2, 96, 97, 98, 99, 4, 100, 101, 102, 103, 125, 126, 127, 107, 128, 109, 129, 111, 130, 131, 132, 133, 134, 135, 136, 137, 138, 139, 140, 141, 142, 143, 144, 145, 146, 147, 148, 149, 150, 151, 152, 153, 154, 155, 156, 157, 158, 159, 160, 161, 162, 163, 164, 165, 166, 167, 168, 169, 170, 171, 172, 173, 174, 175, 176, 177, 178, 179, 180, 181, 182, 183, 184, 185, 186, 187, 188, 189, 190, 191, 192, 193, 194, 195, 196, 197, 198, 199, 200, 201, 202, 203, 204, 205, 206, 13, 14, 15, 207, 208, 209, 210, 115, 110, 211, 212, 213, 214, 215, 216, 217, 218, 219, 220, 221, 222, 223, 224, 225, 226, 227, 228, 229, 230, 231, 232, 233, 234, 235, 236, 237, 113, 114, 238, 239, 240, 241, 242, 243, 244, 245, 246, 247, 248, 249, 250, 251, 252, 253, 254, 255, 256, 257, 258, 259, 260, 261, 262, 263, 264, 265, 266, 267, 268, 269] (by decide +kernel) (by decide +kernel)
set_option maxRecDepth 20000 in
theorem gX3_parse_X3_readLine : GoodIn wsX3_parse (wsV RX3 45 RX3 yX3_readLine wsX3_readLine) := goodIn_app (goodIn_of _ (by decide +kernel)) ggX3_parse_X3_readLine
set_option maxRecDepth 20000 in
theorem ggX3_parse_X3_fail : GoodIn wsX3_parse wsX3_fail := goodIn_r _ [94, 1, 3, 95, 2, 239, 240, 241, 242, 243, 244, 245, 246, 247, 248] (by decide +kernel) (by decide +kernel)
set_option maxRecDepth 20000 in
theorem gX3_parse_X3_fail : GoodIn wsX3_parse (wsV RX3 48 RX3 yX3_fail wsX3_fail) := goodIn_app (goodIn_of _ (by decide +kernel)) ggX3_parse_X3_fail
set_option maxRecDepth 20000 in
theorem ggX3_readHead_X6_next : GoodIn wsX3_readHead wsX6_next := goodIn_r _ [8, 9, 10, 11, 12, 13, 14, 15, 16, 7, 17, 18, 19, 20, 106, 107, 108, 109, 110, 111] (by decide +kernel) (by decide +kernel)
set_option maxRecDepth 20000 in
theorem gX3_readHead_X6_next : GoodIn wsX3_readHead (wsV RX3 39 RX6 yX6_next wsX6_next) := goodIn_app (goodIn_of _ (by decide +kernel)) ggX3_readHead_X6_next
set_option maxRecDepth 20000 in
theorem ggX3_readHead_X6_isWord : GoodIn wsX3_readHead wsX6_isWord := goodIn_r _ [24, 13, 9, 12, 11, 25, 26, 27, 28, 29, 30, 31, 32, 33, 34, 35, 36, 37, 38, 39, 40, 41, 42, 43, 44, 45, 46, 47, 48, 49, 50, 51, 52, 53, 54, 55, 56, 57, 58, 59, 60, 61, 62, 63, 64, 65, 66, 67, 68, 69, 70, 71, 72, 73, 106, 107, 108, 109, 110, 111, 112, 113, 114, 115] (by decide +kernel) (by decide +kernel)
set_option maxRecDepth 20000 in
theorem gX3_readHead_X6_isWord : GoodIn wsX3_readHead (wsV RX3 56 RX6 yX6_isWord wsX6_isWord) := goodIn_app (goodIn_of _ (by decide +kernel)) ggX3_readHead_X6_isWord
set_option maxRecDepth 20000 in
theorem ggX3_readHead_X3_fail : GoodIn wsX3_readHead wsX3_fail := goodIn_r _ [78, 2, 1, 79, 80, 102, 103, 104, 105, 106, 107, 108, 109, 110, 111] (by decide +kernel) (by decide +kernel)
set_option maxRecDepth 20000 in
theorem gX3_readHead_X3_fail : GoodIn wsX3_readHead (wsV RX3 48 RX3 yX3_fail wsX3_fail) := goodIn_app (goodIn_of _ (by decide +kernel)) ggX3_readHead_X3_fail
set_option maxRecDepth 20000 in
theorem ggX3_readHead_X3_takeNumber : GoodIn wsX3_readHead wsX3_takeNumber := goodIn_r _ [84, 2, 1, 85, 4, 5, 6, 7, 8, 9, 10, 11, 12, 13, 14, 15, 16, 17, 18, 19, 20, 74, 75, 76, 77, 78, 79, 80, 86, 87, 88, 89, 102, 103, 104, 105, 106, 107, 108, 109, 110, 111] (by decide +kernel) (by decide +kernel)
set_option maxRecDepth 20000 in
theorem gX3_readHead_X3_takeNumber : GoodIn wsX3_readHead (wsV RX3 60 RX3 yX3_takeNumber wsX3_takeNumber) := goodIn_app (goodIn_of _ (by decide +kernel)) ggX3_readHead_X3_takeNumber
set_option maxRecDepth 20000 in
theorem ggX3_readHead_X4_begin : GoodIn wsX3_readHead wsX4_begin := goodIn_r _ [94, 95, 96, 97, 98, 99, 100, 101, 116, 117, 118, 119, 120, 121, 122, 123] (by decide +kernel) (by decide +kernel)
set_option maxRecDepth 20000 in
theorem gX3_readHead_X4_begin : GoodIn wsX3_readHead (wsV RX3 64 RX4 yX4_begin wsX4_begin) := goodIn_app (goodIn_of _ (by decide +kernel)) ggX3_readHead_X4_begin
set_option maxRecDepth 20000 in
theorem ggX3_readLine_X6_next : GoodIn wsX3_readLine wsX6_next := goodIn_r _ [6, 7, 8, 9, 10, 11, 12, 13, 14, 5, 15, 16, 17, 18, 223, 224, 225, 226, 227, 228] (by decide +kernel) (by decide +kernel)
set_option maxRecDepth 20000 in
theorem gX3_readLine_X6_next : GoodIn wsX3_readLine (wsV RX3 39 RX6 yX6_next wsX6_next) := goodIn_app (goodIn_of _ (by decide +kernel)) ggX3_readLine_X6_next
set_option maxRecDepth 20000 in
theorem ggX3_readLine_X6_isWord : GoodIn wsX3_readLine wsX6_isWord := goodIn_r _ [22, 11, 7, 10, 9, 23, 24, 25, 26, 27, 28, 29, 30, 31, 32, 33, 34, 35, 36, 37, 38, 39, 40, 41, 42, 43, 44, 45, 46, 47, 48, 49, 50, 51, 52, 53, 54, 55, 56, 57, 58, 59, 60, 61, 62, 63, 64, 65, 66, 67, 68, 69, 70, 71, 223, 224, 225, 226, 227, 228, 229, 230, 231, 232] (by decide +kernel) (by decide +kernel)
set_option maxRecDepth 20000 in
theorem gX3_readLine_X6_isWord : GoodIn wsX3_readLine (wsV RX3 56 RX6 yX6_isWord wsX6_isWord) := goodIn_app (goodIn_of _ (by decide +kernel)) ggX3_readLine_X6_isWord
set_option maxRecDepth 20000 in
theorem ggX3_readLine_X3_readHair : GoodIn wsX3_readLine wsX3_readHair := goodIn_r _ [76, 77, 78, 79, 80, 81, 82, 75, 83, 1, 84, 85, 86, 87, 88, 89, 90, 2, 3, 4, 5, 6, 7, 8, 9, 10, 11, 12, 13, 14, 15, 16, 17, 18, 91, 92, 93, 94, 95, 96, 97, 98, 99, 100, 101, 102, 103, 104, 105, 106, 107, 108, 109, 110, 111, 112, 113, 114, 115, 116, 117, 118, 119, 120, 219, 220, 221, 222, 233, 234, 235, 236, 237, 238, 239, 240, 223, 224, 225, 226, 227, 228, 241, 242, 243, 244, 245, 246, 247, 248, 249] (by decide +kernel) (by decide +kernel)
set_option maxRecDepth 20000 in
theorem gX3_readLine_X3_readHair : GoodIn wsX3_readLine (wsV RX3 69 RX3 yX3_readHair wsX3_readHair) := goodIn_app (goodIn_of _ (by decide +kernel)) ggX3_readLine_X3_readHair
set_option maxRecDepth 20000 in
theorem ggX3_readLine_X3_readBulb : GoodIn wsX3_readLine wsX3_readBulb := goodIn_r _ [124, 77, 78, 79, 80, 81, 82, 75, 83, 1, 84, 85, 86, 87, 88, 89, 90, 2, 3, 4, 5, 6, 7, 8, 9, 10, 11, 12, 13, 14, 15, 16, 17, 18, 91, 92, 93, 94, 125, 126, 127, 98, 128, 100, 101, 129, 130, 131, 106, 132, 118, 112, 113, 114, 115, 108, 109, 110, 116, 111, 117, 119, 120, 219, 220, 221, 222, 233, 234, 235, 236, 237, 238, 239, 240, 223, 224, 225, 226, 227, 228, 241, 242, 243, 244, 245, 246, 247, 248, 249] (by decide +kernel) (by decide +kernel)
set_option maxRecDepth 20000 in
theorem gX3_readLine_X3_readBulb : GoodIn wsX3_readLine (wsV RX3 74 RX3 yX3_readBulb wsX3_readBulb) := goodIn_app (goodIn_of _ (by decide +kernel)) ggX3_readLine_X3_readBulb
set_option maxRecDepth 20000 in
theorem ggX3_readLine_X3_takeInstrument : GoodIn wsX3_readLine wsX3_takeInstrument := goodIn_r _ [136, 77, 78, 86, 87, 88, 75, 89, 79, 1, 90, 2, 3, 4, 5, 6, 7, 8, 9, 10, 11, 12, 13, 14, 15, 16, 17, 18, 80, 81, 82, 83, 84, 85, 91, 92, 93, 94, 137, 138, 139, 98, 140, 100, 101, 219, 220, 221, 222, 233, 234, 235, 236, 237, 238, 239, 240, 223, 224, 225, 226, 227, 228] (by decide +kernel) (by decide +kernel)
set_option maxRecDepth 20000 in
theorem gX3_readLine_X3_takeInstrument : GoodIn wsX3_readLine (wsV RX3 79 RX3 yX3_takeInstrument wsX3_takeInstrument) := goodIn_app (goodIn_of _ (by decide +kernel)) ggX3_readLine_X3_takeInstrument
set_option maxRecDepth 20000 in
theorem ggX3_readLine_X3_readBox : GoodIn wsX3_readLine wsX3_readBox := goodIn_r _ [144, 79, 145, 146, 147, 148, 106, 149, 120, 80, 81, 82, 75, 83, 1, 84, 85, 86, 87, 88, 89, 90, 2, 3, 4, 5, 6, 7, 8, 9, 10, 11, 12, 13, 14, 15, 16, 17, 18, 91, 92, 93, 94, 219, 220, 221, 222, 241, 242, 243, 244, 245, 246, 247, 248, 249, 223, 224, 225, 226, 227, 228] (by decide +kernel) (by decide +kernel)
set_option maxRecDepth 20000 in
theorem gX3_readLine_X3_readBox : GoodIn wsX3_readLine (wsV RX3 83 RX3 yX3_readBox wsX3_readBox) := goodIn_app (goodIn_of _ (by decide +kernel)) ggX3_readLine_X3_readBox
set_option maxRecDepth 20000 in
theorem ggX3_readLine_X3_readOut : GoodIn wsX3_readLine wsX3_readOut := goodIn_r _ [153, 145, 146, 147, 148, 106, 149, 120, 80, 81, 82, 75, 83, 79, 1, 84, 85, 241, 242, 243, 244, 245, 246, 247, 248, 249, 219, 220, 221, 222, 223, 224, 225, 226, 227, 228] (by decide +kernel) (by decide +kernel)
set_option maxRecDepth 20000 in
theorem gX3_readLine_X3_readOut : GoodIn wsX3_readLine (wsV RX3 89 RX3 yX3_readOut wsX3_readOut) := goodIn_app (goodIn_of _ (by decide +kernel)) ggX3_readLine_X3_readOut
set_option maxRecDepth 20000 in
theorem ggX3_readLine_X3_readTighten : GoodIn wsX3_readLine wsX3_readTighten := goodIn_r _ [157, 158, 159, 80, 81, 82, 75, 83, 79, 1, 84, 85, 160, 161, 162, 106, 163, 117, 111, 109, 116, 241, 242, 243, 244, 245, 246, 247, 248, 249, 219, 220, 221, 222, 223, 224, 225, 226, 227, 228] (by decide +kernel) (by decide +kernel)
set_option maxRecDepth 20000 in
theorem gX3_readLine_X3_readTighten : GoodIn wsX3_readLine (wsV RX3 94 RX3 yX3_readTighten wsX3_readTighten) := goodIn_app (goodIn_of _ (by decide +kernel)) ggX3_readLine_X3_readTighten
set_option maxRecDepth 20000 in
theorem ggX3_readLine_X3_readMoisten : GoodIn wsX3_readLine wsX3_readMoisten := goodIn_r _ [167, 158, 168, 80, 81, 82, 75, 83, 79, 1, 84, 85, 241, 242, 243, 244, 245, 246, 247, 248, 249, 219, 220, 221, 222, 223, 224, 225, 226, 227, 228] (by decide +kernel) (by decide +kernel)
set_option maxRecDepth 20000 in
theorem gX3_readLine_X3_readMoisten : GoodIn wsX3_readLine (wsV RX3 99 RX3 yX3_readMoisten wsX3_readMoisten) := goodIn_app (goodIn_of _ (by decide +kernel)) ggX3_readLine_X3_readMoisten
set_option maxRecDepth 20000 in
theorem ggX3_readLine_X3_readHumidity : GoodIn wsX3_readLine wsX3_readHumidity := goodIn_r _ [172, 79, 77, 173, 86, 87, 88, 75, 89, 1, 90, 2, 3, 4, 5, 6, 7, 8, 9, 10, 11, 12, 13, 14, 15, 16, 17, 18, 80, 81, 82, 83, 84, 85, 91, 92, 93, 94, 219, 220, 221, 222, 233, 234, 235, 236, 237, 238, 239, 240, 223, 224, 225, 226, 227, 228] (by decide +kernel) (by decide +kernel)
set_option maxRecDepth 20000 in
theorem gX3_readLine_X3_readHumidity : GoodIn wsX3_readLine (wsV RX3 104 RX3 yX3_readHumidity wsX3_readHumidity) := goodIn_app (goodIn_of _ (by decide +kernel)) ggX3_readLine_X3_readHumidity
set_option maxRecDepth 20000 in
theorem ggX3_readLine_X3_readMinutes : GoodIn wsX3_readLine wsX3_readMinutes := goodIn_r _ [177, 77, 178, 179, 180, 181, 182, 79, 86, 87, 88, 75, 89, 1, 90, 2, 3, 4, 5, 6, 7, 8, 9, 10, 11, 12, 13, 14, 15, 16, 17, 18, 80, 81, 82, 83, 84, 85, 91, 92, 93, 94, 183, 184, 185, 98, 186, 187, 188, 100, 101, 189, 190, 191, 192, 193, 102, 194, 195, 196, 197, 198, 199, 200, 106, 201, 108, 118, 202, 203, 204, 109, 117, 205, 206, 207, 208, 209, 210, 211, 111, 212, 213, 214, 215, 216, 217, 218, 219, 220, 221, 222, 233, 234, 235, 236, 237, 238, 239, 240, 223, 224, 225, 226, 227, 228, 241, 242, 243, 244, 245, 246, 247, 248, 249] (by decide +kernel) (by decide +kernel)
set_option maxRecDepth 20000 in
theorem gX3_readLine_X3_readMinutes : GoodIn wsX3_readLine (wsV RX3 109 RX3 yX3_readMinutes wsX3_readMinutes) := goodIn_app (goodIn_of _ (by decide +kernel)) ggX3_readLine_X3_readMinutes
set_option maxRecDepth 20000 in
theorem ggX3_readLine_X3_fail : GoodIn wsX3_readLine wsX3_fail := goodIn_r _ [83, 79, 1, 84, 85, 219, 220, 221, 222, 223, 224, 225, 226, 227, 228] (by decide +kernel) (by decide +kernel)
set_option maxRecDepth 20000 in
theorem gX3_readLine_X3_fail : GoodIn wsX3_readLine (wsV RX3 48 RX3 yX3_fail wsX3_fail) := goodIn_app (goodIn_of _ (by decide +kernel)) ggX3_readLine_X3_fail
set_option maxRecDepth 20000 in
theorem ggX3_readHair_X3_fail : GoodIn wsX3_readHair wsX3_fail := goodIn_r _ [8, 3, 9, 10, 11, 64, 65, 66, 67, 76, 77, 78, 79, 80, 81] (by decide +kernel) (by decide +kernel)
set_option maxRecDepth 20000 in
theorem gX3_readHair_X3_fail : GoodIn wsX3_readHair (wsV RX3 48 RX3 yX3_fail wsX3_fail) := goodIn_app (goodIn_of _ (by decide +kernel)) ggX3_readHair_X3_fail
set_option maxRecDepth 20000 in
theorem ggX3_readHair_X3_takeNumber : GoodIn wsX3_readHair wsX3_takeNumber := goodIn_r _ [15, 3, 9, 16, 17, 18, 19, 20, 21, 22, 23, 24, 25, 26, 27, 28, 29, 30, 31, 32, 33, 4, 5, 6, 7, 8, 10, 11, 34, 35, 36, 37, 64, 65, 66, 67, 76, 77, 78, 79, 80, 81] (by decide +kernel) (by decide +kernel)
set_option maxRecDepth 20000 in
theorem gX3_readHair_X3_takeNumber : GoodIn wsX3_readHair (wsV RX3 60 RX3 yX3_takeNumber wsX3_takeNumber) := goodIn_app (goodIn_of _ (by decide +kernel)) ggX3_readHair_X3_takeNumber
set_option maxRecDepth 20000 in
theorem ggX3_readHair_X4_newHair : GoodIn wsX3_readHair wsX4_newHair := goodIn_r _ [42, 43, 44, 45, 46, 47, 48, 49, 50, 51, 52, 53, 54, 55, 56, 57, 58, 59, 60, 61, 62, 63, 68, 69, 70, 71, 72, 73, 74, 75, 82, 83, 84, 85, 86, 87, 88, 89, 90] (by decide +kernel) (by decide +kernel)
set_option maxRecDepth 20000 in
theorem gX3_readHair_X4_newHair : GoodIn wsX3_readHair (wsV RX3 115 RX4 yX4_newHair wsX4_newHair) := goodIn_app (goodIn_of _ (by decide +kernel)) ggX3_readHair_X4_newHair
set_option maxRecDepth 20000 in
theorem ggX3_readBulb_X3_fail : GoodIn wsX3_readBulb wsX3_fail := goodIn_r _ [8, 3, 9, 10, 11, 63, 64, 65, 66, 75, 76, 77, 78, 79, 80] (by decide +kernel) (by decide +kernel)
set_option maxRecDepth 20000 in
theorem gX3_readBulb_X3_fail : GoodIn wsX3_readBulb (wsV RX3 48 RX3 yX3_fail wsX3_fail) := goodIn_app (goodIn_of _ (by decide +kernel)) ggX3_readBulb_X3_fail
set_option maxRecDepth 20000 in
theorem ggX3_readBulb_X3_takeNumber : GoodIn wsX3_readBulb wsX3_takeNumber := goodIn_r _ [15, 3, 9, 16, 17, 18, 19, 20, 21, 22, 23, 24, 25, 26, 27, 28, 29, 30, 31, 32, 33, 4, 5, 6, 7, 8, 10, 11, 34, 35, 36, 37, 63, 64, 65, 66, 75, 76, 77, 78, 79, 80] (by decide +kernel) (by decide +kernel)
set_option maxRecDepth 20000 in
theorem gX3_readBulb_X3_takeNumber : GoodIn wsX3_readBulb (wsV RX3 60 RX3 yX3_takeNumber wsX3_takeNumber) := goodIn_app (goodIn_of _ (by decide +kernel)) ggX3_readBulb_X3_takeNumber
set_option maxRecDepth 20000 in
theorem ggX3_readBulb_X4_newBulb : GoodIn wsX3_readBulb wsX4_newBulb := goodIn_r _ [42, 43, 44, 45, 46, 47, 48, 49, 50, 51, 52, 53, 54, 55, 56, 57, 58, 59, 60, 61, 62, 67, 68, 69, 70, 71, 72, 73, 74, 81, 82, 83, 84, 85, 86, 87, 88, 89] (by decide +kernel) (by decide +kernel)
set_option maxRecDepth 20000 in
theorem gX3_readBulb_X4_newBulb : GoodIn wsX3_readBulb (wsV RX3 118 RX4 yX4_newBulb wsX4_newBulb) := goodIn_app (goodIn_of _ (by decide +kernel)) ggX3_readBulb_X4_newBulb
set_option maxRecDepth 20000 in
theorem ggX3_readBox_X1_isBoxed : GoodIn wsX3_readBox wsX1_isBoxed := goodIn_r _ [7, 8, 47, 48, 49, 50, 51, 52, 53, 54, 55] (by decide +kernel) (by decide +kernel)
set_option maxRecDepth 20000 in
theorem gX3_readBox_X1_isBoxed : GoodIn wsX3_readBox (wsV RX3 121 RX1 yX1_isBoxed wsX1_isBoxed) := goodIn_app (goodIn_of _ (by decide +kernel)) ggX3_readBox_X1_isBoxed
set_option maxRecDepth 20000 in
theorem ggX3_readBox_X3_fail : GoodIn wsX3_readBox wsX3_fail := goodIn_r _ [13, 1, 14, 15, 16, 43, 44, 45, 46, 56, 57, 58, 59, 60, 61] (by decide +kernel) (by decide +kernel)
set_option maxRecDepth 20000 in
theorem gX3_readBox_X3_fail : GoodIn wsX3_readBox (wsV RX3 48 RX3 yX3_fail wsX3_fail) := goodIn_app (goodIn_of _ (by decide +kernel)) ggX3_readBox_X3_fail
set_option maxRecDepth 20000 in
theorem ggX3_readBox_X3_takeNumber : GoodIn wsX3_readBox wsX3_takeNumber := goodIn_r _ [20, 1, 14, 21, 22, 23, 24, 25, 26, 27, 28, 29, 30, 31, 32, 33, 34, 35, 36, 37, 38, 9, 10, 11, 12, 13, 15, 16, 39, 40, 41, 42, 43, 44, 45, 46, 56, 57, 58, 59, 60, 61] (by decide +kernel) (by decide +kernel)
set_option maxRecDepth 20000 in
theorem gX3_readBox_X3_takeNumber : GoodIn wsX3_readBox (wsV RX3 60 RX3 yX3_takeNumber wsX3_takeNumber) := goodIn_app (goodIn_of _ (by decide +kernel)) ggX3_readBox_X3_takeNumber
set_option maxRecDepth 20000 in
theorem ggX3_readOut_X1_isBoxed : GoodIn wsX3_readOut wsX1_isBoxed := goodIn_r _ [6, 7, 17, 18, 19, 20, 21, 22, 23, 24, 25] (by decide +kernel) (by decide +kernel)
set_option maxRecDepth 20000 in
theorem gX3_readOut_X1_isBoxed : GoodIn wsX3_readOut (wsV RX3 121 RX1 yX1_isBoxed wsX1_isBoxed) := goodIn_app (goodIn_of _ (by decide +kernel)) ggX3_readOut_X1_isBoxed
set_option maxRecDepth 20000 in
theorem ggX3_readOut_X3_fail : GoodIn wsX3_readOut wsX3_fail := goodIn_r _ [12, 13, 14, 15, 16, 26, 27, 28, 29, 30, 31, 32, 33, 34, 35] (by decide +kernel) (by decide +kernel)
set_option maxRecDepth 20000 in
theorem gX3_readOut_X3_fail : GoodIn wsX3_readOut (wsV RX3 48 RX3 yX3_fail wsX3_fail) := goodIn_app (goodIn_of _ (by decide +kernel)) ggX3_readOut_X3_fail
set_option maxRecDepth 20000 in
theorem ggX3_readTighten_X3_fail : GoodIn wsX3_readTighten wsX3_fail := goodIn_r _ [7, 8, 9, 10, 11, 30, 31, 32, 33, 34, 35, 36, 37, 38, 39] (by decide +kernel) (by decide +kernel)
set_option maxRecDepth 20000 in
theorem gX3_readTighten_X3_fail : GoodIn wsX3_readTighten (wsV RX3 48 RX3 yX3_fail wsX3_fail) := goodIn_app (goodIn_of _ (by decide +kernel)) ggX3_readTighten_X3_fail
set_option maxRecDepth 20000 in
theorem ggX3_readTighten_X1_tightenSpring : GoodIn wsX3_readTighten wsX1_tightenSpring := goodIn_r _ [16, 17, 18, 19, 20, 21, 22, 23, 24, 25, 26, 27, 28, 29] (by decide +kernel) (by decide +kernel)
set_option maxRecDepth 20000 in
theorem gX3_readTighten_X1_tightenSpring : GoodIn wsX3_readTighten (wsV RX3 139 RX1 yX1_tightenSpring wsX1_tightenSpring) := goodIn_app (goodIn_of _ (by decide +kernel)) ggX3_readTighten_X1_tightenSpring
set_option maxRecDepth 20000 in
theorem ggX3_readMoisten_X3_fail : GoodIn wsX3_readMoisten wsX3_fail := goodIn_r _ [7, 8, 9, 10, 11, 21, 22, 23, 24, 25, 26, 27, 28, 29, 30] (by decide +kernel) (by decide +kernel)
set_option maxRecDepth 20000 in
theorem gX3_readMoisten_X3_fail : GoodIn wsX3_readMoisten (wsV RX3 48 RX3 yX3_fail wsX3_fail) := goodIn_app (goodIn_of _ (by decide +kernel)) ggX3_readMoisten_X3_fail
set_option maxRecDepth 20000 in
theorem ggX3_readHumidity_X3_takeNumber : GoodIn wsX3_readHumidity wsX3_takeNumber := goodIn_r _ [8, 1, 9, 10, 11, 12, 13, 14, 15, 16, 17, 18, 19, 20, 21, 22, 23, 24, 25, 26, 27, 28, 29, 30, 7, 31, 32, 33, 34, 35, 36, 37, 38, 39, 40, 41, 50, 51, 52, 53, 54, 55] (by decide +kernel) (by decide +kernel)
set_option maxRecDepth 20000 in
theorem gX3_readHumidity_X3_takeNumber : GoodIn wsX3_readHumidity (wsV RX3 60 RX3 yX3_takeNumber wsX3_takeNumber) := goodIn_app (goodIn_of _ (by decide +kernel)) ggX3_readHumidity_X3_takeNumber
