set_option maxRecDepth 20000 in
theorem ggX3_readMinutes_X3_takeNumber : GoodIn wsX3_readMinutes wsX3_takeNumber := goodIn_r _ [12, 7, 13, 14, 15, 16, 17, 18, 19, 20, 21, 22, 23, 24, 25, 26, 27, 28, 29, 30, 31, 32, 33, 34, 11, 35, 36, 37, 38, 39, 40, 41, 88, 89, 90, 91, 100, 101, 102, 103, 104, 105] (by decide +kernel) (by decide +kernel)
set_option maxRecDepth 20000 in
theorem gX3_readMinutes_X3_takeNumber : GoodIn wsX3_readMinutes (wsV RX3 60 RX3 yX3_takeNumber wsX3_takeNumber) := goodIn_app (goodIn_of _ (by decide +kernel)) ggX3_readMinutes_X3_takeNumber
set_option maxRecDepth 20000 in
theorem ggX3_readMinutes_X4_pass : GoodIn wsX3_readMinutes wsX4_pass := goodIn_r _ [46, 47, 48, 49, 50, 51, 52, 53, 45, 54, 55, 56, 57, 58, 59, 60, 61, 62, 63, 64, 65, 66, 67, 68, 69, 5, 70, 71, 72, 73, 4, 6, 74, 75, 76, 77, 78, 79, 80, 81, 82, 83, 84, 85, 86, 87, 92, 93, 94, 95, 96, 97, 98, 99, 106, 107, 108, 109, 110, 111, 112, 113, 114] (by decide +kernel) (by decide +kernel)
set_option maxRecDepth 20000 in
theorem gX3_readMinutes_X4_pass : GoodIn wsX3_readMinutes (wsV RX3 155 RX4 yX4_pass wsX4_pass) := goodIn_app (goodIn_of _ (by decide +kernel)) ggX3_readMinutes_X4_pass
set_option maxRecDepth 20000 in
theorem ggX3_takeInstrument_X3_takeNumber : GoodIn wsX3_takeInstrument wsX3_takeNumber := goodIn_r _ [7, 8, 9, 10, 11, 12, 13, 14, 15, 16, 17, 18, 19, 20, 21, 22, 23, 24, 25, 26, 27, 28, 29, 30, 6, 31, 32, 33, 34, 35, 36, 37, 45, 46, 47, 48, 57, 58, 59, 60, 61, 62] (by decide +kernel) (by decide +kernel)
set_option maxRecDepth 20000 in
theorem gX3_takeInstrument_X3_takeNumber : GoodIn wsX3_takeInstrument (wsV RX3 60 RX3 yX3_takeNumber wsX3_takeNumber) := goodIn_app (goodIn_of _ (by decide +kernel)) ggX3_takeInstrument_X3_takeNumber
set_option maxRecDepth 20000 in
theorem ggX3_takeInstrument_X4_find : GoodIn wsX3_takeInstrument wsX4_find := goodIn_r _ [42, 43, 44, 49, 50, 51, 52, 53, 54, 55, 56] (by decide +kernel) (by decide +kernel)
set_option maxRecDepth 20000 in
theorem gX3_takeInstrument_X4_find : GoodIn wsX3_takeInstrument (wsV RX3 159 RX4 yX4_find wsX4_find) := goodIn_app (goodIn_of _ (by decide +kernel)) ggX3_takeInstrument_X4_find
set_option maxRecDepth 20000 in
theorem ggX3_takeNumber_X6_next : GoodIn wsX3_takeNumber wsX6_next := goodIn_r _ [8, 9, 10, 11, 12, 13, 14, 15, 16, 7, 17, 18, 19, 20, 36, 37, 38, 39, 40, 41] (by decide +kernel) (by decide +kernel)
set_option maxRecDepth 20000 in
theorem gX3_takeNumber_X6_next : GoodIn wsX3_takeNumber (wsV RX3 39 RX6 yX6_next wsX6_next) := goodIn_app (goodIn_of _ (by decide +kernel)) ggX3_takeNumber_X6_next
set_option maxRecDepth 20000 in
theorem ggX3_takeNumber_X3_fail : GoodIn wsX3_takeNumber wsX3_fail := goodIn_r _ [25, 1, 2, 26, 27, 32, 33, 34, 35, 36, 37, 38, 39, 40, 41] (by decide +kernel) (by decide +kernel)
set_option maxRecDepth 20000 in
theorem gX3_takeNumber_X3_fail : GoodIn wsX3_takeNumber (wsV RX3 48 RX3 yX3_fail wsX3_fail) := goodIn_app (goodIn_of _ (by decide +kernel)) ggX3_takeNumber_X3_fail
set_option maxRecDepth 20000 in
theorem ggX3_takeNumber_X6_value : GoodIn wsX3_takeNumber wsX6_value := goodIn_r _ [31, 12, 9, 11, 36, 37, 38, 39, 40, 41] (by decide +kernel) (by decide +kernel)
set_option maxRecDepth 20000 in
theorem gX3_takeNumber_X6_value : GoodIn wsX3_takeNumber (wsV RX3 163 RX6 yX6_value wsX6_value) := goodIn_app (goodIn_of _ (by decide +kernel)) ggX3_takeNumber_X6_value
set_option maxRecDepth 20000 in
theorem ggX4_init_X1_init : GoodIn wsX4_init wsX1_init := goodIn_r _ [9, 10, 2, 3, 11, 20, 21, 22, 23, 24, 25, 26, 27, 28] (by decide +kernel) (by decide +kernel)
set_option maxRecDepth 20000 in
theorem gX4_init_X1_init_n17 : GoodIn wsX4_init (wsX1_init) := ggX4_init_X1_init
set_option maxRecDepth 20000 in
theorem ggX4_newHair_X1_becomeHair : GoodIn wsX4_newHair wsX1_becomeHair := goodIn_r _ [8, 9, 10, 11, 12, 13, 14, 15, 7, 16, 17, 18, 19, 20, 21, 30, 31, 32, 33, 34, 35, 36, 37, 38] (by decide +kernel) (by decide +kernel)
set_option maxRecDepth 20000 in
theorem gX4_newHair_X1_becomeHair : GoodIn wsX4_newHair (wsV RX4 40 RX1 yX1_becomeHair wsX1_becomeHair) := goodIn_app (goodIn_of _ (by decide +kernel)) ggX4_newHair_X1_becomeHair
set_option maxRecDepth 20000 in
theorem ggX4_newBulb_X1_becomeBulb : GoodIn wsX4_newBulb wsX1_becomeBulb := goodIn_r _ [7, 8, 9, 10, 11, 6, 12, 13, 14, 15, 16, 17, 18, 19, 20, 29, 30, 31, 32, 33, 34, 35, 36, 37] (by decide +kernel) (by decide +kernel)
set_option maxRecDepth 20000 in
theorem gX4_newBulb_X1_becomeBulb : GoodIn wsX4_newBulb (wsV RX4 44 RX1 yX1_becomeBulb wsX1_becomeBulb) := goodIn_app (goodIn_of _ (by decide +kernel)) ggX4_newBulb_X1_becomeBulb
set_option maxRecDepth 20000 in
theorem ggX4_copyFrom_X1_copyFrom : GoodIn wsX4_copyFrom wsX1_copyFrom := goodIn_r _ [13, 14, 15, 16, 17, 18, 19, 20, 21, 22, 31, 32, 33, 34, 35, 36, 37, 38, 39] (by decide +kernel) (by decide +kernel)
set_option maxRecDepth 20000 in
theorem gX4_copyFrom_X1_copyFrom : GoodIn wsX4_copyFrom (wsV RX4 48 RX1 yX1_copyFrom wsX1_copyFrom) := goodIn_app (goodIn_of _ (by decide +kernel)) ggX4_copyFrom_X1_copyFrom
set_option maxRecDepth 20000 in
theorem ggX4_pass_X4_surrounding : GoodIn wsX4_pass wsX4_surrounding := goodIn_r _ [9, 10, 11, 12, 13, 14, 15, 54, 55, 56, 57, 58, 59, 60, 61, 62, 46, 47, 48, 49, 50, 51, 52, 53] (by decide +kernel) (by decide +kernel)
set_option maxRecDepth 20000 in
theorem gX4_pass_X4_surrounding : GoodIn wsX4_pass (wsV RX4 52 RX4 yX4_surrounding wsX4_surrounding) := goodIn_app (goodIn_of _ (by decide +kernel)) ggX4_pass_X4_surrounding
set_option maxRecDepth 20000 in
theorem ggX4_pass_X1_age : GoodIn wsX4_pass wsX1_age := goodIn_r _ [20, 21, 22, 23, 24, 25, 26, 27, 28, 29, 30, 31, 32, 13, 33, 34, 35, 36, 19, 37, 38, 54, 55, 56, 57, 58, 59, 60, 61, 62] (by decide +kernel) (by decide +kernel)
set_option maxRecDepth 20000 in
theorem gX4_pass_X1_age : GoodIn wsX4_pass (wsV RX4 56 RX1 yX1_age wsX1_age) := goodIn_app (goodIn_of _ (by decide +kernel)) ggX4_pass_X1_age
set_option maxRecDepth 20000 in
theorem ggX4_pass_X4_bringHairs : GoodIn wsX4_pass wsX4_bringHairs := goodIn_r _ [42, 43, 44, 45, 30, 25, 31, 1, 46, 47, 48, 49, 50, 51, 52, 53] (by decide +kernel) (by decide +kernel)
set_option maxRecDepth 20000 in
theorem gX4_pass_X4_bringHairs : GoodIn wsX4_pass (wsV RX4 59 RX4 yX4_bringHairs wsX4_bringHairs) := goodIn_app (goodIn_of _ (by decide +kernel)) ggX4_pass_X4_bringHairs
set_option maxRecDepth 20000 in
theorem ggX4_surrounding_X7_fixedPointOr : GoodIn wsX4_surrounding wsX7_fixedPointOr := goodIn_r _ [5, 6] (by decide +kernel) (by decide +kernel)
set_option maxRecDepth 20000 in
theorem gX4_surrounding_X7_fixedPointOr_n71 : GoodIn wsX4_surrounding (wsX7_fixedPointOr) := ggX4_surrounding_X7_fixedPointOr
set_option maxRecDepth 20000 in
theorem ggX4_depression_X4_surrounding : GoodIn wsX4_depression wsX4_surrounding := goodIn_r _ [7, 8, 9, 10, 11, 12, 13, 14, 15, 16, 17, 18, 19, 20, 21, 22, 23, 24, 25, 26, 27, 28, 29, 30] (by decide +kernel) (by decide +kernel)
set_option maxRecDepth 20000 in
theorem gX4_depression_X4_surrounding : GoodIn wsX4_depression (wsV RX4 52 RX4 yX4_surrounding wsX4_surrounding) := goodIn_app (goodIn_of _ (by decide +kernel)) ggX4_depression_X4_surrounding
set_option maxRecDepth 20000 in
theorem ggX4_raw_X4_depression : GoodIn wsX4_raw wsX4_depression := goodIn_r _ [9, 10, 4, 11, 12, 13, 8, 14, 15, 16, 17, 18, 19, 20, 23, 24, 25, 26, 27, 28, 29, 30, 31, 32, 33, 34, 35, 36, 37, 38, 39] (by decide +kernel) (by decide +kernel)
set_option maxRecDepth 20000 in
theorem gX4_raw_X4_depression : GoodIn wsX4_raw (wsV RX4 87 RX4 yX4_depression wsX4_depression) := goodIn_app (goodIn_of _ (by decide +kernel)) ggX4_raw_X4_depression
set_option maxRecDepth 20000 in
theorem ggX4_raw_X7_quotient : GoodIn wsX4_raw wsX7_quotient := goodIn_r _ [22] (by decide +kernel) (by decide +kernel)
set_option maxRecDepth 20000 in
theorem gX4_raw_X7_quotient_n90 : GoodIn wsX4_raw (wsX7_quotient) := ggX4_raw_X7_quotient
set_option maxRecDepth 20000 in
theorem ggX4_reading_X4_raw : GoodIn wsX4_reading wsX4_raw := goodIn_r _ [13, 14, 15, 16, 17, 18, 19, 20, 12, 21, 22, 23, 24, 25, 26, 27, 28, 29, 30, 31, 32, 33, 34, 35, 36, 37, 38, 39, 40, 41, 42, 43, 44, 45, 46, 47, 48, 49, 50, 51] (by decide +kernel) (by decide +kernel)
set_option maxRecDepth 20000 in
theorem gX4_reading_X4_raw : GoodIn wsX4_reading (wsV RX4 93 RX4 yX4_raw wsX4_raw) := goodIn_app (goodIn_of _ (by decide +kernel)) ggX4_reading_X4_raw
set_option maxRecDepth 20000 in
theorem ggX4_settled_X4_surrounding : GoodIn wsX4_settled wsX4_surrounding := goodIn_r _ [8, 9, 10, 11, 12, 13, 14, 15, 16, 17, 18, 19, 20, 21, 22, 23, 24, 25, 26, 27, 28, 29, 30, 31] (by decide +kernel) (by decide +kernel)
set_option maxRecDepth 20000 in
theorem gX4_settled_X4_surrounding : GoodIn wsX4_settled (wsV RX4 52 RX4 yX4_surrounding wsX4_surrounding) := goodIn_app (goodIn_of _ (by decide +kernel)) ggX4_settled_X4_surrounding
set_option maxRecDepth 20000 in
theorem ggX4_still_X4_settled : GoodIn wsX4_still wsX4_settled := goodIn_r _ [6, 1, 7, 8, 9, 10, 11, 5, 12, 13, 14, 15, 16, 17, 18, 19, 20, 21, 22, 23, 24, 25, 26, 27, 28, 29, 30, 31, 32, 33, 34, 35] (by decide +kernel) (by decide +kernel)
set_option maxRecDepth 20000 in
theorem gX4_still_X4_settled : GoodIn wsX4_still (wsV RX4 102 RX4 yX4_settled wsX4_settled) := goodIn_app (goodIn_of _ (by decide +kernel)) ggX4_still_X4_settled
set_option maxRecDepth 20000 in
theorem ggX4_obstacle_X1_isBoxed : GoodIn wsX4_obstacle wsX1_isBoxed := goodIn_r _ [5, 6, 25, 26, 27, 28, 29, 30, 31, 32, 33] (by decide +kernel) (by decide +kernel)
set_option maxRecDepth 20000 in
theorem gX4_obstacle_X1_isBoxed : GoodIn wsX4_obstacle (wsV RX4 106 RX1 yX1_isBoxed wsX1_isBoxed) := goodIn_app (goodIn_of _ (by decide +kernel)) ggX4_obstacle_X1_isBoxed
set_option maxRecDepth 20000 in
theorem ggX4_obstacle_X4_settled : GoodIn wsX4_obstacle wsX4_settled := goodIn_r _ [11, 12, 13, 14, 15, 16, 17, 10, 18, 19, 20, 21, 22, 23, 24, 25, 26, 27, 28, 29, 30, 31, 32, 33, 34, 35, 36, 37, 38, 39, 40, 41] (by decide +kernel) (by decide +kernel)
set_option maxRecDepth 20000 in
theorem gX4_obstacle_X4_settled : GoodIn wsX4_obstacle (wsV RX4 102 RX4 yX4_settled wsX4_settled) := goodIn_app (goodIn_of _ (by decide +kernel)) ggX4_obstacle_X4_settled
set_option maxRecDepth 20000 in
theorem ggX4_countUsable_X1_flaw : GoodIn wsX4_countUsable wsX1_flaw := goodIn_r _ [7, 8, 9, 10, 11, 12, 13, 14, 6, 15, 16, 25, 26, 27, 28, 29, 30, 31, 32, 33] (by decide +kernel) (by decide +kernel)
set_option maxRecDepth 20000 in
theorem gX4_countUsable_X1_flaw : GoodIn wsX4_countUsable (wsV RX4 110 RX1 yX1_flaw wsX1_flaw) := goodIn_app (goodIn_of _ (by decide +kernel)) ggX4_countUsable_X1_flaw
set_option maxRecDepth 20000 in
theorem ggX4_blended_X1_weight : GoodIn wsX4_blended wsX1_weight := goodIn_r _ [7, 8, 9, 10, 11, 12, 6, 13, 14, 15, 16, 17, 18, 19, 20, 67, 68, 69, 70, 71, 72, 73, 74, 75] (by decide +kernel) (by decide +kernel)
set_option maxRecDepth 20000 in
theorem gX4_blended_X1_weight : GoodIn wsX4_blended (wsV RX4 114 RX1 yX1_weight wsX1_weight) := goodIn_app (goodIn_of _ (by decide +kernel)) ggX4_blended_X1_weight
set_option maxRecDepth 20000 in
theorem ggX4_blended_X4_reading : GoodIn wsX4_blended wsX4_reading := goodIn_r _ [25, 26, 27, 28, 29, 30, 31, 32, 33, 34, 35, 36, 24, 37, 38, 39, 40, 41, 42, 43, 44, 45, 46, 47, 48, 49, 50, 51, 52, 53, 54, 55, 56, 57, 58, 67, 68, 69, 70, 71, 72, 73, 74, 75, 59, 60, 61, 62, 63, 64, 65, 66] (by decide +kernel) (by decide +kernel)
set_option maxRecDepth 20000 in
theorem gX4_blended_X4_reading : GoodIn wsX4_blended (wsV RX4 117 RX4 yX4_reading wsX4_reading) := goodIn_app (goodIn_of _ (by decide +kernel)) ggX4_blended_X4_reading
set_option maxRecDepth 20000 in
theorem ggX4_blended_X7_quotient : GoodIn wsX4_blended wsX7_quotient := goodIn_r _ [58] (by decide +kernel) (by decide +kernel)
set_option maxRecDepth 20000 in
theorem gX4_blended_X7_quotient_n90 : GoodIn wsX4_blended (wsX7_quotient) := ggX4_blended_X7_quotient
set_option maxRecDepth 20000 in
theorem ggX4_nearest_X4_reading : GoodIn wsX4_nearest wsX4_reading := goodIn_r _ [12, 13, 14, 15, 6, 16, 17, 18, 19, 20, 21, 22, 11, 23, 24, 25, 26, 27, 28, 29, 30, 31, 32, 33, 34, 35, 36, 37, 3, 38, 39, 40, 41, 42, 43, 66, 67, 68, 69, 70, 71, 72, 73, 74, 58, 59, 60, 61, 62, 63, 64, 65] (by decide +kernel) (by decide +kernel)
set_option maxRecDepth 20000 in
theorem gX4_nearest_X4_reading : GoodIn wsX4_nearest (wsV RX4 117 RX4 yX4_reading wsX4_reading) := goodIn_app (goodIn_of _ (by decide +kernel)) ggX4_nearest_X4_reading
set_option maxRecDepth 20000 in
theorem ggX4_nearest_X1_flaw : GoodIn wsX4_nearest wsX1_flaw := goodIn_r _ [48, 49, 50, 51, 52, 53, 54, 55, 47, 56, 57, 66, 67, 68, 69, 70, 71, 72, 73, 74] (by decide +kernel) (by decide +kernel)
set_option maxRecDepth 20000 in
theorem gX4_nearest_X1_flaw : GoodIn wsX4_nearest (wsV RX4 110 RX1 yX1_flaw wsX1_flaw) := goodIn_app (goodIn_of _ (by decide +kernel)) ggX4_nearest_X1_flaw
set_option maxRecDepth 20000 in
theorem ggX4_countDisagreeing_X1_isBoxed : GoodIn wsX4_countDisagreeing wsX1_isBoxed := goodIn_r _ [7, 8, 59, 60, 61, 62, 63, 64, 65, 66, 67] (by decide +kernel) (by decide +kernel)
set_option maxRecDepth 20000 in
theorem gX4_countDisagreeing_X1_isBoxed : GoodIn wsX4_countDisagreeing (wsV RX4 106 RX1 yX1_isBoxed wsX1_isBoxed) := goodIn_app (goodIn_of _ (by decide +kernel)) ggX4_countDisagreeing_X1_isBoxed
set_option maxRecDepth 20000 in
theorem ggX4_countDisagreeing_X4_settled : GoodIn wsX4_countDisagreeing wsX4_settled := goodIn_r _ [13, 14, 15, 16, 17, 18, 19, 12, 20, 21, 22, 23, 24, 25, 26, 59, 60, 61, 62, 63, 64, 65, 66, 67, 51, 52, 53, 54, 55, 56, 57, 58] (by decide +kernel) (by decide +kernel)
set_option maxRecDepth 20000 in
theorem gX4_countDisagreeing_X4_settled : GoodIn wsX4_countDisagreeing (wsV RX4 102 RX4 yX4_settled wsX4_settled) := goodIn_app (goodIn_of _ (by decide +kernel)) ggX4_countDisagreeing_X4_settled
set_option maxRecDepth 20000 in
theorem ggX4_countDisagreeing_X4_reading : GoodIn wsX4_countDisagreeing wsX4_reading := goodIn_r _ [30, 31, 32, 33, 34, 35, 36, 37, 38, 39, 40, 41, 12, 42, 14, 15, 43, 44, 45, 46, 47, 48, 16, 17, 18, 19, 20, 21, 22, 23, 24, 25, 26, 49, 50, 59, 60, 61, 62, 63, 64, 65, 66, 67, 51, 52, 53, 54, 55, 56, 57, 58] (by decide +kernel) (by decide +kernel)
set_option maxRecDepth 20000 in
theorem gX4_countDisagreeing_X4_reading : GoodIn wsX4_countDisagreeing (wsV RX4 117 RX4 yX4_reading wsX4_reading) := goodIn_app (goodIn_of _ (by decide +kernel)) ggX4_countDisagreeing_X4_reading
set_option maxRecDepth 20000 in
theorem ggX4_countDisagreeing_X4_surrounding : GoodIn wsX4_countDisagreeing wsX4_surrounding := goodIn_r _ [20, 21, 22, 23, 24, 25, 26, 59, 60, 61, 62, 63, 64, 65, 66, 67, 51, 52, 53, 54, 55, 56, 57, 58] (by decide +kernel) (by decide +kernel)
set_option maxRecDepth 20000 in
theorem gX4_countDisagreeing_X4_surrounding : GoodIn wsX4_countDisagreeing (wsV RX4 52 RX4 yX4_surrounding wsX4_surrounding) := goodIn_app (goodIn_of _ (by decide +kernel)) ggX4_countDisagreeing_X4_surrounding
set_option maxRecDepth 20000 in
theorem ggX4_readingSpan_X1_flaw : GoodIn wsX4_readingSpan wsX1_flaw := goodIn_r _ [14, 15, 16, 17, 18, 19, 20, 21, 13, 22, 23, 63, 64, 65, 66, 67, 68, 69, 70, 71] (by decide +kernel) (by decide +kernel)
set_option maxRecDepth 20000 in
theorem gX4_readingSpan_X1_flaw : GoodIn wsX4_readingSpan (wsV RX4 110 RX1 yX1_flaw wsX1_flaw) := goodIn_app (goodIn_of _ (by decide +kernel)) ggX4_readingSpan_X1_flaw
set_option maxRecDepth 20000 in
theorem ggX4_readingSpan_X4_reading : GoodIn wsX4_readingSpan wsX4_reading := goodIn_r _ [28, 29, 3, 4, 5, 6, 7, 8, 9, 30, 31, 32, 27, 33, 34, 35, 36, 37, 38, 39, 40, 41, 42, 43, 44, 45, 46, 47, 48, 49, 50, 51, 52, 53, 54, 63, 64, 65, 66, 67, 68, 69, 70, 71, 55, 56, 57, 58, 59, 60, 61, 62] (by decide +kernel) (by decide +kernel)
set_option maxRecDepth 20000 in
theorem gX4_readingSpan_X4_reading : GoodIn wsX4_readingSpan (wsV RX4 117 RX4 yX4_reading wsX4_reading) := goodIn_app (goodIn_of _ (by decide +kernel)) ggX4_readingSpan_X4_reading
set_option maxRecDepth 20000 in
theorem ggX4_sumOfReadings_X4_reading : GoodIn wsX4_sumOfReadings wsX4_reading := goodIn_r _ [7, 8, 9, 10, 11, 12, 13, 14, 15, 16, 17, 18, 6, 19, 20, 21, 22, 23, 24, 25, 26, 27, 28, 29, 30, 31, 32, 33, 34, 35, 36, 37, 38, 39, 40, 49, 50, 51, 52, 53, 54, 55, 56, 57, 41, 42, 43, 44, 45, 46, 47, 48] (by decide +kernel) (by decide +kernel)
set_option maxRecDepth 20000 in
theorem gX4_sumOfReadings_X4_reading : GoodIn wsX4_sumOfReadings (wsV RX4 117 RX4 yX4_reading wsX4_reading) := goodIn_app (goodIn_of _ (by decide +kernel)) ggX4_sumOfReadings_X4_reading
set_option maxRecDepth 20000 in
theorem ggX5_init_X4_init : GoodIn wsX5_init wsX4_init := goodIn_r _ [12, 13, 2, 3, 14, 15, 16, 17, 18, 19, 20, 21, 24, 25, 26, 27, 28, 29, 30, 31, 32, 33, 34, 35, 36, 37, 38, 39, 40] (by decide +kernel) (by decide +kernel)
set_option maxRecDepth 20000 in
theorem gX5_init_X4_init : GoodIn wsX5_init (wsX4_init) := ggX5_init_X4_init
set_option maxRecDepth 20000 in
theorem ggX5_find_X7_isSlot : GoodIn wsX5_find wsX7_isSlot := goodIn_r _ [5] (by decide +kernel) (by decide +kernel)
set_option maxRecDepth 20000 in
theorem gX5_find_X7_isSlot_n22 : GoodIn wsX5_find (wsX7_isSlot) := ggX5_find_X7_isSlot
set_option maxRecDepth 20000 in
theorem ggX5_keep_X7_isSlot : GoodIn wsX5_keep wsX7_isSlot := goodIn_r _ [5] (by decide +kernel) (by decide +kernel)
set_option maxRecDepth 20000 in
theorem gX5_keep_X7_isSlot_n22 : GoodIn wsX5_keep (wsX7_isSlot) := ggX5_keep_X7_isSlot
set_option maxRecDepth 20000 in
theorem ggX5_keep_X4_copyFrom : GoodIn wsX5_keep wsX4_copyFrom := goodIn_r _ [10, 11, 12, 13, 14, 15, 16, 17, 18, 19, 20, 21, 22, 23, 24, 25, 26, 27, 28, 29, 30, 31, 32, 35, 36, 37, 38, 39, 40, 41, 42, 43, 44, 45, 46, 47, 48, 49, 50, 51] (by decide +kernel) (by decide +kernel)
set_option maxRecDepth 20000 in
theorem gX5_keep_X4_copyFrom : GoodIn wsX5_keep (wsV RX5 26 RX4 yX4_copyFrom wsX4_copyFrom) := goodIn_app (goodIn_of _ (by decide +kernel)) ggX5_keep_X4_copyFrom
set_option maxRecDepth 20000 in
theorem ggX6_next_X6_isRun : GoodIn wsX6_next wsX6_isRun := goodIn_r _ [10, 5, 14, 15, 16, 17, 18, 19] (by decide +kernel) (by decide +kernel)
set_option maxRecDepth 20000 in
theorem gX6_next_X6_isRun : GoodIn wsX6_next (wsV RX6 37 RX6 yX6_isRun wsX6_isRun) := goodIn_app (goodIn_of _ (by decide +kernel)) ggX6_next_X6_isRun
set_option maxRecDepth 20000 in
theorem ggX6_next_X6_kindOf : GoodIn wsX6_next wsX6_kindOf := goodIn_r _ [13] (by decide +kernel) (by decide +kernel)
set_option maxRecDepth 20000 in
theorem gX6_next_X6_kindOf : GoodIn wsX6_next (va_wsS RX6 41 yX6_kindOf wsX6_kindOf) := goodIn_app (goodIn_of _ (by decide +kernel)) ggX6_next_X6_kindOf
set_option maxRecDepth 20000 in
theorem ggX6_isWord_J0_length_8abf5 : GoodIn wsX6_isWord wsJ0_length_8abf5 := goodIn_r _ [9, 10, 11, 12, 13, 8, 14, 15, 16, 60, 61, 62, 63] (by decide +kernel) (by decide +kernel)
set_option maxRecDepth 20000 in
theorem gX6_isWord_J0_length_8abf5 : GoodIn wsX6_isWord (wsV RX6 45 RJ0 yJ0_length_8abf5 wsJ0_length_8abf5) := goodIn_app (goodIn_of _ (by decide +kernel)) ggX6_isWord_J0_length_8abf5
set_option maxRecDepth 20000 in
theorem ggX6_isWord_J0_charAt_5068e : GoodIn wsX6_isWord wsJ0_charAt_5068e := goodIn_r _ [20, 10, 21, 22, 23, 8, 24, 15, 16, 25, 26, 27, 28, 29, 30, 31, 32, 33, 34, 35, 36, 37, 38, 39, 40, 41, 42, 43, 44, 45, 46, 47, 48, 49, 50, 51, 52, 53, 60, 61, 62, 63] (by decide +kernel) (by decide +kernel)
set_option maxRecDepth 20000 in
theorem gX6_isWord_J0_charAt_5068e : GoodIn wsX6_isWord (wsV RX6 50 RJ0 yJ0_charAt_5068e wsJ0_charAt_5068e) := goodIn_app (goodIn_of _ (by decide +kernel)) ggX6_isWord_J0_charAt_5068e
set_option maxRecDepth 20000 in
theorem ggX7_init_X4_init : GoodIn wsX7_init wsX4_init := goodIn_r _ [33, 34, 2, 3, 35, 36, 25, 26, 37, 38, 39, 40, 151, 152, 153, 154, 155, 156, 157, 158, 176, 177, 178, 179, 180, 181, 182, 183, 184] (by decide +kernel) (by decide +kernel)
set_option maxRecDepth 20000 in
theorem gX7_init_X4_init : GoodIn wsX7_init (wsX4_init) := ggX7_init_X4_init
set_option maxRecDepth 20000 in
theorem ggX7_init_X3_init : GoodIn wsX7_init wsX3_init := goodIn_r _ [42, 43, 2, 3, 44, 45, 46, 47, 48, 5, 6, 49, 50, 51, 52, 53, 54, 55, 56, 32, 33, 34, 35, 36, 25, 26, 37, 38, 39, 40, 185, 186, 187, 188, 189, 190, 165, 166, 167, 168, 151, 152, 153, 154, 155, 156, 157, 158, 176, 177, 178, 179, 180, 181, 182, 183, 184] (by decide +kernel) (by decide +kernel)
set_option maxRecDepth 20000 in
theorem gX7_init_X3_init_n18 : GoodIn wsX7_init (wsX3_init) := ggX7_init_X3_init
set_option maxRecDepth 20000 in
theorem ggX7_init_X0_init : GoodIn wsX7_init wsX0_init := goodIn_r _ [59, 60, 2, 3, 61, 62, 5, 6, 63, 32, 33, 34, 35, 36, 25, 26, 37, 38, 39, 40, 169, 170, 171, 151, 152, 153, 154, 155, 156, 157, 158, 176, 177, 178, 179, 180, 181, 182, 183, 184] (by decide +kernel) (by decide +kernel)
set_option maxRecDepth 20000 in
theorem gX7_init_X0_init : GoodIn wsX7_init (wsX0_init) := ggX7_init_X0_init
set_option maxRecDepth 20000 in
theorem ggX7_init_X5_init : GoodIn wsX7_init wsX5_init := goodIn_r _ [66, 67, 2, 3, 68, 69, 70, 71, 5, 6, 72, 32, 33, 34, 35, 36, 25, 26, 37, 38, 39, 40, 172, 173, 151, 152, 153, 154, 155, 156, 157, 158, 176, 177, 178, 179, 180, 181, 182, 183, 184] (by decide +kernel) (by decide +kernel)
set_option maxRecDepth 20000 in
theorem gX7_init_X5_init : GoodIn wsX7_init (wsX5_init) := ggX7_init_X5_init
