set_option maxRecDepth 20000 in
theorem ggX7_readingAfter_X4_surrounding : GoodIn wsX7_readingAfter wsX4_surrounding := goodIn_r _ [37, 38, 39, 40, 9, 41, 42, 95, 96, 97, 98, 99, 100, 101, 102, 103, 87, 88, 89, 90, 91, 92, 93, 94] (by decide +kernel) (by decide +kernel)
set_option maxRecDepth 20000 in
theorem gX7_readingAfter_X4_surrounding : GoodIn wsX7_readingAfter (wsV RX7 181 RX4 yX4_surrounding wsX4_surrounding) := goodIn_app (goodIn_of _ (by decide +kernel)) ggX7_readingAfter_X4_surrounding
set_option maxRecDepth 20000 in
theorem ggX7_readingAfter_X1_age : GoodIn wsX7_readingAfter wsX1_age := goodIn_r _ [46, 25, 31, 47, 48, 49, 50, 26, 30, 51, 52, 53, 54, 9, 55, 56, 57, 58, 23, 59, 29, 95, 96, 97, 98, 99, 100, 101, 102, 103] (by decide +kernel) (by decide +kernel)
set_option maxRecDepth 20000 in
theorem gX7_readingAfter_X1_age : GoodIn wsX7_readingAfter (wsV RX7 227 RX1 yX1_age wsX1_age) := goodIn_app (goodIn_of _ (by decide +kernel)) ggX7_readingAfter_X1_age
set_option maxRecDepth 20000 in
theorem ggX7_readingAfter_X4_reading : GoodIn wsX7_readingAfter wsX4_reading := goodIn_r _ [63, 64, 65, 52, 49, 53, 66, 48, 50, 67, 68, 69, 16, 70, 71, 72, 73, 74, 75, 76, 77, 78, 79, 80, 35, 36, 37, 38, 39, 40, 9, 41, 42, 54, 55, 95, 96, 97, 98, 99, 100, 101, 102, 103, 87, 88, 89, 90, 91, 92, 93, 94] (by decide +kernel) (by decide +kernel)
set_option maxRecDepth 20000 in
theorem gX7_readingAfter_X4_reading : GoodIn wsX7_readingAfter (wsV RX7 187 RX4 yX4_reading wsX4_reading) := goodIn_app (goodIn_of _ (by decide +kernel)) ggX7_readingAfter_X4_reading
set_option maxRecDepth 20000 in
theorem ggX7_minutesUntilStill_X7_instrumentAt : GoodIn wsX7_minutesUntilStill wsX7_instrumentAt := goodIn_ca (goodIn_r _ [8, 9, 10, 2, 11, 12, 13, 14, 15, 16, 17, 70, 71, 72, 73, 74, 75, 76, 77, 78, 79, 80, 81, 82, 83] (by decide +kernel) (by decide +kernel)) (goodIn_sub (fun _ h => List.mem_cons_of_mem _ (List.mem_append_right _ h)) (by decide +kernel))
set_option maxRecDepth 20000 in
theorem gX7_minutesUntilStill_X7_instrumentAt : GoodIn wsX7_minutesUntilStill (wsV RX7 151 RX7 yX7_instrumentAt wsX7_instrumentAt) := goodIn_app (goodIn_of _ (by decide +kernel)) ggX7_minutesUntilStill_X7_instrumentAt
set_option maxRecDepth 20000 in
theorem ggX7_minutesUntilStill_X1_copyFrom : GoodIn wsX7_minutesUntilStill wsX1_copyFrom := goodIn_r _ [22, 23, 24, 25, 26, 27, 28, 29, 30, 31, 84, 85, 86, 87, 88, 89, 90, 91, 92] (by decide +kernel) (by decide +kernel)
set_option maxRecDepth 20000 in
theorem gX7_minutesUntilStill_X1_copyFrom : GoodIn wsX7_minutesUntilStill (wsV RX7 222 RX1 yX1_copyFrom wsX1_copyFrom) := goodIn_app (goodIn_of _ (by decide +kernel)) ggX7_minutesUntilStill_X1_copyFrom
set_option maxRecDepth 20000 in
theorem ggX7_minutesUntilStill_X4_still : GoodIn wsX7_minutesUntilStill wsX4_still := goodIn_r _ [35, 36, 37, 38, 39, 14, 40, 41, 42, 43, 44, 45, 46, 47, 48, 49, 7, 50, 51, 84, 85, 86, 87, 88, 89, 90, 91, 92, 76, 77, 78, 79, 80, 81, 82, 83] (by decide +kernel) (by decide +kernel)
set_option maxRecDepth 20000 in
theorem gX7_minutesUntilStill_X4_still : GoodIn wsX7_minutesUntilStill (wsV RX7 231 RX4 yX4_still wsX4_still) := goodIn_app (goodIn_of _ (by decide +kernel)) ggX7_minutesUntilStill_X4_still
set_option maxRecDepth 20000 in
theorem ggX7_minutesUntilStill_X4_surrounding : GoodIn wsX7_minutesUntilStill wsX4_surrounding := goodIn_r _ [46, 47, 48, 49, 7, 50, 51, 84, 85, 86, 87, 88, 89, 90, 91, 92, 76, 77, 78, 79, 80, 81, 82, 83] (by decide +kernel) (by decide +kernel)
set_option maxRecDepth 20000 in
theorem gX7_minutesUntilStill_X4_surrounding : GoodIn wsX7_minutesUntilStill (wsV RX7 181 RX4 yX4_surrounding wsX4_surrounding) := goodIn_app (goodIn_of _ (by decide +kernel)) ggX7_minutesUntilStill_X4_surrounding
set_option maxRecDepth 20000 in
theorem ggX7_minutesUntilStill_X1_age : GoodIn wsX7_minutesUntilStill wsX1_age := goodIn_r _ [56, 23, 29, 57, 58, 59, 60, 24, 28, 61, 62, 63, 64, 7, 65, 66, 67, 68, 21, 69, 27, 84, 85, 86, 87, 88, 89, 90, 91, 92] (by decide +kernel) (by decide +kernel)
set_option maxRecDepth 20000 in
theorem gX7_minutesUntilStill_X1_age : GoodIn wsX7_minutesUntilStill (wsV RX7 227 RX1 yX1_age wsX1_age) := goodIn_app (goodIn_of _ (by decide +kernel)) ggX7_minutesUntilStill_X1_age
set_option maxRecDepth 20000 in
theorem ggX7_hairDifference_X4_hairsHere : GoodIn wsX7_hairDifference wsX4_hairsHere := goodIn_r _ [10, 11, 12, 13, 14, 15, 28, 29, 30, 31, 32, 33, 34, 35, 36, 37, 38, 39, 40, 41, 42, 43, 44] (by decide +kernel) (by decide +kernel)
set_option maxRecDepth 20000 in
theorem gX7_hairDifference_X4_hairsHere : GoodIn wsX7_hairDifference (wsV RX7 234 RX4 yX4_hairsHere wsX4_hairsHere) := goodIn_app (goodIn_of _ (by decide +kernel)) ggX7_hairDifference_X4_hairsHere
set_option maxRecDepth 20000 in
theorem ggX7_hairDifference_X4_hairsThatCame : GoodIn wsX7_hairDifference wsX4_hairsThatCame := goodIn_r _ [19, 20, 12, 13, 21, 28, 29, 30, 31, 32, 33, 34, 35, 36, 37, 38, 39, 40, 41, 42, 43, 44] (by decide +kernel) (by decide +kernel)
set_option maxRecDepth 20000 in
theorem gX7_hairDifference_X4_hairsThatCame : GoodIn wsX7_hairDifference (wsV RX7 237 RX4 yX4_hairsThatCame wsX4_hairsThatCame) := goodIn_app (goodIn_of _ (by decide +kernel)) ggX7_hairDifference_X4_hairsThatCame
set_option maxRecDepth 20000 in
theorem ggX7_meanReading_X4_sumOfReadings : GoodIn wsX7_meanReading wsX4_sumOfReadings := goodIn_r _ [7, 8, 9, 10, 11, 12, 6, 13, 14, 15, 16, 17, 18, 19, 20, 21, 22, 23, 24, 25, 26, 27, 28, 29, 30, 31, 32, 33, 34, 35, 36, 37, 38, 39, 40, 41, 42, 43, 44, 45, 46, 53, 54, 55, 56, 57, 58, 59, 60, 61, 62, 63, 64, 65, 66, 67, 68, 69] (by decide +kernel) (by decide +kernel)
set_option maxRecDepth 20000 in
theorem gX7_meanReading_X4_sumOfReadings : GoodIn wsX7_meanReading (wsV RX7 245 RX4 yX4_sumOfReadings wsX4_sumOfReadings) := goodIn_app (goodIn_of _ (by decide +kernel)) ggX7_meanReading_X4_sumOfReadings
set_option maxRecDepth 20000 in
theorem ggX7_usableShare_X4_countUsable : GoodIn wsX7_usableShare wsX4_countUsable := goodIn_r _ [7, 8, 9, 10, 11, 12, 13, 14, 15, 16, 17, 18, 19, 20, 21, 22, 23, 30, 31, 32, 33, 34, 35, 36, 37, 38, 39, 40, 41, 42, 43, 44, 45, 46] (by decide +kernel) (by decide +kernel)
set_option maxRecDepth 20000 in
theorem gX7_usableShare_X4_countUsable : GoodIn wsX7_usableShare (wsV RX7 204 RX4 yX4_countUsable wsX4_countUsable) := goodIn_app (goodIn_of _ (by decide +kernel)) ggX7_usableShare_X4_countUsable
set_option maxRecDepth 20000 in
theorem ggX7_advance_X0_record : GoodIn wsX7_advance wsX0_record := goodIn_r _ [12, 13, 14, 15, 16, 17, 18, 19, 20, 21, 22, 23, 24, 25, 26, 27, 28, 29, 30, 31, 32, 33, 34, 35, 36, 37, 38, 39, 40, 41, 42, 43, 44, 45, 46, 93, 94, 95, 85, 86, 87, 88, 89, 90, 91, 92, 96, 97, 98, 99, 100, 101, 102, 103, 104] (by decide +kernel) (by decide +kernel)
set_option maxRecDepth 20000 in
theorem gX7_advance_X0_record : GoodIn wsX7_advance (wsV RX7 250 RX0 yX0_record wsX0_record) := goodIn_app (goodIn_of _ (by decide +kernel)) ggX7_advance_X0_record
set_option maxRecDepth 20000 in
theorem ggX7_advance_X4_pass : GoodIn wsX7_advance wsX4_pass := goodIn_r _ [50, 31, 26, 25, 32, 51, 52, 53, 23, 54, 55, 27, 56, 57, 58, 59, 60, 61, 62, 36, 63, 38, 44, 64, 65, 18, 66, 39, 43, 67, 17, 19, 68, 69, 70, 71, 72, 73, 42, 74, 75, 76, 77, 29, 30, 78, 85, 86, 87, 88, 89, 90, 91, 92, 96, 97, 98, 99, 100, 101, 102, 103, 104] (by decide +kernel) (by decide +kernel)
set_option maxRecDepth 20000 in
theorem gX7_advance_X4_pass : GoodIn wsX7_advance (wsV RX7 66 RX4 yX4_pass wsX4_pass) := goodIn_app (goodIn_of _ (by decide +kernel)) ggX7_advance_X4_pass
set_option maxRecDepth 20000 in
theorem ggX7_setHumidity_X0_record : GoodIn wsX7_setHumidity wsX0_record := goodIn_r _ [10, 11, 12, 13, 14, 15, 16, 17, 18, 19, 20, 21, 22, 23, 24, 25, 26, 27, 28, 29, 30, 31, 32, 33, 34, 35, 36, 37, 38, 39, 40, 41, 42, 43, 44, 59, 60, 61, 51, 52, 53, 54, 55, 56, 57, 58, 62, 63, 64, 65, 66, 67, 68, 69, 70] (by decide +kernel) (by decide +kernel)
set_option maxRecDepth 20000 in
theorem gX7_setHumidity_X0_record : GoodIn wsX7_setHumidity (wsV RX7 250 RX0 yX0_record wsX0_record) := goodIn_app (goodIn_of _ (by decide +kernel)) ggX7_setHumidity_X0_record
set_option maxRecDepth 20000 in
theorem ggX7_setTemperature_X0_record : GoodIn wsX7_setTemperature wsX0_record := goodIn_r _ [10, 11, 12, 13, 14, 15, 16, 17, 18, 19, 20, 21, 22, 23, 24, 25, 26, 27, 28, 29, 30, 31, 32, 33, 34, 35, 36, 37, 38, 39, 40, 41, 42, 43, 44, 59, 60, 61, 51, 52, 53, 54, 55, 56, 57, 58, 62, 63, 64, 65, 66, 67, 68, 69, 70] (by decide +kernel) (by decide +kernel)
set_option maxRecDepth 20000 in
theorem gX7_setTemperature_X0_record : GoodIn wsX7_setTemperature (wsV RX7 250 RX0 yX0_record wsX0_record) := goodIn_app (goodIn_of _ (by decide +kernel)) ggX7_setTemperature_X0_record
set_option maxRecDepth 20000 in
theorem ggX7_setSkill_X0_record : GoodIn wsX7_setSkill wsX0_record := goodIn_r _ [10, 11, 12, 13, 14, 15, 16, 17, 18, 19, 20, 21, 22, 23, 24, 25, 26, 27, 28, 29, 30, 31, 32, 33, 34, 35, 36, 37, 38, 39, 40, 41, 42, 43, 44, 59, 60, 61, 51, 52, 53, 54, 55, 56, 57, 58, 62, 63, 64, 65, 66, 67, 68, 69, 70] (by decide +kernel) (by decide +kernel)
set_option maxRecDepth 20000 in
theorem gX7_setSkill_X0_record : GoodIn wsX7_setSkill (wsV RX7 250 RX0 yX0_record wsX0_record) := goodIn_app (goodIn_of _ (by decide +kernel)) ggX7_setSkill_X0_record
set_option maxRecDepth 20000 in
theorem ggX7_putInBox_X7_instrumentAt : GoodIn wsX7_putInBox wsX7_instrumentAt := goodIn_ca (goodIn_r _ [12, 13, 14, 6, 15, 16, 17, 18, 19, 20, 21, 73, 74, 75, 76, 77, 78, 88, 89, 90, 91, 92, 93, 94, 95] (by decide +kernel) (by decide +kernel)) (goodIn_sub (fun _ h => List.mem_cons_of_mem _ (List.mem_append_right _ h)) (by decide +kernel))
set_option maxRecDepth 20000 in
theorem gX7_putInBox_X7_instrumentAt : GoodIn wsX7_putInBox (wsV RX7 151 RX7 yX7_instrumentAt wsX7_instrumentAt) := goodIn_app (goodIn_of _ (by decide +kernel)) ggX7_putInBox_X7_instrumentAt
set_option maxRecDepth 20000 in
theorem ggX7_putInBox_X7_isSalt : GoodIn wsX7_putInBox wsX7_isSalt := goodIn_r _ [24, 25] (by decide +kernel) (by decide +kernel)
set_option maxRecDepth 20000 in
theorem gX7_putInBox_X7_isSalt : GoodIn wsX7_putInBox (va_wsS RX7 141 yX7_isSalt wsX7_isSalt) := goodIn_app (goodIn_of _ (by decide +kernel)) ggX7_putInBox_X7_isSalt
set_option maxRecDepth 20000 in
theorem ggX7_putInBox_X1_isBoxed : GoodIn wsX7_putInBox wsX1_isBoxed := goodIn_r _ [30, 31, 79, 80, 81, 82, 83, 84, 85, 86, 87] (by decide +kernel) (by decide +kernel)
set_option maxRecDepth 20000 in
theorem gX7_putInBox_X1_isBoxed : GoodIn wsX7_putInBox (wsV RX7 259 RX1 yX1_isBoxed wsX1_isBoxed) := goodIn_app (goodIn_of _ (by decide +kernel)) ggX7_putInBox_X1_isBoxed
set_option maxRecDepth 20000 in
theorem ggX7_putInBox_X0_record : GoodIn wsX7_putInBox wsX0_record := goodIn_r _ [36, 37, 38, 39, 40, 41, 42, 43, 44, 45, 46, 18, 47, 20, 48, 49, 50, 51, 52, 53, 21, 54, 55, 56, 29, 57, 58, 59, 60, 61, 62, 63, 64, 65, 31, 96, 97, 98, 88, 89, 90, 91, 92, 93, 94, 95, 79, 80, 81, 82, 83, 84, 85, 86, 87] (by decide +kernel) (by decide +kernel)
set_option maxRecDepth 20000 in
theorem gX7_putInBox_X0_record : GoodIn wsX7_putInBox (wsV RX7 250 RX0 yX0_record wsX0_record) := goodIn_app (goodIn_of _ (by decide +kernel)) ggX7_putInBox_X0_record
set_option maxRecDepth 20000 in
theorem ggX7_putInBox_X4_surrounding : GoodIn wsX7_putInBox wsX4_surrounding := goodIn_r _ [69, 70, 49, 71, 11, 72, 25, 79, 80, 81, 82, 83, 84, 85, 86, 87, 88, 89, 90, 91, 92, 93, 94, 95] (by decide +kernel) (by decide +kernel)
set_option maxRecDepth 20000 in
theorem gX7_putInBox_X4_surrounding : GoodIn wsX7_putInBox (wsV RX7 181 RX4 yX4_surrounding wsX4_surrounding) := goodIn_app (goodIn_of _ (by decide +kernel)) ggX7_putInBox_X4_surrounding
set_option maxRecDepth 20000 in
theorem ggX7_takeOut_X7_instrumentAt : GoodIn wsX7_takeOut wsX7_instrumentAt := goodIn_ca (goodIn_r _ [10, 11, 12, 4, 13, 14, 15, 16, 17, 18, 19, 60, 61, 62, 63, 64, 65, 75, 76, 77, 78, 79, 80, 81, 82] (by decide +kernel) (by decide +kernel)) (goodIn_sub (fun _ h => List.mem_cons_of_mem _ (List.mem_append_right _ h)) (by decide +kernel))
set_option maxRecDepth 20000 in
theorem gX7_takeOut_X7_instrumentAt : GoodIn wsX7_takeOut (wsV RX7 151 RX7 yX7_instrumentAt wsX7_instrumentAt) := goodIn_app (goodIn_of _ (by decide +kernel)) ggX7_takeOut_X7_instrumentAt
set_option maxRecDepth 20000 in
theorem ggX7_takeOut_X1_isBoxed : GoodIn wsX7_takeOut wsX1_isBoxed := goodIn_r _ [24, 25, 66, 67, 68, 69, 70, 71, 72, 73, 74] (by decide +kernel) (by decide +kernel)
set_option maxRecDepth 20000 in
theorem gX7_takeOut_X1_isBoxed : GoodIn wsX7_takeOut (wsV RX7 259 RX1 yX1_isBoxed wsX1_isBoxed) := goodIn_app (goodIn_of _ (by decide +kernel)) ggX7_takeOut_X1_isBoxed
set_option maxRecDepth 20000 in
theorem ggX7_takeOut_X0_record : GoodIn wsX7_takeOut wsX0_record := goodIn_r _ [30, 31, 32, 33, 34, 35, 36, 37, 38, 39, 40, 16, 41, 18, 42, 43, 44, 45, 46, 47, 19, 48, 49, 50, 23, 51, 52, 53, 54, 55, 56, 57, 58, 59, 25, 83, 84, 85, 75, 76, 77, 78, 79, 80, 81, 82, 66, 67, 68, 69, 70, 71, 72, 73, 74] (by decide +kernel) (by decide +kernel)
set_option maxRecDepth 20000 in
theorem gX7_takeOut_X0_record : GoodIn wsX7_takeOut (wsV RX7 250 RX0 yX0_record wsX0_record) := goodIn_app (goodIn_of _ (by decide +kernel)) ggX7_takeOut_X0_record
set_option maxRecDepth 20000 in
theorem ggX7_calibrate_X7_instrumentAt : GoodIn wsX7_calibrate wsX7_instrumentAt := goodIn_ca (goodIn_r _ [10, 11, 12, 3, 13, 14, 15, 16, 17, 18, 19, 91, 92, 93, 94, 95, 96, 106, 107, 108, 109, 110, 111, 112, 113] (by decide +kernel) (by decide +kernel)) (goodIn_sub (fun _ h => List.mem_cons_of_mem _ (List.mem_append_right _ h)) (by decide +kernel))
set_option maxRecDepth 20000 in
theorem gX7_calibrate_X7_instrumentAt : GoodIn wsX7_calibrate (wsV RX7 151 RX7 yX7_instrumentAt wsX7_instrumentAt) := goodIn_app (goodIn_of _ (by decide +kernel)) ggX7_calibrate_X7_instrumentAt
set_option maxRecDepth 20000 in
theorem ggX7_calibrate_X4_obstacle : GoodIn wsX7_calibrate wsX4_obstacle := goodIn_r _ [23, 24, 25, 26, 27, 28, 29, 30, 31, 32, 16, 33, 34, 35, 36, 37, 38, 39, 40, 41, 42, 43, 9, 44, 45, 97, 98, 99, 100, 101, 102, 103, 104, 105, 106, 107, 108, 109, 110, 111, 112, 113] (by decide +kernel) (by decide +kernel)
set_option maxRecDepth 20000 in
theorem gX7_calibrate_X4_obstacle : GoodIn wsX7_calibrate (wsV RX7 201 RX4 yX4_obstacle wsX4_obstacle) := goodIn_app (goodIn_of _ (by decide +kernel)) ggX7_calibrate_X4_obstacle
set_option maxRecDepth 20000 in
theorem ggX7_calibrate_X0_record : GoodIn wsX7_calibrate wsX0_record := goodIn_r _ [50, 51, 52, 53, 54, 55, 56, 57, 58, 59, 60, 16, 61, 18, 62, 42, 63, 64, 65, 66, 19, 67, 68, 69, 27, 70, 71, 72, 73, 74, 75, 76, 77, 78, 29, 114, 115, 116, 106, 107, 108, 109, 110, 111, 112, 113, 97, 98, 99, 100, 101, 102, 103, 104, 105] (by decide +kernel) (by decide +kernel)
set_option maxRecDepth 20000 in
theorem gX7_calibrate_X0_record : GoodIn wsX7_calibrate (wsV RX7 250 RX0 yX0_record wsX0_record) := goodIn_app (goodIn_of _ (by decide +kernel)) ggX7_calibrate_X0_record
set_option maxRecDepth 20000 in
theorem ggX7_calibrate_X4_surrounding : GoodIn wsX7_calibrate wsX4_surrounding := goodIn_r _ [40, 41, 42, 43, 9, 44, 45, 97, 98, 99, 100, 101, 102, 103, 104, 105, 106, 107, 108, 109, 110, 111, 112, 113] (by decide +kernel) (by decide +kernel)
set_option maxRecDepth 20000 in
theorem gX7_calibrate_X4_surrounding : GoodIn wsX7_calibrate (wsV RX7 181 RX4 yX4_surrounding wsX4_surrounding) := goodIn_app (goodIn_of _ (by decide +kernel)) ggX7_calibrate_X4_surrounding
set_option maxRecDepth 20000 in
theorem ggX7_calibrate_X4_raw : GoodIn wsX7_calibrate wsX4_raw := goodIn_r _ [83, 34, 35, 84, 63, 85, 86, 87, 16, 88, 36, 37, 38, 39, 40, 41, 42, 43, 9, 44, 45, 89, 90, 97, 98, 99, 100, 101, 102, 103, 104, 105, 106, 107, 108, 109, 110, 111, 112, 113] (by decide +kernel) (by decide +kernel)
set_option maxRecDepth 20000 in
theorem gX7_calibrate_X4_raw : GoodIn wsX7_calibrate (wsV RX7 184 RX4 yX4_raw wsX4_raw) := goodIn_app (goodIn_of _ (by decide +kernel)) ggX7_calibrate_X4_raw
set_option maxRecDepth 20000 in
theorem ggX7_tighten_X7_instrumentAt : GoodIn wsX7_tighten wsX7_instrumentAt := goodIn_ca (goodIn_r _ [12, 13, 14, 6, 15, 16, 17, 18, 19, 20, 21, 71, 72, 73, 74, 75, 76, 77, 78, 79, 80, 81, 82, 83, 84] (by decide +kernel) (by decide +kernel)) (goodIn_sub (fun _ h => List.mem_cons_of_mem _ (List.mem_append_right _ h)) (by decide +kernel))
set_option maxRecDepth 20000 in
theorem gX7_tighten_X7_instrumentAt : GoodIn wsX7_tighten (wsV RX7 151 RX7 yX7_instrumentAt wsX7_instrumentAt) := goodIn_app (goodIn_of _ (by decide +kernel)) ggX7_tighten_X7_instrumentAt
set_option maxRecDepth 20000 in
theorem ggX7_tighten_X0_record : GoodIn wsX7_tighten wsX0_record := goodIn_r _ [26, 27, 28, 29, 30, 31, 32, 33, 34, 35, 36, 18, 37, 20, 38, 39, 40, 41, 42, 43, 21, 44, 45, 46, 47, 48, 49, 50, 51, 52, 53, 54, 55, 56, 57, 85, 86, 87, 77, 78, 79, 80, 81, 82, 83, 84, 62, 63, 64, 65, 66, 67, 68, 69, 70] (by decide +kernel) (by decide +kernel)
set_option maxRecDepth 20000 in
theorem gX7_tighten_X0_record : GoodIn wsX7_tighten (wsV RX7 250 RX0 yX0_record wsX0_record) := goodIn_app (goodIn_of _ (by decide +kernel)) ggX7_tighten_X0_record
set_option maxRecDepth 20000 in
theorem ggX7_tighten_X1_tightenSpring : GoodIn wsX7_tighten wsX1_tightenSpring := goodIn_r _ [61, 54, 53, 50, 52, 62, 63, 64, 65, 66, 67, 68, 69, 70] (by decide +kernel) (by decide +kernel)
set_option maxRecDepth 20000 in
theorem gX7_tighten_X1_tightenSpring : GoodIn wsX7_tighten (wsV RX7 271 RX1 yX1_tightenSpring wsX1_tightenSpring) := goodIn_app (goodIn_of _ (by decide +kernel)) ggX7_tighten_X1_tightenSpring
set_option maxRecDepth 20000 in
theorem ggX7_moisten_X7_instrumentAt : GoodIn wsX7_moisten wsX7_instrumentAt := goodIn_ca (goodIn_r _ [11, 12, 13, 5, 14, 15, 16, 17, 18, 19, 20, 66, 67, 68, 69, 70, 71, 72, 73, 74, 75, 76, 77, 78, 79] (by decide +kernel) (by decide +kernel)) (goodIn_sub (fun _ h => List.mem_cons_of_mem _ (List.mem_append_right _ h)) (by decide +kernel))
set_option maxRecDepth 20000 in
theorem gX7_moisten_X7_instrumentAt : GoodIn wsX7_moisten (wsV RX7 151 RX7 yX7_instrumentAt wsX7_instrumentAt) := goodIn_app (goodIn_of _ (by decide +kernel)) ggX7_moisten_X7_instrumentAt
set_option maxRecDepth 20000 in
theorem ggX7_moisten_X0_record : GoodIn wsX7_moisten wsX0_record := goodIn_r _ [25, 26, 27, 28, 29, 30, 31, 32, 33, 34, 35, 17, 36, 19, 37, 38, 39, 40, 41, 42, 20, 43, 44, 45, 46, 47, 48, 49, 50, 51, 52, 53, 54, 55, 56, 80, 81, 82, 72, 73, 74, 75, 76, 77, 78, 79, 57, 58, 59, 60, 61, 62, 63, 64, 65] (by decide +kernel) (by decide +kernel)
set_option maxRecDepth 20000 in
theorem gX7_moisten_X0_record : GoodIn wsX7_moisten (wsV RX7 250 RX0 yX0_record wsX0_record) := goodIn_app (goodIn_of _ (by decide +kernel)) ggX7_moisten_X0_record
set_option maxRecDepth 20000 in
theorem ggX7_addHairs_X7_instrumentAt : GoodIn wsX7_addHairs wsX7_instrumentAt := goodIn_ca (goodIn_r _ [14, 15, 16, 6, 17, 18, 19, 20, 21, 22, 23, 69, 70, 71, 72, 73, 74, 75, 76, 77, 78, 79, 80, 81, 82] (by decide +kernel) (by decide +kernel)) (goodIn_sub (fun _ h => List.mem_cons_of_mem _ (List.mem_append_right _ h)) (by decide +kernel))
set_option maxRecDepth 20000 in
theorem gX7_addHairs_X7_instrumentAt : GoodIn wsX7_addHairs (wsV RX7 151 RX7 yX7_instrumentAt wsX7_instrumentAt) := goodIn_app (goodIn_of _ (by decide +kernel)) ggX7_addHairs_X7_instrumentAt
set_option maxRecDepth 20000 in
theorem ggX7_addHairs_X0_record : GoodIn wsX7_addHairs wsX0_record := goodIn_r _ [28, 29, 30, 31, 32, 33, 34, 35, 36, 37, 38, 20, 39, 22, 40, 41, 42, 43, 44, 45, 23, 46, 47, 48, 49, 50, 51, 52, 53, 54, 55, 56, 57, 58, 59, 83, 84, 85, 75, 76, 77, 78, 79, 80, 81, 82, 60, 61, 62, 63, 64, 65, 66, 67, 68] (by decide +kernel) (by decide +kernel)
set_option maxRecDepth 20000 in
theorem gX7_addHairs_X0_record : GoodIn wsX7_addHairs (wsV RX7 250 RX0 yX0_record wsX0_record) := goodIn_app (goodIn_of _ (by decide +kernel)) ggX7_addHairs_X0_record
set_option maxRecDepth 20000 in
theorem ggX7_restore_X7_isSlot : GoodIn wsX7_restore wsX7_isSlot := goodIn_r _ [12] (by decide +kernel) (by decide +kernel)
set_option maxRecDepth 20000 in
theorem gX7_restore_X7_isSlot : GoodIn wsX7_restore (va_wsS RX7 280 yX7_isSlot wsX7_isSlot) := goodIn_app (goodIn_of _ (by decide +kernel)) ggX7_restore_X7_isSlot
set_option maxRecDepth 20000 in
theorem ggX7_restore_X5_find : GoodIn wsX7_restore wsX5_find := goodIn_r _ [17, 18, 19, 10, 11, 12, 74, 75] (by decide +kernel) (by decide +kernel)
set_option maxRecDepth 20000 in
theorem gX7_restore_X5_find : GoodIn wsX7_restore (wsV RX7 285 RX5 yX5_find wsX5_find) := goodIn_app (goodIn_of _ (by decide +kernel)) ggX7_restore_X5_find
set_option maxRecDepth 20000 in
theorem ggX7_restore_X0_record : GoodIn wsX7_restore wsX0_record := goodIn_r _ [24, 25, 26, 27, 28, 29, 30, 31, 32, 33, 34, 35, 36, 37, 38, 39, 40, 41, 42, 43, 44, 45, 46, 47, 48, 49, 50, 51, 52, 53, 54, 55, 56, 57, 58, 76, 77, 78, 66, 67, 68, 69, 70, 71, 72, 73, 79, 80, 81, 82, 83, 84, 85, 86, 87] (by decide +kernel) (by decide +kernel)
set_option maxRecDepth 20000 in
theorem gX7_restore_X0_record : GoodIn wsX7_restore (wsV RX7 250 RX0 yX0_record wsX0_record) := goodIn_app (goodIn_of _ (by decide +kernel)) ggX7_restore_X0_record
set_option maxRecDepth 20000 in
theorem ggX7_restore_X4_copyFrom : GoodIn wsX7_restore wsX4_copyFrom := goodIn_r _ [36, 37, 38, 39, 40, 41, 42, 43, 44, 45, 46, 47, 48, 49, 50, 51, 52, 53, 54, 55, 56, 57, 58, 66, 67, 68, 69, 70, 71, 72, 73, 79, 80, 81, 82, 83, 84, 85, 86, 87] (by decide +kernel) (by decide +kernel)
set_option maxRecDepth 20000 in
theorem gX7_restore_X4_copyFrom : GoodIn wsX7_restore (wsV RX7 115 RX4 yX4_copyFrom wsX4_copyFrom) := goodIn_app (goodIn_of _ (by decide +kernel)) ggX7_restore_X4_copyFrom
set_option maxRecDepth 20000 in
theorem ggX7_undo_X0_takeBack : GoodIn wsX7_undo wsX0_takeBack := goodIn_r _ [10, 11, 12, 13, 14, 15, 16, 17, 18, 19, 20, 21, 22, 23, 24, 25, 26, 27, 28, 29, 30, 31, 32, 33, 34, 35, 36, 37, 38, 39, 40, 47, 48, 49, 50, 51, 52, 53, 54, 55, 56, 57, 58, 59, 60, 61, 62, 63, 64, 65, 66] (by decide +kernel) (by decide +kernel)
set_option maxRecDepth 20000 in
theorem gX7_undo_X0_takeBack : GoodIn wsX7_undo (wsV RX7 296 RX0 yX0_takeBack wsX0_takeBack) := goodIn_app (goodIn_of _ (by decide +kernel)) ggX7_undo_X0_takeBack
set_option maxRecDepth 20000 in
theorem ggX7_save_X7_isSlot : GoodIn wsX7_save wsX7_isSlot := goodIn_r _ [9] (by decide +kernel) (by decide +kernel)
set_option maxRecDepth 20000 in
theorem gX7_save_X7_isSlot : GoodIn wsX7_save (va_wsS RX7 280 yX7_isSlot wsX7_isSlot) := goodIn_app (goodIn_of _ (by decide +kernel)) ggX7_save_X7_isSlot
set_option maxRecDepth 20000 in
theorem ggX7_save_X5_keep : GoodIn wsX7_save wsX5_keep := goodIn_r _ [14, 15, 16, 7, 8, 9, 17, 18, 19, 20, 21, 22, 23, 24, 25, 26, 27, 28, 29, 30, 31, 32, 33, 34, 35, 36, 37, 38, 39, 40, 41, 42, 43, 58, 59, 50, 51, 52, 53, 54, 55, 56, 57, 60, 61, 62, 63, 64, 65, 66, 67, 68] (by decide +kernel) (by decide +kernel)
set_option maxRecDepth 20000 in
theorem gX7_save_X5_keep : GoodIn wsX7_save (wsV RX7 299 RX5 yX5_keep wsX5_keep) := goodIn_app (goodIn_of _ (by decide +kernel)) ggX7_save_X5_keep
set_option maxRecDepth 20000 in
theorem ggX7_instrumentAt_X4_find : GoodIn wsX7_instrumentAt wsX4_find := goodIn_r _ [8, 9, 10, 17, 18, 19, 20, 21, 22, 23, 24] (by decide +kernel) (by decide +kernel)
set_option maxRecDepth 20000 in
theorem gX7_instrumentAt_X4_find : GoodIn wsX7_instrumentAt (wsV RX7 318 RX4 yX4_find wsX4_find) := goodIn_app (goodIn_of _ (by decide +kernel)) ggX7_instrumentAt_X4_find
