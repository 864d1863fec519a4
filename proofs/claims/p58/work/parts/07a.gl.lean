set_option maxRecDepth 20000 in
theorem ggL_type_J0_length_8abf5 : GoodIn wsL_type wsJ0_length_8abf5 := goodIn_r _ [6, 7, 8, 9, 10, 5, 11, 12, 13, 68, 69, 70, 71] (by decide +kernel) (by decide +kernel)
set_option maxRecDepth 20000 in
theorem gL_type_J0_length_8abf5 : GoodIn wsL_type (wsV RL 8 RJ0 yJ0_length_8abf5 wsJ0_length_8abf5) := goodIn_app (goodIn_of _ (by decide +kernel)) ggL_type_J0_length_8abf5
set_option maxRecDepth 20000 in
theorem ggL_type_J0_charAt_5068e : GoodIn wsL_type wsJ0_charAt_5068e := goodIn_r _ [17, 7, 18, 19, 20, 5, 21, 12, 13, 22, 23, 24, 25, 26, 27, 28, 29, 30, 31, 32, 33, 34, 35, 36, 37, 38, 39, 40, 41, 42, 43, 44, 45, 46, 47, 48, 49, 50, 68, 69, 70, 71] (by decide +kernel) (by decide +kernel)
set_option maxRecDepth 20000 in
theorem gL_type_J0_charAt_5068e : GoodIn wsL_type (wsV RL 14 RJ0 yJ0_charAt_5068e wsJ0_charAt_5068e) := goodIn_app (goodIn_of _ (by decide +kernel)) ggL_type_J0_charAt_5068e
set_option maxRecDepth 20000 in
theorem ggL_type_X7_append : GoodIn wsL_type wsX7_append := goodIn_ca (goodIn_r _ [55, 56, 57, 58, 59, 60, 61, 62, 63, 64, 65, 66, 67, 72, 73, 74, 75, 76, 77, 78, 79, 80, 81, 82, 83, 84, 85, 86, 87] (by decide +kernel) (by decide +kernel)) (goodIn_sub (fun _ h => List.mem_cons_of_mem _ (List.mem_append_right _ h)) (by decide +kernel))
set_option maxRecDepth 20000 in
theorem gL_type_X7_append : GoodIn wsL_type (wsV RL 18 RX7 yX7_append wsX7_append) := goodIn_app (goodIn_of _ (by decide +kernel)) ggL_type_X7_append
set_option maxRecDepth 20000 in
theorem ggL_load_L_type : GoodIn wsL_load wsL_type := goodIn_ca (goodIn_r _ [6, 7, 8, 9, 10, 11, 12, 13, 14, 15, 16, 17, 18, 19, 20, 21, 22, 23, 24, 25, 26, 27, 28, 29, 30, 31, 32, 33, 34, 35, 36, 37, 38, 39, 40, 41, 42, 43, 44, 45, 46, 47, 48, 49, 50, 51, 52, 53, 54, 55, 56, 57, 58, 59, 60, 61, 62, 63, 64, 65, 66, 67, 68, 69, 70, 71, 72, 73, 300, 301, 302, 303, 304, 305, 306, 307, 308, 309, 310, 311, 312, 313, 314, 315, 316, 317, 318, 319] (by decide +kernel) (by decide +kernel)) (goodIn_sub (fun _ h => List.mem_cons_of_mem _ (List.mem_append_left _ (List.mem_append_left _ (List.mem_append_right _ h)))) (by decide +kernel))
set_option maxRecDepth 20000 in
theorem gL_load_L_type : GoodIn wsL_load (va_wsS RL 24 yL_type wsL_type) := goodIn_app (goodIn_of _ (by decide +kernel)) ggL_load_L_type
set_option maxRecDepth 20000 in
theorem ggL_load_X7_load : GoodIn wsL_load wsX7_load := goodIn_ca (goodIn_ca (goodIn_r _ [77, 78, 79, 80, 81, 64, 65, 66, 82, 83, 84, 85, 86, 87, 88, 89, 90, 91, 92, 93, 94, 95, 96, 97, 98, 99, 100, 70, 101, 72, 102, 103, 104, 105, 106, 107, 108, 109, 110, 111, 112, 113, 114, 115, 116, 117, 118, 73, 119, 120, 121, 122, 123, 124, 125, 126, 127, 128, 129, 130, 9, 10, 11, 12, 13, 14, 15, 16, 17, 18, 19, 131, 21, 22, 23, 24, 25, 26, 27, 28, 29, 30, 31, 32, 33, 34, 35, 36, 37, 38, 39, 40, 41, 42, 43, 44, 45, 46, 47, 48, 49, 50, 51, 52, 53, 54, 55, 56, 132, 133, 134, 135, 136, 137, 138, 139, 140, 141, 142, 143, 144, 145, 146, 147, 148, 149, 150, 151, 152, 153, 154, 155, 156, 157, 158, 159, 160, 161, 162, 163, 164, 165, 166, 167, 168, 169, 170, 171, 172, 173, 174, 175, 176, 177, 178, 179, 180, 181, 182, 183, 184, 185, 186, 187, 188, 189, 190, 191, 192, 193, 194, 195, 196, 197, 198, 199, 200, 201, 202, 203, 204, 205, 206, 207, 208, 209, 210, 211, 212, 213, 214, 215, 216, 217, 218, 219, 220, 221, 222, 223, 224, 225, 226, 227, 228, 229, 230, 231, 232, 233, 234, 235, 236, 237, 238, 239, 240, 241, 242, 243, 244, 245, 246, 247, 248, 249, 250, 251, 252, 253, 254, 255, 256, 257, 60, 258, 259, 260, 261, 262, 263, 264, 265, 266, 267, 268, 269, 270, 271, 272, 273, 274, 275, 276, 277, 278, 279, 280, 281, 282, 283, 284, 285, 286, 287, 288, 289, 290, 291, 292, 293, 294, 295, 296, 297, 298, 299, 304, 305, 306, 307, 308, 309, 310, 311, 312, 313, 314, 315, 316, 317, 318, 319, 320, 321, 322, 323, 324, 325, 326, 327, 300, 301, 302, 303, 328, 329, 330, 331, 332, 333, 334, 335, 336, 337, 338, 339, 340, 341] (by decide +kernel) (by decide +kernel)) (goodIn_sub (fun _ h => List.mem_cons_of_mem _ (List.mem_append_left _ (List.mem_append_right _ h))) (by decide +kernel))) (goodIn_sub (fun _ h => List.mem_cons_of_mem _ (List.mem_append_right _ h)) (by decide +kernel))
set_option maxRecDepth 20000 in
theorem gL_load_X7_load : GoodIn wsL_load (wsV RL 30 RX7 yX7_load wsX7_load) := goodIn_app (goodIn_of _ (by decide +kernel)) ggL_load_X7_load
set_option maxRecDepth 20000 in
theorem ggL_undone_X7_undo : GoodIn wsL_undone wsX7_undo := goodIn_ca (goodIn_r _ [6, 7, 8, 9, 10, 11, 12, 13, 14, 15, 16, 17, 18, 19, 20, 21, 22, 23, 24, 25, 26, 27, 28, 29, 30, 31, 32, 33, 34, 35, 36, 37, 38, 39, 40, 41, 42, 43, 44, 45, 46, 47, 48, 49, 50, 51, 52, 53, 54, 55, 56, 57, 58, 59, 60, 61, 62, 63, 64, 65, 66, 67, 68, 69, 70, 71, 72] (by decide +kernel) (by decide +kernel)) (goodIn_sub (fun _ h => List.mem_cons_of_mem _ (List.mem_append_right _ h)) (by decide +kernel))
set_option maxRecDepth 20000 in
theorem gL_undone_X7_undo : GoodIn wsL_undone (wsV RL 38 RX7 yX7_undo wsX7_undo) := goodIn_app (goodIn_of _ (by decide +kernel)) ggL_undone_X7_undo
set_option maxRecDepth 20000 in
theorem ggL_advanced_X7_advance : GoodIn wsL_advanced wsX7_advance := goodIn_ca (goodIn_ca (goodIn_r _ [7, 8, 9, 10, 11, 12, 13, 14, 15, 16, 17, 18, 19, 20, 21, 22, 23, 24, 25, 26, 27, 28, 29, 30, 31, 32, 33, 34, 35, 36, 37, 38, 39, 40, 41, 42, 43, 44, 45, 46, 47, 48, 49, 50, 51, 52, 53, 54, 55, 56, 57, 58, 59, 60, 61, 62, 63, 6, 64, 65, 66, 67, 68, 69, 70, 71, 72, 73, 74, 75, 76, 77, 78, 79, 80, 81, 82, 83, 84, 85, 86, 87, 88, 89, 90, 91, 92, 93, 94, 95, 96, 97, 98, 99, 100, 101, 102, 103, 104, 105, 106, 107, 108, 109, 110] (by decide +kernel) (by decide +kernel)) (goodIn_sub (fun _ h => List.mem_cons_of_mem _ (List.mem_append_left _ (List.mem_append_right _ h))) (by decide +kernel))) (goodIn_sub (fun _ h => List.mem_cons_of_mem _ (List.mem_append_right _ h)) (by decide +kernel))
set_option maxRecDepth 20000 in
theorem gL_advanced_X7_advance : GoodIn wsL_advanced (wsV RL 43 RX7 yX7_advance wsX7_advance) := goodIn_app (goodIn_of _ (by decide +kernel)) ggL_advanced_X7_advance
set_option maxRecDepth 20000 in
theorem ggL_damped_X7_setHumidity : GoodIn wsL_damped wsX7_setHumidity := goodIn_ca (goodIn_r _ [6, 7, 8, 9, 10, 11, 12, 13, 14, 15, 16, 17, 18, 19, 20, 21, 22, 23, 24, 25, 26, 27, 28, 29, 30, 31, 32, 33, 34, 35, 36, 37, 38, 39, 40, 41, 42, 43, 44, 45, 46, 47, 48, 49, 50, 51, 52, 53, 54, 55, 56, 57, 58, 59, 60, 61, 62, 63, 64, 65, 66, 67, 68, 69, 70, 71, 72, 73, 74, 75, 76] (by decide +kernel) (by decide +kernel)) (goodIn_sub (fun _ h => List.mem_cons_of_mem _ (List.mem_append_right _ h)) (by decide +kernel))
set_option maxRecDepth 20000 in
theorem gL_damped_X7_setHumidity : GoodIn wsL_damped (wsV RL 46 RX7 yX7_setHumidity wsX7_setHumidity) := goodIn_app (goodIn_of _ (by decide +kernel)) ggL_damped_X7_setHumidity
set_option maxRecDepth 20000 in
theorem ggL_warmed_X7_setTemperature : GoodIn wsL_warmed wsX7_setTemperature := goodIn_ca (goodIn_r _ [6, 7, 8, 9, 10, 11, 12, 13, 14, 15, 16, 17, 18, 19, 20, 21, 22, 23, 24, 25, 26, 27, 28, 29, 30, 31, 32, 33, 34, 35, 36, 37, 38, 39, 40, 41, 42, 43, 44, 45, 46, 47, 48, 49, 50, 51, 52, 53, 54, 55, 56, 57, 58, 59, 60, 61, 62, 63, 64, 65, 66, 67, 68, 69, 70, 71, 72, 73, 74, 75, 76] (by decide +kernel) (by decide +kernel)) (goodIn_sub (fun _ h => List.mem_cons_of_mem _ (List.mem_append_right _ h)) (by decide +kernel))
set_option maxRecDepth 20000 in
theorem gL_warmed_X7_setTemperature : GoodIn wsL_warmed (wsV RL 49 RX7 yX7_setTemperature wsX7_setTemperature) := goodIn_app (goodIn_of _ (by decide +kernel)) ggL_warmed_X7_setTemperature
set_option maxRecDepth 20000 in
theorem ggL_taught_X7_setSkill : GoodIn wsL_taught wsX7_setSkill := goodIn_ca (goodIn_r _ [6, 7, 8, 9, 10, 11, 12, 13, 14, 15, 16, 17, 18, 19, 20, 21, 22, 23, 24, 25, 26, 27, 28, 29, 30, 31, 32, 33, 34, 35, 36, 37, 38, 39, 40, 41, 42, 43, 44, 45, 46, 47, 48, 49, 50, 51, 52, 53, 54, 55, 56, 57, 58, 59, 60, 61, 62, 63, 64, 65, 66, 67, 68, 69, 70, 71, 72, 73, 74, 75, 76] (by decide +kernel) (by decide +kernel)) (goodIn_sub (fun _ h => List.mem_cons_of_mem _ (List.mem_append_right _ h)) (by decide +kernel))
set_option maxRecDepth 20000 in
theorem gL_taught_X7_setSkill : GoodIn wsL_taught (wsV RL 52 RX7 yX7_setSkill wsX7_setSkill) := goodIn_app (goodIn_of _ (by decide +kernel)) ggL_taught_X7_setSkill
set_option maxRecDepth 20000 in
theorem ggL_boxed_X7_putInBox : GoodIn wsL_boxed wsX7_putInBox := goodIn_ca (goodIn_ca (goodIn_ca (goodIn_r _ [8, 9, 10, 11, 12, 13, 14, 15, 16, 17, 18, 7, 19, 20, 21, 22, 23, 24, 25, 26, 27, 28, 29, 30, 31, 32, 33, 34, 35, 36, 37, 38, 39, 40, 41, 42, 43, 44, 45, 46, 47, 48, 49, 50, 51, 52, 53, 54, 55, 56, 57, 58, 59, 60, 61, 62, 63, 64, 65, 66, 67, 68, 69, 70, 71, 72, 73, 74, 75, 76, 77, 78, 79, 80, 81, 82, 83, 84, 85, 86, 87, 88, 89, 90, 91, 92, 93, 94, 95, 96, 97, 98, 99, 100, 101, 102, 103, 104, 105] (by decide +kernel) (by decide +kernel)) (goodIn_sub (fun _ h => List.mem_cons_of_mem _ (List.mem_append_left _ (List.mem_append_left _ (List.mem_append_right _ h)))) (by decide +kernel))) (goodIn_sub (fun _ h => List.mem_cons_of_mem _ (List.mem_append_left _ (List.mem_append_right _ h))) (by decide +kernel))) (goodIn_sub (fun _ h => List.mem_cons_of_mem _ (List.mem_append_right _ h)) (by decide +kernel))
set_option maxRecDepth 20000 in
theorem gL_boxed_X7_putInBox : GoodIn wsL_boxed (wsV RL 55 RX7 yX7_putInBox wsX7_putInBox) := goodIn_app (goodIn_of _ (by decide +kernel)) ggL_boxed_X7_putInBox
set_option maxRecDepth 20000 in
theorem ggL_taken_X7_takeOut : GoodIn wsL_taken wsX7_takeOut := goodIn_ca (goodIn_ca (goodIn_r _ [7, 8, 9, 10, 11, 12, 13, 14, 15, 6, 16, 17, 18, 19, 20, 21, 22, 23, 24, 25, 26, 27, 28, 29, 30, 31, 32, 33, 34, 35, 36, 37, 38, 39, 40, 41, 42, 43, 44, 45, 46, 47, 48, 49, 50, 51, 52, 53, 54, 55, 56, 57, 58, 59, 60, 61, 62, 63, 64, 65, 66, 67, 68, 69, 70, 71, 72, 73, 74, 75, 76, 77, 78, 79, 80, 81, 82, 83, 84, 85, 86, 87, 88, 89, 90, 91] (by decide +kernel) (by decide +kernel)) (goodIn_sub (fun _ h => List.mem_cons_of_mem _ (List.mem_append_left _ (List.mem_append_right _ h))) (by decide +kernel))) (goodIn_sub (fun _ h => List.mem_cons_of_mem _ (List.mem_append_right _ h)) (by decide +kernel))
set_option maxRecDepth 20000 in
theorem gL_taken_X7_takeOut : GoodIn wsL_taken (wsV RL 59 RX7 yX7_takeOut wsX7_takeOut) := goodIn_app (goodIn_of _ (by decide +kernel)) ggL_taken_X7_takeOut
set_option maxRecDepth 20000 in
theorem ggL_calibrated_X7_calibrate : GoodIn wsL_calibrated wsX7_calibrate := goodIn_ca (goodIn_ca (goodIn_r _ [7, 8, 9, 10, 11, 12, 13, 14, 15, 6, 16, 17, 18, 19, 20, 21, 22, 23, 24, 25, 26, 27, 28, 29, 30, 31, 32, 33, 34, 35, 36, 37, 38, 39, 40, 41, 42, 43, 44, 45, 46, 47, 48, 49, 50, 51, 52, 53, 54, 55, 56, 57, 58, 59, 60, 61, 62, 63, 64, 65, 66, 67, 68, 69, 70, 71, 72, 73, 74, 75, 76, 77, 78, 79, 80, 81, 82, 83, 84, 85, 86, 87, 88, 89, 90, 91, 92, 93, 94, 95, 96, 97, 98, 99, 100, 101, 102, 103, 104, 105, 106, 107, 108, 109, 110, 111, 112, 113, 114, 115, 116, 117, 118, 119, 120, 121, 122] (by decide +kernel) (by decide +kernel)) (goodIn_sub (fun _ h => List.mem_cons_of_mem _ (List.mem_append_left _ (List.mem_append_right _ h))) (by decide +kernel))) (goodIn_sub (fun _ h => List.mem_cons_of_mem _ (List.mem_append_right _ h)) (by decide +kernel))
set_option maxRecDepth 20000 in
theorem gL_calibrated_X7_calibrate : GoodIn wsL_calibrated (wsV RL 62 RX7 yX7_calibrate wsX7_calibrate) := goodIn_app (goodIn_of _ (by decide +kernel)) ggL_calibrated_X7_calibrate
set_option maxRecDepth 20000 in
theorem ggL_tightened_X7_tighten : GoodIn wsL_tightened wsX7_tighten := goodIn_ca (goodIn_ca (goodIn_r _ [7, 8, 9, 10, 11, 12, 13, 14, 15, 16, 17, 6, 18, 19, 20, 21, 22, 23, 24, 25, 26, 27, 28, 29, 30, 31, 32, 33, 34, 35, 36, 37, 38, 39, 40, 41, 42, 43, 44, 45, 46, 47, 48, 49, 50, 51, 52, 53, 54, 55, 56, 57, 58, 59, 60, 61, 62, 63, 64, 65, 66, 67, 68, 69, 70, 71, 72, 73, 74, 75, 76, 77, 78, 79, 80, 81, 82, 83, 84, 85, 86, 87, 88, 89, 90, 91, 92, 93] (by decide +kernel) (by decide +kernel)) (goodIn_sub (fun _ h => List.mem_cons_of_mem _ (List.mem_append_left _ (List.mem_append_right _ h))) (by decide +kernel))) (goodIn_sub (fun _ h => List.mem_cons_of_mem _ (List.mem_append_right _ h)) (by decide +kernel))
set_option maxRecDepth 20000 in
theorem gL_tightened_X7_tighten : GoodIn wsL_tightened (wsV RL 65 RX7 yX7_tighten wsX7_tighten) := goodIn_app (goodIn_of _ (by decide +kernel)) ggL_tightened_X7_tighten
set_option maxRecDepth 20000 in
theorem ggL_moistened_X7_moisten : GoodIn wsL_moistened wsX7_moisten := goodIn_ca (goodIn_ca (goodIn_r _ [7, 8, 9, 10, 11, 12, 13, 14, 15, 16, 6, 17, 18, 19, 20, 21, 22, 23, 24, 25, 26, 27, 28, 29, 30, 31, 32, 33, 34, 35, 36, 37, 38, 39, 40, 41, 42, 43, 44, 45, 46, 47, 48, 49, 50, 51, 52, 53, 54, 55, 56, 57, 58, 59, 60, 61, 62, 63, 64, 65, 66, 67, 68, 69, 70, 71, 72, 73, 74, 75, 76, 77, 78, 79, 80, 81, 82, 83, 84, 85, 86, 87, 88] (by decide +kernel) (by decide +kernel)) (goodIn_sub (fun _ h => List.mem_cons_of_mem _ (List.mem_append_left _ (List.mem_append_right _ h))) (by decide +kernel))) (goodIn_sub (fun _ h => List.mem_cons_of_mem _ (List.mem_append_right _ h)) (by decide +kernel))
set_option maxRecDepth 20000 in
theorem gL_moistened_X7_moisten : GoodIn wsL_moistened (wsV RL 68 RX7 yX7_moisten wsX7_moisten) := goodIn_app (goodIn_of _ (by decide +kernel)) ggL_moistened_X7_moisten
set_option maxRecDepth 20000 in
theorem ggL_added_X7_addHairs : GoodIn wsL_added wsX7_addHairs := goodIn_ca (goodIn_ca (goodIn_ca (goodIn_r _ [8, 9, 10, 11, 12, 13, 14, 15, 16, 17, 18, 19, 20, 7, 21, 22, 23, 24, 25, 26, 27, 28, 29, 30, 31, 32, 33, 34, 35, 36, 37, 38, 39, 40, 41, 42, 43, 44, 45, 46, 47, 48, 49, 50, 51, 52, 53, 54, 55, 56, 57, 58, 59, 60, 61, 62, 63, 64, 65, 66, 67, 68, 69, 70, 71, 72, 73, 74, 75, 76, 77, 78, 79, 80, 81, 82, 83, 84, 85, 86, 87, 88, 89, 90, 91, 92] (by decide +kernel) (by decide +kernel)) (goodIn_sub (fun _ h => List.mem_cons_of_mem _ (List.mem_append_left _ (List.mem_append_left _ (List.mem_append_right _ h)))) (by decide +kernel))) (goodIn_sub (fun _ h => List.mem_cons_of_mem _ (List.mem_append_left _ (List.mem_append_right _ h))) (by decide +kernel))) (goodIn_sub (fun _ h => List.mem_cons_of_mem _ (List.mem_append_right _ h)) (by decide +kernel))
set_option maxRecDepth 20000 in
theorem gL_added_X7_addHairs : GoodIn wsL_added (wsV RL 71 RX7 yX7_addHairs wsX7_addHairs) := goodIn_app (goodIn_of _ (by decide +kernel)) ggL_added_X7_addHairs
set_option maxRecDepth 20000 in
theorem ggL_room_J4_init_a7421 : GoodIn wsL_room wsJ4_init_a7421 := goodIn_r _ [6, 7, 8, 9, 10, 11, 12, 13, 14, 15, 16, 17, 18, 19, 20, 21, 22, 23, 24, 25, 26, 27, 28, 29, 30, 31, 32, 33, 34, 35, 36, 37, 38, 39, 40, 41, 42, 43, 44, 3, 45, 46, 47, 48, 49, 50, 51, 52, 53, 54, 55, 56, 57, 58, 59, 60, 61, 62, 63, 64, 65, 66, 67, 68, 69, 70, 71, 72, 73, 74, 75, 76, 77, 78, 79, 80, 81, 82, 83, 84, 85, 86, 87, 88, 89, 90, 91, 92, 93, 94, 95, 96, 97, 98, 99, 100, 101, 102, 103, 104, 105, 106, 107, 108, 109, 110, 111, 112, 113, 114, 115, 116, 117, 118, 119, 120, 121, 122, 123, 124, 125, 126, 127, 128, 129, 130, 131, 132, 133, 134, 135, 136, 137, 138, 139, 140, 141, 142, 143, 144, 145, 146, 147, 148, 149, 150, 151, 152, 153, 154, 155, 156, 157, 158, 159, 160, 161, 162, 163, 164, 271, 272, 273, 274, 275, 276, 277, 278] (by decide +kernel) (by decide +kernel)
set_option maxRecDepth 20000 in
theorem gL_room_J4_init_a7421 : GoodIn wsL_room (wsJ4_init_a7421) := ggL_room_J4_init_a7421
set_option maxRecDepth 20000 in
theorem ggL_room_L_next : GoodIn wsL_room wsL_next := goodIn_r _ [168, 169] (by decide +kernel) (by decide +kernel)
set_option maxRecDepth 20000 in
theorem gL_room_L_next : GoodIn wsL_room (va_wsS RL 81 yL_next wsL_next) := goodIn_app (goodIn_of _ (by decide +kernel)) ggL_room_L_next
set_option maxRecDepth 20000 in
theorem ggL_room_J4_append_bf812 : GoodIn wsL_room wsJ4_append_bf812 := goodIn_r _ [173, 174, 175, 51, 176, 9, 177, 54, 18, 178, 179, 180, 181, 60, 61, 62, 63, 64, 16, 65, 66, 67, 68, 69, 15, 70, 71, 72, 73, 74, 75, 76, 77, 78, 79, 80, 81, 82, 83, 84, 85, 86, 87, 88, 89, 90, 91, 17, 92, 93, 94, 95, 96, 97, 98, 99, 100, 101, 102, 103, 104, 182, 183, 184, 185, 186, 187, 188, 34, 189, 108, 109, 110, 111, 112, 113, 114, 115, 116, 22, 117, 118, 119, 120, 121, 122, 190, 191, 192, 193, 194, 123, 124, 125, 126, 127, 271, 272, 273, 274] (by decide +kernel) (by decide +kernel)
set_option maxRecDepth 20000 in
theorem gL_room_J4_append_bf812 : GoodIn wsL_room (wsV RL 85 RJ4 yJ4_append_bf812 wsJ4_append_bf812) := goodIn_app (goodIn_of _ (by decide +kernel)) ggL_room_J4_append_bf812
set_option maxRecDepth 20000 in
theorem ggL_room_J4_append_cf468 : GoodIn wsL_room wsJ4_append_cf468 := goodIn_r _ [198, 199, 200, 51, 201, 9, 202, 54, 18, 60, 61, 62, 63, 64, 16, 65, 66, 67, 68, 69, 15, 70, 71, 72, 73, 74, 75, 76, 77, 78, 79, 80, 81, 82, 83, 84, 85, 86, 87, 88, 89, 90, 91, 17, 92, 93, 94, 95, 96, 97, 98, 99, 100, 101, 102, 103, 104, 203, 204, 145, 205, 138, 139, 140, 141, 142, 32, 33, 34, 35, 36, 37, 38, 39, 143, 144, 146, 147, 148, 149, 150, 151, 152, 112, 113, 114, 153, 154, 22, 155, 118, 156, 157, 121, 158, 123, 124, 125, 108, 126, 127, 206, 207, 208, 209, 210, 211, 212, 213, 214, 215, 216, 217, 271, 272, 273, 274] (by decide +kernel) (by decide +kernel)
set_option maxRecDepth 20000 in
theorem gL_room_J4_append_cf468 : GoodIn wsL_room (wsV RL 88 RJ4 yJ4_append_cf468 wsJ4_append_cf468) := goodIn_app (goodIn_of _ (by decide +kernel)) ggL_room_J4_append_cf468
set_option maxRecDepth 20000 in
theorem ggL_room_J4_append_15ec4 : GoodIn wsL_room wsJ4_append_15ec4 := goodIn_r _ [49, 50, 41, 51, 52, 9, 53, 54, 55, 56, 57, 58, 59, 18, 60, 61, 62, 63, 64, 16, 65, 66, 67, 68, 69, 15, 70, 71, 72, 73, 74, 75, 76, 77, 78, 79, 80, 81, 82, 83, 84, 85, 86, 87, 88, 89, 90, 91, 17, 92, 93, 94, 95, 96, 97, 98, 99, 100, 101, 102, 103, 104, 105, 106, 34, 107, 108, 109, 110, 111, 112, 113, 114, 115, 116, 22, 117, 118, 119, 120, 121, 122, 123, 124, 125, 126, 127, 19, 20, 21, 23, 24, 25, 26, 27, 28, 29, 30, 128, 129, 130, 131, 132, 133, 134, 135, 136, 137, 31, 138, 139, 140, 141, 142, 32, 33, 35, 36, 37, 38, 39, 143, 144, 145, 146, 147, 148, 149, 150, 151, 152, 153, 154, 155, 156, 157, 158, 159, 160, 161, 162, 163, 164, 271, 272, 273, 274, 275, 276, 277, 278] (by decide +kernel) (by decide +kernel)
set_option maxRecDepth 20000 in
theorem gL_room_J4_append_15ec4 : GoodIn wsL_room (wsV RL 93 RJ4 yJ4_append_15ec4 wsJ4_append_15ec4) := goodIn_app (goodIn_of _ (by decide +kernel)) ggL_room_J4_append_15ec4
set_option maxRecDepth 20000 in
theorem ggL_room_J4_toString_0e30d : GoodIn wsL_room wsJ4_toString_0e30d := goodIn_r _ [222, 223, 224, 22, 225, 226, 227, 228, 229, 230, 231, 12, 13, 30, 24, 29, 232, 233, 234, 235, 236, 9, 237, 18, 238, 239, 240, 241, 242, 3, 243, 244, 51, 245, 246, 54, 247, 100, 101, 102, 103, 104, 16, 248, 249, 84, 250, 86, 87, 88, 89, 90, 91, 251, 252, 253, 17, 92, 93, 76, 94, 95, 96, 97, 98, 254, 255, 256, 257, 2, 258, 259, 34, 260, 261, 262, 263, 150, 151, 152, 112, 113, 114, 153, 154, 155, 118, 156, 157, 121, 158, 264, 265, 266, 108, 126, 127, 36, 37, 38, 39, 267, 268, 269, 270, 275, 276, 277, 278, 271, 272, 273, 274] (by decide +kernel) (by decide +kernel)
set_option maxRecDepth 20000 in
theorem gL_room_J4_toString_0e30d : GoodIn wsL_room (wsV RL 100 RJ4 yJ4_toString_0e30d wsJ4_toString_0e30d) := goodIn_app (goodIn_of _ (by decide +kernel)) ggL_room_J4_toString_0e30d
set_option maxRecDepth 20000 in
theorem ggL_sum_X7_minute : GoodIn wsL_sum wsX7_minute := goodIn_r _ [6, 7, 8, 83, 84, 85, 86, 87, 88, 89, 90, 91, 92, 93, 94, 95, 96] (by decide +kernel) (by decide +kernel)
set_option maxRecDepth 20000 in
theorem gL_sum_X7_minute : GoodIn wsL_sum (wsV RL 106 RX7 yX7_minute wsX7_minute) := goodIn_app (goodIn_of _ (by decide +kernel)) ggL_sum_X7_minute
set_option maxRecDepth 20000 in
theorem ggL_sum_X7_humidity : GoodIn wsL_sum wsX7_humidity := goodIn_r _ [12, 7, 13, 83, 84, 85, 86, 87, 88, 89, 90, 91, 92, 93, 94, 95, 96] (by decide +kernel) (by decide +kernel)
set_option maxRecDepth 20000 in
theorem gL_sum_X7_humidity : GoodIn wsL_sum (wsV RL 109 RX7 yX7_humidity wsX7_humidity) := goodIn_app (goodIn_of _ (by decide +kernel)) ggL_sum_X7_humidity
set_option maxRecDepth 20000 in
theorem ggL_sum_X7_temperature : GoodIn wsL_sum wsX7_temperature := goodIn_r _ [17, 7, 18, 83, 84, 85, 86, 87, 88, 89, 90, 91, 92, 93, 94, 95, 96] (by decide +kernel) (by decide +kernel)
set_option maxRecDepth 20000 in
theorem gL_sum_X7_temperature : GoodIn wsL_sum (wsV RL 112 RX7 yX7_temperature wsX7_temperature) := goodIn_app (goodIn_of _ (by decide +kernel)) ggL_sum_X7_temperature
set_option maxRecDepth 20000 in
theorem ggL_sum_X7_skill : GoodIn wsL_sum wsX7_skill := goodIn_r _ [22, 7, 23, 83, 84, 85, 86, 87, 88, 89, 90, 91, 92, 93, 94, 95, 96] (by decide +kernel) (by decide +kernel)
set_option maxRecDepth 20000 in
theorem gL_sum_X7_skill : GoodIn wsL_sum (wsV RL 115 RX7 yX7_skill wsX7_skill) := goodIn_app (goodIn_of _ (by decide +kernel)) ggL_sum_X7_skill
set_option maxRecDepth 20000 in
theorem ggL_sum_X7_hairStock : GoodIn wsL_sum wsX7_hairStock := goodIn_r _ [27, 7, 28, 83, 84, 85, 86, 87, 88, 89, 90, 91, 92, 93, 94, 95, 96] (by decide +kernel) (by decide +kernel)
set_option maxRecDepth 20000 in
theorem gL_sum_X7_hairStock : GoodIn wsL_sum (wsV RL 118 RX7 yX7_hairStock wsX7_hairStock) := goodIn_app (goodIn_of _ (by decide +kernel)) ggL_sum_X7_hairStock
set_option maxRecDepth 20000 in
theorem ggL_sum_X7_instrumentCount : GoodIn wsL_sum wsX7_instrumentCount := goodIn_r _ [32, 7, 33, 83, 84, 85, 86, 87, 88, 89, 90, 91, 92, 93, 94, 95, 96] (by decide +kernel) (by decide +kernel)
set_option maxRecDepth 20000 in
theorem gL_sum_X7_instrumentCount : GoodIn wsL_sum (wsV RL 121 RX7 yX7_instrumentCount wsX7_instrumentCount) := goodIn_app (goodIn_of _ (by decide +kernel)) ggL_sum_X7_instrumentCount
set_option maxRecDepth 20000 in
theorem ggL_sum_X7_hairsOf : GoodIn wsL_sum wsX7_hairsOf := goodIn_ca (goodIn_r _ [37, 38, 39, 40, 41, 42, 5, 43, 44, 45, 7, 46, 47, 48, 49, 50, 51, 52, 97, 98, 99, 100, 101, 102, 103, 104, 105, 83, 84, 85, 86, 87, 88, 89, 90, 91, 92, 93, 94, 95, 96] (by decide +kernel) (by decide +kernel)) (goodIn_sub (fun _ h => List.mem_cons_of_mem _ (List.mem_append_right _ h)) (by decide +kernel))
set_option maxRecDepth 20000 in
theorem gL_sum_X7_hairsOf : GoodIn wsL_sum (wsV RL 124 RX7 yX7_hairsOf wsX7_hairsOf) := goodIn_app (goodIn_of _ (by decide +kernel)) ggL_sum_X7_hairsOf
set_option maxRecDepth 20000 in
theorem ggL_sum_X7_brokenOf : GoodIn wsL_sum wsX7_brokenOf := goodIn_ca (goodIn_r _ [56, 38, 57, 40, 41, 42, 5, 43, 44, 45, 7, 46, 47, 48, 49, 50, 51, 52, 97, 98, 99, 100, 101, 102, 103, 104, 105, 83, 84, 85, 86, 87, 88, 89, 90, 91, 92, 93, 94, 95, 96] (by decide +kernel) (by decide +kernel)) (goodIn_sub (fun _ h => List.mem_cons_of_mem _ (List.mem_append_right _ h)) (by decide +kernel))
set_option maxRecDepth 20000 in
theorem gL_sum_X7_brokenOf : GoodIn wsL_sum (wsV RL 127 RX7 yX7_brokenOf wsX7_brokenOf) := goodIn_app (goodIn_of _ (by decide +kernel)) ggL_sum_X7_brokenOf
