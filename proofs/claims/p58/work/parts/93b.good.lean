set_option maxRecDepth 20000 in
theorem gh_L_room : GoodIn wsL_law [.code yL_room cL_room 4 (some (.object "java/lang/String"))] := goodIn_r _ [163] rfl (by decide +kernel)
set_option maxRecDepth 20000 in
theorem gs_wsL_room_r1 : GoodIn wsL_law wsL_room_r1 := goodIn_r _ [164, 165, 166, 167, 168, 169, 170, 171, 172, 173, 174, 8, 9, 175, 176, 177, 60, 178, 179, 180, 181, 182, 183, 184] (by decide +kernel) (by decide +kernel)
set_option maxRecDepth 20000 in
theorem gs_wsL_room_r2 : GoodIn wsL_law wsL_room_r2 := goodIn_r _ [185, 186, 187, 188, 189, 190, 191, 192, 193, 194, 195, 196, 197, 198, 199, 200, 201, 202, 203, 204, 205, 206, 207, 208] (by decide +kernel) (by decide +kernel)
set_option maxRecDepth 20000 in
theorem gs_wsL_room_r3 : GoodIn wsL_law wsL_room_r3 := goodIn_r _ [209, 210, 211, 212, 213, 214, 215, 216, 217, 218, 219, 220, 221, 222, 223, 224, 225, 226, 227, 228, 229, 230, 231, 232] (by decide +kernel) (by decide +kernel)
set_option maxRecDepth 20000 in
theorem gs_wsL_room_r4 : GoodIn wsL_law wsL_room_r4 := goodIn_r _ [233, 234, 139, 140, 141, 235, 236, 237, 238, 239, 240, 241, 242, 243, 244, 245, 246, 247, 248, 249, 143, 144, 250, 251] (by decide +kernel) (by decide +kernel)
set_option maxRecDepth 20000 in
theorem gs_wsL_room_r5 : GoodIn wsL_law wsL_room_r5 := goodIn_r _ [252, 253, 254, 255, 256, 257, 258, 259, 260, 261, 262, 263, 264, 265, 266, 267, 268, 269, 270, 271, 272, 273, 274, 275] (by decide +kernel) (by decide +kernel)
set_option maxRecDepth 20000 in
theorem gs_wsL_room_r6 : GoodIn wsL_law wsL_room_r6 := goodIn_r _ [276, 277, 278, 279, 280, 281, 282, 283, 284, 285, 286, 287, 288, 289, 290, 291, 292, 293, 294, 295, 296, 297, 298, 299] (by decide +kernel) (by decide +kernel)
set_option maxRecDepth 20000 in
theorem gs_wsL_room_r7 : GoodIn wsL_law wsL_room_r7 := goodIn_r _ [300, 301, 302, 303, 304, 305, 306, 307, 308, 309, 310, 311, 312, 313, 314, 315, 316, 317, 318, 319, 156, 157, 158, 159] (by decide +kernel) (by decide +kernel)
set_option maxRecDepth 20000 in
theorem gs_wsL_room_r8 : GoodIn wsL_law wsL_room_r8 := goodIn_r _ [160, 320, 321, 322, 323, 324, 325, 326, 327, 328, 329, 330, 331, 332, 333, 334, 335, 336, 337, 338, 339, 340, 341, 342] (by decide +kernel) (by decide +kernel)
set_option maxRecDepth 20000 in
theorem gs_wsL_room_r9 : GoodIn wsL_law wsL_room_r9 := goodIn_r _ [343, 344, 345, 346, 347, 348, 349, 350, 351, 352, 353, 354, 355, 356, 357, 358, 359, 360, 361, 362, 363, 364, 365, 366] (by decide +kernel) (by decide +kernel)
set_option maxRecDepth 20000 in
theorem gs_wsL_room_r10 : GoodIn wsL_law wsL_room_r10 := goodIn_r _ [367, 368, 369, 370, 371, 372, 373, 374, 375, 376, 377, 378, 379, 380, 381, 382, 383, 384, 385, 386, 387, 388, 389, 390] (by decide +kernel) (by decide +kernel)
set_option maxRecDepth 20000 in
theorem gs_wsL_room_r11 : GoodIn wsL_law wsL_room_r11 := goodIn_r _ [391, 392, 393, 394, 395, 396, 397, 398, 399, 400, 401, 402, 403, 404, 405, 406, 407, 408, 409, 410, 411, 412, 413, 414] (by decide +kernel) (by decide +kernel)
set_option maxRecDepth 20000 in
theorem gs_wsL_room_r12 : GoodIn wsL_law wsL_room_r12 := goodIn_r _ [415, 416, 417, 418, 419, 420] (by decide +kernel) (by decide +kernel)
set_option maxRecDepth 20000 in
theorem gs_L_room_wsJ40 : GoodIn wsL_law wsJ40 := goodIn_r _ [1021, 1022, 1023, 1024] (by decide +kernel) (by decide +kernel)
set_option maxRecDepth 20000 in
theorem gs_L_room_wsJ00 : GoodIn wsL_law wsJ00 := goodIn_r _ [1025, 1026, 1027, 1028] (by decide +kernel) (by decide +kernel)
theorem gq_L_room : GoodIn wsL_law (.code yL_room cL_room 4 (some (.object "java/lang/String")) :: ((wsL_room_r1 ++ (wsL_room_r2 ++ (wsL_room_r3 ++ (wsL_room_r4 ++ (wsL_room_r5 ++ (wsL_room_r6 ++ (wsL_room_r7 ++ (wsL_room_r8 ++ (wsL_room_r9 ++ (wsL_room_r10 ++ (wsL_room_r11 ++ wsL_room_r12))))))))))) ++ wsJ40 ++ wsJ00)) := goodIn_cons gh_L_room (goodIn_app (goodIn_app (goodIn_app gs_wsL_room_r1 (goodIn_app gs_wsL_room_r2 (goodIn_app gs_wsL_room_r3 (goodIn_app gs_wsL_room_r4 (goodIn_app gs_wsL_room_r5 (goodIn_app gs_wsL_room_r6 (goodIn_app gs_wsL_room_r7 (goodIn_app gs_wsL_room_r8 (goodIn_app gs_wsL_room_r9 (goodIn_app gs_wsL_room_r10 (goodIn_app gs_wsL_room_r11 gs_wsL_room_r12))))))))))) gs_L_room_wsJ40) gs_L_room_wsJ00)
set_option maxRecDepth 20000 in
theorem ggL_law_L_room : GoodIn wsL_law wsL_room := gq_L_room
