set_option maxRecDepth 20000 in
theorem gh_L_load : GoodIn wsL_law [.codeWith yL_load cL_load 4 (some .int) [(6, 11, 12, 34), (6, 11, 16, 36)]] := goodIn_r _ [423] rfl (by decide +kernel)
set_option maxRecDepth 20000 in
theorem gs_wsL_load_r1 : GoodIn wsL_law wsL_load_r1 := goodIn_r _ [424, 425, 426, 427, 158, 428, 3, 429, 180, 181, 182, 183, 184, 185, 186, 187, 188, 189, 190, 430, 431, 432, 433, 434] (by decide +kernel) (by decide +kernel)
set_option maxRecDepth 20000 in
theorem gs_wsL_load_r2 : GoodIn wsL_law wsL_load_r2 := goodIn_r _ [435, 436, 437, 438, 439, 300, 440, 441, 363, 364, 273, 365, 366, 276, 367, 442, 443, 194, 444, 359, 360, 361, 267, 268] (by decide +kernel) (by decide +kernel)
set_option maxRecDepth 20000 in
theorem gs_wsL_load_r3 : GoodIn wsL_law wsL_load_r3 := goodIn_r _ [269, 362, 414, 415, 416, 263, 281, 282, 445, 446, 447, 2, 448, 449, 450, 17, 451, 452, 453, 454, 455, 52, 456, 457] (by decide +kernel) (by decide +kernel)
set_option maxRecDepth 20000 in
theorem gs_wsL_load_r4 : GoodIn wsL_law wsL_load_r4 := goodIn_r _ [61, 458, 459, 460, 461, 462, 463, 464, 465, 466, 13, 467, 21, 25, 468, 469, 470, 471, 16, 472, 473, 56, 53, 474] (by decide +kernel) (by decide +kernel)
set_option maxRecDepth 20000 in
theorem gs_wsL_load_r5 : GoodIn wsL_law wsL_load_r5 := goodIn_r _ [475, 476, 477, 478, 479, 480, 143, 140, 144, 481, 482, 483, 484, 485, 486, 487, 488, 55, 489, 490, 491, 492, 493, 494] (by decide +kernel) (by decide +kernel)
set_option maxRecDepth 20000 in
theorem gs_wsL_load_r6 : GoodIn wsL_law wsL_load_r6 := goodIn_r _ [495, 496, 497, 498, 499, 500, 501, 502, 503, 504, 505, 506, 507, 508, 509, 510, 511, 512, 513, 514, 515, 516, 517, 518] (by decide +kernel) (by decide +kernel)
set_option maxRecDepth 20000 in
theorem gs_wsL_load_r7 : GoodIn wsL_law wsL_load_r7 := goodIn_r _ [519, 84, 85, 12, 86, 87, 88, 89, 90, 91, 92, 93, 520, 521, 522, 523, 524, 525, 526, 527, 528, 529, 95, 96] (by decide +kernel) (by decide +kernel)
set_option maxRecDepth 20000 in
theorem gs_wsL_load_r8 : GoodIn wsL_law wsL_load_r8 := goodIn_r _ [97, 42, 98, 99, 100, 32, 101, 102, 103, 104, 105, 106, 107, 108, 109, 110, 111, 112, 113, 46, 530, 531, 532, 533] (by decide +kernel) (by decide +kernel)
set_option maxRecDepth 20000 in
theorem gs_wsL_load_r9 : GoodIn wsL_law wsL_load_r9 := goodIn_r _ [534, 115, 116, 117, 118, 119, 120, 121, 535, 536, 537, 538, 539, 540, 541, 542, 543, 544, 545, 546, 547, 548, 549, 550] (by decide +kernel) (by decide +kernel)
set_option maxRecDepth 20000 in
theorem gs_wsL_load_r10 : GoodIn wsL_law wsL_load_r10 := goodIn_r _ [551, 552, 553, 554, 555, 556, 557, 558, 559, 560, 561, 562, 563, 564, 565, 566, 567, 568, 569, 570, 571, 572, 573, 574] (by decide +kernel) (by decide +kernel)
set_option maxRecDepth 20000 in
theorem gs_wsL_load_r11 : GoodIn wsL_law wsL_load_r11 := goodIn_r _ [575, 576, 577, 578, 579, 580, 581, 582, 123, 124, 125, 126, 127, 128, 129, 130, 131, 132, 133, 134, 135, 136, 137, 138] (by decide +kernel) (by decide +kernel)
set_option maxRecDepth 20000 in
theorem gs_wsL_load_r12 : GoodIn wsL_law wsL_load_r12 := goodIn_r _ [139, 141, 142, 145, 146, 147, 148, 149, 150, 151, 152, 153, 154, 155, 583, 584, 585, 586, 587, 588, 589, 590, 591, 592] (by decide +kernel) (by decide +kernel)
set_option maxRecDepth 20000 in
theorem gs_wsL_load_r13 : GoodIn wsL_law wsL_load_r13 := goodIn_r _ [593, 20, 594, 595, 596, 597, 598, 599, 24, 600, 77] (by decide +kernel) (by decide +kernel)
set_option maxRecDepth 20000 in
theorem gs_L_load_wsJ00 : GoodIn wsL_law wsJ00 := goodIn_r _ [1025, 1026, 1027, 1028] (by decide +kernel) (by decide +kernel)
set_option maxRecDepth 20000 in
theorem gs_L_load_wsX70 : GoodIn wsL_law wsX70 := goodIn_r _ [981, 982, 983, 984, 985, 986] (by decide +kernel) (by decide +kernel)
set_option maxRecDepth 20000 in
theorem gs_L_load_wsX30 : GoodIn wsL_law wsX30 := goodIn_r _ [995, 996, 997, 998] (by decide +kernel) (by decide +kernel)
set_option maxRecDepth 20000 in
theorem gs_L_load_wsX60 : GoodIn wsL_law wsX60 := goodIn_r _ [1015, 1016, 1017, 1018, 1019, 1020] (by decide +kernel) (by decide +kernel)
set_option maxRecDepth 20000 in
theorem gs_L_load_wsX40 : GoodIn wsL_law wsX40 := goodIn_r _ [987, 988, 989, 990, 991, 992, 993, 994] (by decide +kernel) (by decide +kernel)
set_option maxRecDepth 20000 in
theorem gs_L_load_wsX10 : GoodIn wsL_law wsX10 := goodIn_r _ [1006, 1007, 1008, 1009, 1010, 1011, 1012, 1013, 1014] (by decide +kernel) (by decide +kernel)
set_option maxRecDepth 20000 in
theorem gs_L_load_wsX00 : GoodIn wsL_law wsX00 := goodIn_r _ [999, 1000, 1001] (by decide +kernel) (by decide +kernel)
set_option maxRecDepth 20000 in
theorem gs_L_load_wsX50 : GoodIn wsL_law wsX50 := goodIn_r _ [1002, 1003] (by decide +kernel) (by decide +kernel)
theorem gq_L_load : GoodIn wsL_law (.codeWith yL_load cL_load 4 (some .int) [(6, 11, 12, 34), (6, 11, 16, 36)] :: ((wsL_load_r1 ++ (wsL_load_r2 ++ (wsL_load_r3 ++ (wsL_load_r4 ++ (wsL_load_r5 ++ (wsL_load_r6 ++ (wsL_load_r7 ++ (wsL_load_r8 ++ (wsL_load_r9 ++ (wsL_load_r10 ++ (wsL_load_r11 ++ (wsL_load_r12 ++ wsL_load_r13)))))))))))) ++ wsJ00 ++ wsX70 ++ wsX30 ++ wsX60 ++ wsX40 ++ wsX10 ++ wsX00 ++ wsX50)) := goodIn_cons gh_L_load (goodIn_app (goodIn_app (goodIn_app (goodIn_app (goodIn_app (goodIn_app (goodIn_app (goodIn_app (goodIn_app gs_wsL_load_r1 (goodIn_app gs_wsL_load_r2 (goodIn_app gs_wsL_load_r3 (goodIn_app gs_wsL_load_r4 (goodIn_app gs_wsL_load_r5 (goodIn_app gs_wsL_load_r6 (goodIn_app gs_wsL_load_r7 (goodIn_app gs_wsL_load_r8 (goodIn_app gs_wsL_load_r9 (goodIn_app gs_wsL_load_r10 (goodIn_app gs_wsL_load_r11 (goodIn_app gs_wsL_load_r12 gs_wsL_load_r13)))))))))))) gs_L_load_wsJ00) gs_L_load_wsX70) gs_L_load_wsX30) gs_L_load_wsX60) gs_L_load_wsX40) gs_L_load_wsX10) gs_L_load_wsX00) gs_L_load_wsX50)
set_option maxRecDepth 20000 in
theorem ggL_law_L_load : GoodIn wsL_law wsL_load := goodIn_ca (goodIn_ca (goodIn_ca (gq_L_load) (goodIn_sub (fun _ h => List.mem_append_left _ (List.mem_append_left _ (List.mem_append_right _ h))) (by decide +kernel))) (goodIn_sub (fun _ h => List.mem_append_left _ (List.mem_append_right _ h)) (by decide +kernel))) (goodIn_sub (fun _ h => List.mem_append_right _ h) (by decide +kernel))
