theorem goodIn_cons {big a : List Cond} {c : Cond} (hc : GoodIn big [c]) (ha : GoodIn big a) : GoodIn big (c :: a) := fun w h => (List.mem_cons.mp h).elim (fun e => hc w (List.mem_singleton.mpr e)) (ha w)
set_option maxRecDepth 20000 in
theorem gh_X7_init : GoodIn wsL_law [.code yX7_init cX7_init 1 none] := goodIn_r _ [6] rfl (by decide +kernel)
set_option maxRecDepth 20000 in
theorem gs_wsX7_init_r1 : GoodIn wsL_law wsX7_init_r1 := goodIn_r _ [7, 8, 9, 10, 11, 12, 13, 14, 15, 16, 17, 18, 19, 20, 21, 22, 23, 24, 25, 26, 27, 28, 29, 30] (by decide +kernel) (by decide +kernel)
set_option maxRecDepth 20000 in
theorem gs_wsX7_init_r2 : GoodIn wsL_law wsX7_init_r2 := goodIn_r _ [31, 32, 33, 34, 35, 36, 37, 38, 39, 40, 41, 42, 43, 44, 45, 46, 47, 48, 49, 50, 51, 52, 53, 54] (by decide +kernel) (by decide +kernel)
set_option maxRecDepth 20000 in
theorem gs_wsX7_init_r3 : GoodIn wsL_law wsX7_init_r3 := goodIn_r _ [55, 56, 57, 58, 59, 60, 61, 62, 63, 64, 65, 66, 67, 68, 69, 70, 71, 72, 73, 74, 75, 76, 77, 78] (by decide +kernel) (by decide +kernel)
set_option maxRecDepth 20000 in
theorem gs_wsX7_init_r4 : GoodIn wsL_law wsX7_init_r4 := goodIn_r _ [79, 80, 81, 82, 83, 84, 85, 86, 87, 88, 89, 90, 91, 92, 93, 94, 95, 96, 97, 98, 99, 100, 101, 102] (by decide +kernel) (by decide +kernel)
set_option maxRecDepth 20000 in
theorem gs_wsX7_init_r5 : GoodIn wsL_law wsX7_init_r5 := goodIn_r _ [103, 104, 105, 106, 107, 108, 109, 110, 111, 112, 113, 114, 115, 116, 117, 118, 119, 120, 121, 122, 123, 124, 125, 126] (by decide +kernel) (by decide +kernel)
set_option maxRecDepth 20000 in
theorem gs_wsX7_init_r6 : GoodIn wsL_law wsX7_init_r6 := goodIn_r _ [127, 128, 129, 130, 131, 2, 132, 133, 134, 135, 136, 137, 138, 139, 140, 141, 142, 143, 144, 145, 146, 147, 148, 149] (by decide +kernel) (by decide +kernel)
set_option maxRecDepth 20000 in
theorem gs_wsX7_init_r7 : GoodIn wsL_law wsX7_init_r7 := goodIn_r _ [150, 151, 152, 153, 154, 155] (by decide +kernel) (by decide +kernel)
set_option maxRecDepth 20000 in
theorem gs_X7_init_wsX40 : GoodIn wsL_law wsX40 := goodIn_r _ [987, 988, 989, 990, 991, 992, 993, 994] (by decide +kernel) (by decide +kernel)
set_option maxRecDepth 20000 in
theorem gs_X7_init_wsX70 : GoodIn wsL_law wsX70 := goodIn_r _ [981, 982, 983, 984, 985, 986] (by decide +kernel) (by decide +kernel)
set_option maxRecDepth 20000 in
theorem gs_X7_init_wsX30 : GoodIn wsL_law wsX30 := goodIn_r _ [995, 996, 997, 998] (by decide +kernel) (by decide +kernel)
set_option maxRecDepth 20000 in
theorem gs_X7_init_wsX00 : GoodIn wsL_law wsX00 := goodIn_r _ [999, 1000, 1001] (by decide +kernel) (by decide +kernel)
set_option maxRecDepth 20000 in
theorem gs_X7_init_wsX50 : GoodIn wsL_law wsX50 := goodIn_r _ [1002, 1003] (by decide +kernel) (by decide +kernel)
set_option maxRecDepth 20000 in
theorem gs_X7_init_wsX20 : GoodIn wsL_law wsX20 := goodIn_r _ [1004, 1005] (by decide +kernel) (by decide +kernel)
set_option maxRecDepth 20000 in
theorem gs_X7_init_wsX10 : GoodIn wsL_law wsX10 := goodIn_r _ [1006, 1007, 1008, 1009, 1010, 1011, 1012, 1013, 1014] (by decide +kernel) (by decide +kernel)
set_option maxRecDepth 20000 in
theorem gs_X7_init_wsX60 : GoodIn wsL_law wsX60 := goodIn_r _ [1015, 1016, 1017, 1018, 1019, 1020] (by decide +kernel) (by decide +kernel)
theorem gq_X7_init : GoodIn wsL_law (.code yX7_init cX7_init 1 none :: ((wsX7_init_r1 ++ (wsX7_init_r2 ++ (wsX7_init_r3 ++ (wsX7_init_r4 ++ (wsX7_init_r5 ++ (wsX7_init_r6 ++ wsX7_init_r7)))))) ++ wsX40 ++ wsX70 ++ wsX30 ++ wsX00 ++ wsX50 ++ wsX20 ++ wsX10 ++ wsX60)) := goodIn_cons gh_X7_init (goodIn_app (goodIn_app (goodIn_app (goodIn_app (goodIn_app (goodIn_app (goodIn_app (goodIn_app (goodIn_app gs_wsX7_init_r1 (goodIn_app gs_wsX7_init_r2 (goodIn_app gs_wsX7_init_r3 (goodIn_app gs_wsX7_init_r4 (goodIn_app gs_wsX7_init_r5 (goodIn_app gs_wsX7_init_r6 gs_wsX7_init_r7)))))) gs_X7_init_wsX40) gs_X7_init_wsX70) gs_X7_init_wsX30) gs_X7_init_wsX00) gs_X7_init_wsX50) gs_X7_init_wsX20) gs_X7_init_wsX10) gs_X7_init_wsX60)
set_option maxRecDepth 20000 in
theorem ggL_law_X7_init : GoodIn wsL_law wsX7_init := gq_X7_init
