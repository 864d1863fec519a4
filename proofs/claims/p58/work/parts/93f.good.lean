set_option maxRecDepth 20000 in
theorem gh_L_comparisons : GoodIn wsL_law [.code yL_comparisons cL_comparisons 14 (some .boolean)] := goodIn_r _ [895] rfl (by decide +kernel)
set_option maxRecDepth 20000 in
theorem gs_wsL_comparisons_r1 : GoodIn wsL_law wsL_comparisons_r1 := goodIn_r _ [896, 836, 140, 837, 829, 143, 144, 830, 139, 141, 641, 642, 643, 2, 644, 13, 468, 809, 810, 811, 812, 651, 652, 653] (by decide +kernel) (by decide +kernel)
set_option maxRecDepth 20000 in
theorem gs_wsL_comparisons_r2 : GoodIn wsL_law wsL_comparisons_r2 := goodIn_r _ [654, 462, 463, 655, 540, 541, 12, 542, 87, 42, 802, 803, 804, 805, 806, 155, 807, 808, 759, 760, 761, 755, 756, 762] (by decide +kernel) (by decide +kernel)
set_option maxRecDepth 20000 in
theorem gs_wsL_comparisons_r3 : GoodIn wsL_law wsL_comparisons_r3 := goodIn_r _ [90, 763, 764, 765, 766, 757, 126, 127, 128, 129, 130, 89, 131, 132, 133, 145, 146, 875, 876, 877, 878, 879, 880, 881] (by decide +kernel) (by decide +kernel)
set_option maxRecDepth 20000 in
theorem gs_wsL_comparisons_r4 : GoodIn wsL_law wsL_comparisons_r4 := goodIn_r _ [32, 882, 102, 103, 112, 111, 883, 549, 550, 551, 46, 884, 885, 886, 887, 888, 889, 890, 891, 892, 622, 623, 624, 625] (by decide +kernel) (by decide +kernel)
set_option maxRecDepth 20000 in
theorem gs_wsL_comparisons_r5 : GoodIn wsL_law wsL_comparisons_r5 := goodIn_r _ [34, 792, 793, 794, 795, 649, 666, 667, 668, 669, 670, 681, 682, 683, 684, 36, 870, 871, 872, 873, 874, 752, 753, 754] (by decide +kernel) (by decide +kernel)
set_option maxRecDepth 20000 in
theorem gs_wsL_comparisons_r6 : GoodIn wsL_law wsL_comparisons_r6 := goodIn_r _ [822, 823, 824, 825, 731, 897, 898, 899, 900, 901, 902, 903, 904, 905, 906, 907, 908, 909, 910, 911, 912, 913, 914, 915] (by decide +kernel) (by decide +kernel)
set_option maxRecDepth 20000 in
theorem gs_wsL_comparisons_r7 : GoodIn wsL_law wsL_comparisons_r7 := goodIn_r _ [916, 917, 918, 919, 920, 921, 922, 923, 924, 925, 926, 927, 928, 929, 930, 931, 932, 933, 934, 935, 936, 937, 938, 939] (by decide +kernel) (by decide +kernel)
set_option maxRecDepth 20000 in
theorem gs_wsL_comparisons_r8 : GoodIn wsL_law wsL_comparisons_r8 := goodIn_r _ [940, 750, 751, 941, 942, 943, 944, 945, 946, 947, 948, 949, 950, 951, 952, 953, 954, 955, 956, 957, 958, 959, 960] (by decide +kernel) (by decide +kernel)
set_option maxRecDepth 20000 in
theorem gs_L_comparisons_wsX70 : GoodIn wsL_law wsX70 := goodIn_r _ [981, 982, 983, 984, 985, 986] (by decide +kernel) (by decide +kernel)
set_option maxRecDepth 20000 in
theorem gs_L_comparisons_wsX40 : GoodIn wsL_law wsX40 := goodIn_r _ [987, 988, 989, 990, 991, 992, 993, 994] (by decide +kernel) (by decide +kernel)
set_option maxRecDepth 20000 in
theorem gs_L_comparisons_wsX10 : GoodIn wsL_law wsX10 := goodIn_r _ [1006, 1007, 1008, 1009, 1010, 1011, 1012, 1013, 1014] (by decide +kernel) (by decide +kernel)
theorem gq_L_comparisons : GoodIn wsL_law (.code yL_comparisons cL_comparisons 14 (some .boolean) :: ((wsL_comparisons_r1 ++ (wsL_comparisons_r2 ++ (wsL_comparisons_r3 ++ (wsL_comparisons_r4 ++ (wsL_comparisons_r5 ++ (wsL_comparisons_r6 ++ (wsL_comparisons_r7 ++ wsL_comparisons_r8))))))) ++ wsX70 ++ wsX40 ++ wsX10)) := goodIn_cons gh_L_comparisons (goodIn_app (goodIn_app (goodIn_app (goodIn_app gs_wsL_comparisons_r1 (goodIn_app gs_wsL_comparisons_r2 (goodIn_app gs_wsL_comparisons_r3 (goodIn_app gs_wsL_comparisons_r4 (goodIn_app gs_wsL_comparisons_r5 (goodIn_app gs_wsL_comparisons_r6 (goodIn_app gs_wsL_comparisons_r7 gs_wsL_comparisons_r8))))))) gs_L_comparisons_wsX70) gs_L_comparisons_wsX40) gs_L_comparisons_wsX10)
set_option maxRecDepth 20000 in
theorem ggL_law_L_comparisons : GoodIn wsL_law wsL_comparisons := goodIn_ca (gq_L_comparisons) (goodIn_sub (fun _ h => List.mem_append_left _ (List.mem_append_right _ h)) (by decide +kernel))
