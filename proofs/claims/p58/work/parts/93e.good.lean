set_option maxRecDepth 20000 in
theorem gh_L_instruments : GoodIn wsL_law [.code yL_instruments cL_instruments 14 (some .boolean)] := goodIn_r _ [828] rfl (by decide +kernel)
set_option maxRecDepth 20000 in
theorem gs_wsL_instruments_r1 : GoodIn wsL_law wsL_instruments_r1 := goodIn_r _ [829, 143, 140, 144, 830, 139, 141, 831, 832, 833, 2, 834, 13, 835, 836, 837, 838, 839, 840, 12, 841, 92, 87, 42] (by decide +kernel) (by decide +kernel)
set_option maxRecDepth 20000 in
theorem gs_wsL_instruments_r2 : GoodIn wsL_law wsL_instruments_r2 := goodIn_r _ [842, 843, 844, 845, 846, 847, 93, 848, 641, 642, 643, 644, 468, 792, 793, 794, 795, 649, 651, 652, 653, 654, 462, 463] (by decide +kernel) (by decide +kernel)
set_option maxRecDepth 20000 in
theorem gs_wsL_instruments_r3 : GoodIn wsL_law wsL_instruments_r3 := goodIn_r _ [655, 540, 541, 542, 681, 682, 683, 684, 36, 622, 623, 624, 625, 34, 813, 814, 815, 816, 464, 465, 727, 728, 729, 133] (by decide +kernel) (by decide +kernel)
set_option maxRecDepth 20000 in
theorem gs_wsL_instruments_r4 : GoodIn wsL_law wsL_instruments_r4 := goodIn_r _ [817, 131, 132, 626, 627, 628, 629, 630, 671, 672, 673, 674, 675, 661, 662, 663, 664, 665, 666, 667, 668, 669, 670, 676] (by decide +kernel) (by decide +kernel)
set_option maxRecDepth 20000 in
theorem gs_wsL_instruments_r5 : GoodIn wsL_law wsL_instruments_r5 := goodIn_r _ [677, 678, 679, 680, 645, 646, 647, 648, 650, 849, 850, 851, 852, 33, 605, 800, 588, 589, 32, 590, 102, 103, 104, 110] (by decide +kernel) (by decide +kernel)
set_option maxRecDepth 20000 in
theorem gs_wsL_instruments_r6 : GoodIn wsL_law wsL_instruments_r6 := goodIn_r _ [105, 111, 112, 113, 46, 853, 854, 855, 856, 755, 751, 752, 753, 754, 756, 757, 126, 127, 128, 129, 130, 89, 731, 801] (by decide +kernel) (by decide +kernel)
set_option maxRecDepth 20000 in
theorem gs_wsL_instruments_r7 : GoodIn wsL_law wsL_instruments_r7 := goodIn_r _ [135, 136, 137, 138, 142, 145, 146, 147, 148, 149, 150, 857, 858, 859, 860, 861, 862, 863, 864, 865, 764, 765, 766, 90] (by decide +kernel) (by decide +kernel)
set_option maxRecDepth 20000 in
theorem gs_wsL_instruments_r8 : GoodIn wsL_law wsL_instruments_r8 := goodIn_r _ [866, 867, 868, 869, 758, 759, 760, 761, 762, 763, 809, 810, 811, 812, 802, 803, 804, 805, 806, 155, 807, 808, 822, 823] (by decide +kernel) (by decide +kernel)
set_option maxRecDepth 20000 in
theorem gs_wsL_instruments_r9 : GoodIn wsL_law wsL_instruments_r9 := goodIn_r _ [824, 825, 870, 871, 872, 873, 874, 875, 876, 877, 878, 879, 880, 881, 882, 883, 549, 550, 551, 884, 885, 886, 887, 888] (by decide +kernel) (by decide +kernel)
set_option maxRecDepth 20000 in
theorem gs_wsL_instruments_r10 : GoodIn wsL_law wsL_instruments_r10 := goodIn_r _ [889, 890, 891, 892, 818, 819, 820, 821, 746, 747, 748, 749, 750, 796, 797, 798, 799] (by decide +kernel) (by decide +kernel)
set_option maxRecDepth 20000 in
theorem gs_L_instruments_wsX70 : GoodIn wsL_law wsX70 := goodIn_r _ [981, 982, 983, 984, 985, 986] (by decide +kernel) (by decide +kernel)
set_option maxRecDepth 20000 in
theorem gs_L_instruments_wsX40 : GoodIn wsL_law wsX40 := goodIn_r _ [987, 988, 989, 990, 991, 992, 993, 994] (by decide +kernel) (by decide +kernel)
set_option maxRecDepth 20000 in
theorem gs_L_instruments_wsX10 : GoodIn wsL_law wsX10 := goodIn_r _ [1006, 1007, 1008, 1009, 1010, 1011, 1012, 1013, 1014] (by decide +kernel) (by decide +kernel)
theorem gq_L_instruments : GoodIn wsL_law (.code yL_instruments cL_instruments 14 (some .boolean) :: ((wsL_instruments_r1 ++ (wsL_instruments_r2 ++ (wsL_instruments_r3 ++ (wsL_instruments_r4 ++ (wsL_instruments_r5 ++ (wsL_instruments_r6 ++ (wsL_instruments_r7 ++ (wsL_instruments_r8 ++ (wsL_instruments_r9 ++ wsL_instruments_r10))))))))) ++ wsX70 ++ wsX40 ++ wsX10)) := goodIn_cons gh_L_instruments (goodIn_app (goodIn_app (goodIn_app (goodIn_app gs_wsL_instruments_r1 (goodIn_app gs_wsL_instruments_r2 (goodIn_app gs_wsL_instruments_r3 (goodIn_app gs_wsL_instruments_r4 (goodIn_app gs_wsL_instruments_r5 (goodIn_app gs_wsL_instruments_r6 (goodIn_app gs_wsL_instruments_r7 (goodIn_app gs_wsL_instruments_r8 (goodIn_app gs_wsL_instruments_r9 gs_wsL_instruments_r10))))))))) gs_L_instruments_wsX70) gs_L_instruments_wsX40) gs_L_instruments_wsX10)
set_option maxRecDepth 20000 in
theorem ggL_law_L_instruments : GoodIn wsL_law wsL_instruments := goodIn_ca (goodIn_ca (gq_L_instruments) (goodIn_sub (fun _ h => List.mem_append_left _ (List.mem_append_right _ h)) (by decide +kernel))) (goodIn_sub (fun _ h => List.mem_append_right _ h) (by decide +kernel))
