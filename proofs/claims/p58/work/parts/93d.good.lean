set_option maxRecDepth 20000 in
theorem gh_L_act : GoodIn wsL_law [.code yL_act cL_act 32 (some .boolean)] := goodIn_r _ [791] rfl (by decide +kernel)
set_option maxRecDepth 20000 in
theorem gs_wsL_act_r1 : GoodIn wsL_law wsL_act_r1 := goodIn_r _ [641, 642, 643, 2, 644, 13, 468, 156, 157, 158, 159, 160, 792, 793, 794, 795, 649, 651, 652, 653, 654, 462, 463, 655] (by decide +kernel) (by decide +kernel)
set_option maxRecDepth 20000 in
theorem gs_wsL_act_r2 : GoodIn wsL_law wsL_act_r2 := goodIn_r _ [540, 541, 12, 542, 87, 42, 681, 682, 683, 684, 36, 796, 797, 798, 799, 464, 465, 33, 605, 800, 588, 589, 32, 590] (by decide +kernel) (by decide +kernel)
set_option maxRecDepth 20000 in
theorem gs_wsL_act_r3 : GoodIn wsL_law wsL_act_r3 := goodIn_r _ [102, 103, 104, 110, 105, 111, 112, 113, 46, 731, 127, 128, 129, 130, 89, 131, 132, 133, 801, 135, 136, 137, 138, 139] (by decide +kernel) (by decide +kernel)
set_option maxRecDepth 20000 in
theorem gs_wsL_act_r4 : GoodIn wsL_law wsL_act_r4 := goodIn_r _ [140, 141, 142, 143, 144, 145, 146, 147, 148, 149, 150, 802, 803, 804, 805, 806, 155, 807, 808, 759, 760, 761, 755, 756] (by decide +kernel) (by decide +kernel)
set_option maxRecDepth 20000 in
theorem gs_wsL_act_r5 : GoodIn wsL_law wsL_act_r5 := goodIn_r _ [762, 90, 763, 764, 765, 766, 757, 126, 636, 637, 638, 639, 640, 685, 686, 687, 425, 688, 689, 690, 691, 692, 449, 450] (by decide +kernel) (by decide +kernel)
set_option maxRecDepth 20000 in
theorem gs_wsL_act_r6 : GoodIn wsL_law wsL_act_r6 := goodIn_r _ [21, 693, 694, 695, 20, 696, 68, 595, 596, 697, 698, 584, 585, 586, 88, 91, 92, 93, 587, 122, 123, 124, 125, 134] (by decide +kernel) (by decide +kernel)
set_option maxRecDepth 20000 in
theorem gs_wsL_act_r7 : GoodIn wsL_law wsL_act_r7 := goodIn_r _ [151, 152, 153, 154, 809, 810, 811, 812, 622, 623, 624, 625, 34, 699, 700, 701, 702, 703, 704, 705, 720, 721, 722, 424] (by decide +kernel) (by decide +kernel)
set_option maxRecDepth 20000 in
theorem gs_wsL_act_r8 : GoodIn wsL_law wsL_act_r8 := goodIn_r _ [723, 724, 725, 726, 727, 728, 729, 730, 549, 550, 551, 813, 814, 815, 816, 817, 713, 714, 715, 716, 717, 718, 719, 635] (by decide +kernel) (by decide +kernel)
set_option maxRecDepth 20000 in
theorem gs_wsL_act_r9 : GoodIn wsL_law wsL_act_r9 := goodIn_r _ [732, 733, 734, 735, 736, 737, 738, 676, 677, 678, 679, 680, 818, 819, 820, 821, 746, 747, 748, 749, 750, 751, 752, 753] (by decide +kernel) (by decide +kernel)
set_option maxRecDepth 20000 in
theorem gs_wsL_act_r10 : GoodIn wsL_law wsL_act_r10 := goodIn_r _ [754, 739, 740, 741, 742, 743, 744, 745, 758, 822, 823, 824, 825, 645, 646, 647, 648, 650, 666, 667, 668, 669, 670, 661] (by decide +kernel) (by decide +kernel)
set_option maxRecDepth 20000 in
theorem gs_wsL_act_r11 : GoodIn wsL_law wsL_act_r11 := goodIn_r _ [662, 663, 664, 665, 767, 768, 769, 770, 771, 772, 773, 774, 563, 564, 565, 671, 672, 673, 674, 675, 775, 776, 777, 778] (by decide +kernel) (by decide +kernel)
set_option maxRecDepth 20000 in
theorem gs_wsL_act_r12 : GoodIn wsL_law wsL_act_r12 := goodIn_r _ [779, 780, 781, 782, 783, 784, 785, 786, 787, 788, 626, 627, 628, 629, 630, 706, 707, 708, 709, 710, 711, 712] (by decide +kernel) (by decide +kernel)
set_option maxRecDepth 20000 in
theorem gs_L_act_wsX70 : GoodIn wsL_law wsX70 := goodIn_r _ [981, 982, 983, 984, 985, 986] (by decide +kernel) (by decide +kernel)
set_option maxRecDepth 20000 in
theorem gs_L_act_wsX40 : GoodIn wsL_law wsX40 := goodIn_r _ [987, 988, 989, 990, 991, 992, 993, 994] (by decide +kernel) (by decide +kernel)
set_option maxRecDepth 20000 in
theorem gs_L_act_wsX10 : GoodIn wsL_law wsX10 := goodIn_r _ [1006, 1007, 1008, 1009, 1010, 1011, 1012, 1013, 1014] (by decide +kernel) (by decide +kernel)
set_option maxRecDepth 20000 in
theorem gs_L_act_wsX00 : GoodIn wsL_law wsX00 := goodIn_r _ [999, 1000, 1001] (by decide +kernel) (by decide +kernel)
theorem gq_L_act : GoodIn wsL_law (.code yL_act cL_act 32 (some .boolean) :: ((wsL_act_r1 ++ (wsL_act_r2 ++ (wsL_act_r3 ++ (wsL_act_r4 ++ (wsL_act_r5 ++ (wsL_act_r6 ++ (wsL_act_r7 ++ (wsL_act_r8 ++ (wsL_act_r9 ++ (wsL_act_r10 ++ (wsL_act_r11 ++ wsL_act_r12))))))))))) ++ wsX70 ++ wsX40 ++ wsX10 ++ wsX00)) := goodIn_cons gh_L_act (goodIn_app (goodIn_app (goodIn_app (goodIn_app (goodIn_app gs_wsL_act_r1 (goodIn_app gs_wsL_act_r2 (goodIn_app gs_wsL_act_r3 (goodIn_app gs_wsL_act_r4 (goodIn_app gs_wsL_act_r5 (goodIn_app gs_wsL_act_r6 (goodIn_app gs_wsL_act_r7 (goodIn_app gs_wsL_act_r8 (goodIn_app gs_wsL_act_r9 (goodIn_app gs_wsL_act_r10 (goodIn_app gs_wsL_act_r11 gs_wsL_act_r12))))))))))) gs_L_act_wsX70) gs_L_act_wsX40) gs_L_act_wsX10) gs_L_act_wsX00)
set_option maxRecDepth 20000 in
theorem ggL_law_L_act : GoodIn wsL_law wsL_act := goodIn_ca (goodIn_ca (goodIn_ca (gq_L_act) (goodIn_sub (fun _ h => List.mem_append_left _ (List.mem_append_right _ h)) (by decide +kernel))) (goodIn_sub (fun _ h => List.mem_append_right _ h) (by decide +kernel))) (goodIn_sub (fun _ h => List.mem_append_left _ (List.mem_append_left _ (List.mem_append_right _ h))) (by decide +kernel))
