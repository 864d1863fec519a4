set_option maxRecDepth 20000 in
theorem ggL_law_X8_boxOf : GoodIn wsL_law wsX8_boxOf := goodIn_r _ [797, 166, 679, 680, 681, 5, 682, 468, 469, 470, 247, 248, 249, 250, 251, 181, 182, 183, 256, 257, 258, 259, 1344, 1345, 1346, 1347, 1348, 1349, 1350, 1351, 1352, 1353, 1354, 1355, 1356, 1357, 1358, 1359, 1360, 1361, 1362, 1363, 1364, 1365] (by decide +kernel) (by decide +kernel)
set_option maxRecDepth 20000 in
theorem gL_law_X8_boxOf : GoodIn wsL_law (wsV RL 209 RX8 yX8_boxOf wsX8_boxOf) := goodIn_app (goodIn_of _ (by decide +kernel)) ggL_law_X8_boxOf
set_option maxRecDepth 20000 in
theorem ggL_law_L_surroundingOf : GoodIn wsL_law wsL_surroundingOf := goodIn_ca (goodIn_r _ [800, 267, 801, 802, 803, 2, 804, 16, 670, 671, 672, 673, 273, 274, 674, 398, 399, 15, 400, 90, 45, 805, 130, 131, 132, 133, 92, 134, 135, 136, 1338, 1339, 1340, 1341, 1342, 1343, 1366, 1367, 1368, 1369, 1370, 1371, 1372, 1373, 1385, 1386, 1387, 1388, 1389, 1390, 1391, 1392, 1393] (by decide +kernel) (by decide +kernel)) (goodIn_sub (fun _ h => List.mem_append_left _ (List.mem_append_right _ h)) (by decide +kernel))
set_option maxRecDepth 20000 in
theorem gL_law_L_surroundingOf : GoodIn wsL_law (va_wsS RL 210 yL_surroundingOf wsL_surroundingOf) := goodIn_app (goodIn_of _ (by decide +kernel)) ggL_law_L_surroundingOf
set_option maxRecDepth 20000 in
theorem ggL_law_X8_surroundingOf : GoodIn wsL_law wsX8_surroundingOf := goodIn_r _ [809, 679, 680, 681, 5, 682, 166, 468, 469, 470, 247, 248, 249, 250, 251, 208, 209, 210, 211, 164, 212, 213, 214, 215, 181, 182, 183, 256, 257, 258, 259, 1344, 1345, 1346, 1347, 1348, 1349, 1350, 1351, 1352, 1353, 1354, 1355, 1356, 1357, 1358, 1359, 1360, 1361, 1362, 1363, 1364, 1365] (by decide +kernel) (by decide +kernel)
set_option maxRecDepth 20000 in
theorem gL_law_X8_surroundingOf : GoodIn wsL_law (wsV RL 212 RX8 yX8_surroundingOf wsX8_surroundingOf) := goodIn_app (goodIn_of _ (by decide +kernel)) ggL_law_X8_surroundingOf
set_option maxRecDepth 20000 in
theorem ggL_law_L_rawValue : GoodIn wsL_law wsL_rawValue := goodIn_ca (goodIn_r _ [812, 267, 813, 814, 815, 2, 816, 16, 670, 671, 672, 673, 273, 274, 674, 398, 399, 15, 400, 90, 45, 817, 818, 819, 820, 821, 822, 823, 93, 824, 763, 764, 765, 766, 129, 130, 131, 132, 133, 92, 134, 135, 136, 148, 149, 1338, 1339, 1340, 1341, 1342, 1343, 1366, 1367, 1368, 1369, 1370, 1371, 1372, 1373, 1385, 1386, 1387, 1388, 1389, 1390, 1391, 1392, 1393] (by decide +kernel) (by decide +kernel)) (goodIn_sub (fun _ h => List.mem_append_left _ (List.mem_append_right _ h)) (by decide +kernel))
set_option maxRecDepth 20000 in
theorem gL_law_L_rawValue : GoodIn wsL_law (va_wsS RL 213 yL_rawValue wsL_rawValue) := goodIn_app (goodIn_of _ (by decide +kernel)) ggL_law_L_rawValue
set_option maxRecDepth 20000 in
theorem ggL_law_X8_rawValue : GoodIn wsL_law wsX8_rawValue := goodIn_r _ [828, 679, 680, 681, 5, 682, 166, 468, 469, 470, 247, 248, 249, 250, 251, 829, 830, 831, 832, 200, 201, 202, 203, 181, 182, 183, 771, 772, 773, 774, 208, 209, 210, 211, 164, 212, 213, 214, 215, 256, 257, 258, 259, 1344, 1345, 1346, 1347, 1348, 1349, 1350, 1351, 1352, 1353, 1354, 1355, 1356, 1357, 1358, 1359, 1360, 1361, 1362, 1363, 1364, 1365] (by decide +kernel) (by decide +kernel)
set_option maxRecDepth 20000 in
theorem gL_law_X8_rawValue : GoodIn wsL_law (wsV RL 215 RX8 yX8_rawValue wsX8_rawValue) := goodIn_app (goodIn_of _ (by decide +kernel)) ggL_law_X8_rawValue
set_option maxRecDepth 20000 in
theorem ggL_law_L_readingOf : GoodIn wsL_law wsL_readingOf := goodIn_ca (goodIn_r _ [835, 267, 836, 837, 838, 2, 839, 16, 670, 671, 672, 673, 273, 274, 674, 398, 399, 15, 400, 90, 45, 840, 841, 842, 843, 844, 158, 146, 143, 147, 845, 142, 144, 846, 818, 819, 820, 821, 822, 823, 93, 824, 763, 764, 765, 766, 129, 130, 131, 132, 133, 92, 134, 135, 136, 148, 149, 1338, 1339, 1340, 1341, 1342, 1343, 1366, 1367, 1368, 1369, 1370, 1371, 1372, 1373, 1385, 1386, 1387, 1388, 1389, 1390, 1391, 1392, 1393] (by decide +kernel) (by decide +kernel)) (goodIn_sub (fun _ h => List.mem_append_left _ (List.mem_append_right _ h)) (by decide +kernel))
set_option maxRecDepth 20000 in
theorem gL_law_L_readingOf : GoodIn wsL_law (va_wsS RL 216 yL_readingOf wsL_readingOf) := goodIn_app (goodIn_of _ (by decide +kernel)) ggL_law_L_readingOf
set_option maxRecDepth 20000 in
theorem ggL_law_X8_readingOf : GoodIn wsL_law wsX8_readingOf := goodIn_r _ [850, 679, 680, 681, 5, 682, 166, 468, 469, 470, 247, 248, 249, 250, 251, 851, 852, 853, 854, 829, 830, 831, 832, 200, 201, 202, 203, 181, 182, 183, 771, 772, 773, 774, 208, 209, 210, 211, 164, 212, 213, 214, 215, 256, 257, 258, 259, 1344, 1345, 1346, 1347, 1348, 1349, 1350, 1351, 1352, 1353, 1354, 1355, 1356, 1357, 1358, 1359, 1360, 1361, 1362, 1363, 1364, 1365] (by decide +kernel) (by decide +kernel)
set_option maxRecDepth 20000 in
theorem gL_law_X8_readingOf : GoodIn wsL_law (wsV RL 218 RX8 yX8_readingOf wsX8_readingOf) := goodIn_app (goodIn_of _ (by decide +kernel)) ggL_law_X8_readingOf
set_option maxRecDepth 20000 in
theorem ggL_law_L_errorOf : GoodIn wsL_law wsL_errorOf := goodIn_ca (goodIn_r _ [857, 267, 858, 859, 860, 2, 861, 16, 670, 671, 672, 673, 273, 274, 674, 398, 399, 15, 400, 90, 45, 840, 841, 842, 843, 844, 158, 146, 143, 147, 845, 142, 144, 846, 818, 819, 820, 821, 822, 823, 93, 824, 763, 764, 765, 766, 129, 130, 131, 132, 133, 92, 134, 135, 136, 148, 149, 805, 1338, 1339, 1340, 1341, 1342, 1343, 1366, 1367, 1368, 1369, 1370, 1371, 1372, 1373, 1385, 1386, 1387, 1388, 1389, 1390, 1391, 1392, 1393] (by decide +kernel) (by decide +kernel)) (goodIn_sub (fun _ h => List.mem_append_left _ (List.mem_append_right _ h)) (by decide +kernel))
set_option maxRecDepth 20000 in
theorem gL_law_L_errorOf : GoodIn wsL_law (va_wsS RL 219 yL_errorOf wsL_errorOf) := goodIn_app (goodIn_of _ (by decide +kernel)) ggL_law_L_errorOf
set_option maxRecDepth 20000 in
theorem ggL_law_X8_errorOf : GoodIn wsL_law wsX8_errorOf := goodIn_r _ [865, 679, 680, 681, 5, 682, 166, 468, 469, 470, 247, 248, 249, 250, 251, 851, 852, 853, 854, 829, 830, 831, 832, 200, 201, 202, 203, 181, 182, 183, 771, 772, 773, 774, 208, 209, 210, 211, 164, 212, 213, 214, 215, 256, 257, 258, 259, 1344, 1345, 1346, 1347, 1348, 1349, 1350, 1351, 1352, 1353, 1354, 1355, 1356, 1357, 1358, 1359, 1360, 1361, 1362, 1363, 1364, 1365] (by decide +kernel) (by decide +kernel)
set_option maxRecDepth 20000 in
theorem gL_law_X8_errorOf : GoodIn wsL_law (wsV RL 221 RX8 yX8_errorOf wsX8_errorOf) := goodIn_app (goodIn_of _ (by decide +kernel)) ggL_law_X8_errorOf
set_option maxRecDepth 20000 in
theorem ggL_law_L_isSettled : GoodIn wsL_law wsL_isSettled := goodIn_ca (goodIn_r _ [868, 267, 869, 870, 871, 2, 872, 16, 670, 671, 672, 673, 273, 274, 674, 398, 399, 15, 400, 90, 45, 873, 874, 875, 876, 821, 822, 766, 129, 130, 131, 132, 133, 92, 134, 135, 136, 1338, 1339, 1340, 1341, 1342, 1343, 1366, 1367, 1368, 1369, 1370, 1371, 1372, 1373, 1385, 1386, 1387, 1388, 1389, 1390, 1391, 1392, 1393] (by decide +kernel) (by decide +kernel)) (goodIn_sub (fun _ h => List.mem_append_left _ (List.mem_append_right _ h)) (by decide +kernel))
set_option maxRecDepth 20000 in
theorem gL_law_L_isSettled : GoodIn wsL_law (va_wsS RL 222 yL_isSettled wsL_isSettled) := goodIn_app (goodIn_of _ (by decide +kernel)) ggL_law_L_isSettled
set_option maxRecDepth 20000 in
theorem ggL_law_X8_isSettled : GoodIn wsL_law wsX8_isSettled := goodIn_r _ [880, 679, 680, 681, 5, 682, 166, 468, 469, 470, 683, 684, 685, 686, 251, 881, 882, 883, 884, 200, 201, 202, 203, 181, 182, 183, 885, 886, 887, 888, 208, 209, 210, 211, 164, 212, 213, 214, 215, 687, 688, 689, 690, 1344, 1345, 1346, 1347, 1348, 1349, 1350, 1351, 1352, 1353, 1354, 1355, 1356, 1357, 1358, 1359, 1360, 1361, 1362, 1363, 1364, 1365] (by decide +kernel) (by decide +kernel)
set_option maxRecDepth 20000 in
theorem gL_law_X8_isSettled : GoodIn wsL_law (wsV RL 224 RX8 yX8_isSettled wsX8_isSettled) := goodIn_app (goodIn_of _ (by decide +kernel)) ggL_law_X8_isSettled
set_option maxRecDepth 20000 in
theorem ggL_law_L_whyUnusable : GoodIn wsL_law wsL_whyUnusable := goodIn_ca (goodIn_r _ [891, 267, 892, 893, 894, 2, 895, 670, 671, 672, 673, 273, 274, 16, 674, 398, 399, 15, 400, 90, 45, 896, 897, 898, 35, 899, 105, 106, 115, 114, 900, 407, 408, 409, 49, 1338, 1339, 1340, 1341, 1342, 1343, 1366, 1367, 1368, 1369, 1370, 1371, 1372, 1373, 1385, 1386, 1387, 1388, 1389, 1390, 1391, 1392, 1393] (by decide +kernel) (by decide +kernel)) (goodIn_sub (fun _ h => List.mem_append_left _ (List.mem_append_right _ h)) (by decide +kernel))
set_option maxRecDepth 20000 in
theorem gL_law_L_whyUnusable : GoodIn wsL_law (va_wsS RL 225 yL_whyUnusable wsL_whyUnusable) := goodIn_app (goodIn_of _ (by decide +kernel)) ggL_law_L_whyUnusable
set_option maxRecDepth 20000 in
theorem ggL_law_X8_whyUnusable : GoodIn wsL_law wsX8_whyUnusable := goodIn_r _ [904, 679, 680, 681, 5, 682, 166, 468, 469, 470, 247, 248, 249, 250, 251, 905, 906, 907, 908, 181, 182, 183, 212, 213, 214, 215, 200, 201, 202, 203, 256, 257, 258, 259, 1344, 1345, 1346, 1347, 1348, 1349, 1350, 1351, 1352, 1353, 1354, 1355, 1356, 1357, 1358, 1359, 1360, 1361, 1362, 1363, 1364, 1365] (by decide +kernel) (by decide +kernel)
set_option maxRecDepth 20000 in
theorem gL_law_X8_whyUnusable : GoodIn wsL_law (wsV RL 227 RX8 yX8_whyUnusable wsX8_whyUnusable) := goodIn_app (goodIn_of _ (by decide +kernel)) ggL_law_X8_whyUnusable
set_option maxRecDepth 20000 in
theorem ggL_law_L_weightOf : GoodIn wsL_law wsL_weightOf := goodIn_ca (goodIn_r _ [911, 267, 912, 913, 914, 2, 915, 670, 671, 672, 673, 273, 274, 16, 674, 398, 399, 15, 400, 90, 45, 916, 917, 918, 35, 919, 105, 106, 920, 897, 898, 899, 115, 114, 900, 407, 408, 409, 49, 1338, 1339, 1340, 1341, 1342, 1343, 1366, 1367, 1368, 1369, 1370, 1371, 1372, 1373, 1385, 1386, 1387, 1388, 1389, 1390, 1391, 1392, 1393] (by decide +kernel) (by decide +kernel)) (goodIn_sub (fun _ h => List.mem_append_left _ (List.mem_append_right _ h)) (by decide +kernel))
set_option maxRecDepth 20000 in
theorem gL_law_L_weightOf : GoodIn wsL_law (va_wsS RL 228 yL_weightOf wsL_weightOf) := goodIn_app (goodIn_of _ (by decide +kernel)) ggL_law_L_weightOf
