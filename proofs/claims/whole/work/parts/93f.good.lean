set_option maxRecDepth 20000 in
theorem ggL_law_X8_spread : GoodIn wsL_law wsX8_spread := goodIn_r _ [1038, 166, 905, 906, 907, 5, 908, 181, 182, 183, 212, 213, 214, 215, 200, 201, 202, 203, 851, 852, 853, 854, 829, 830, 831, 832, 771, 772, 773, 774, 208, 209, 210, 211, 164, 963, 964, 965, 966, 256, 257, 258, 259, 251, 1344, 1345, 1346, 1347, 1348, 1349, 1350, 1351, 1352, 1353, 1354, 1355, 1356, 1357, 1358, 1359, 1360, 1361, 1362, 1363, 1364, 1365] (by decide +kernel) (by decide +kernel)
set_option maxRecDepth 20000 in
theorem gL_law_X8_spread : GoodIn wsL_law (wsV RL 257 RX8 yX8_spread wsX8_spread) := goodIn_app (goodIn_of _ (by decide +kernel)) ggL_law_X8_spread
set_option maxRecDepth 20000 in
theorem ggL_law_L_readingAfter : GoodIn wsL_law wsL_readingAfter := goodIn_ca (goodIn_ca (goodIn_r _ [1041, 267, 268, 1042, 1043, 1044, 2, 1045, 275, 276, 36, 16, 599, 670, 671, 672, 673, 273, 274, 674, 398, 399, 15, 400, 90, 45, 1046, 446, 447, 35, 448, 105, 106, 107, 113, 108, 114, 115, 116, 49, 805, 130, 131, 132, 133, 92, 134, 135, 136, 1047, 138, 139, 140, 141, 142, 143, 144, 145, 146, 147, 148, 149, 150, 151, 152, 153, 840, 841, 842, 843, 844, 158, 845, 846, 818, 819, 820, 821, 822, 823, 93, 824, 763, 764, 765, 766, 129, 1338, 1339, 1340, 1341, 1342, 1343, 1366, 1367, 1368, 1369, 1370, 1371, 1372, 1373, 1385, 1386, 1387, 1388, 1389, 1390, 1391, 1392, 1393] (by decide +kernel) (by decide +kernel)) (goodIn_sub (fun _ h => List.mem_append_right _ h) (by decide +kernel))) (goodIn_sub (fun _ h => List.mem_append_left _ (List.mem_append_right _ h)) (by decide +kernel))
set_option maxRecDepth 20000 in
theorem gL_law_L_readingAfter : GoodIn wsL_law (va_wsS RL 258 yL_readingAfter wsL_readingAfter) := goodIn_app (goodIn_of _ (by decide +kernel)) ggL_law_L_readingAfter
set_option maxRecDepth 20000 in
theorem ggL_law_X8_readingAfter : GoodIn wsL_law wsX8_readingAfter := goodIn_r _ [1051, 679, 680, 681, 5, 682, 166, 468, 469, 470, 247, 248, 249, 250, 251, 471, 472, 473, 474, 167, 188, 189, 190, 191, 192, 193, 194, 195, 196, 197, 198, 199, 181, 182, 183, 200, 201, 202, 203, 204, 205, 206, 207, 208, 209, 210, 211, 164, 212, 213, 214, 215, 216, 217, 218, 219, 220, 221, 222, 223, 851, 852, 853, 854, 829, 830, 831, 832, 771, 772, 773, 774, 574, 575, 576, 577, 256, 257, 258, 259, 1344, 1345, 1346, 1347, 1348, 1349, 1350, 1351, 1352, 1353, 1354, 1355, 1356, 1357, 1358, 1359, 1360, 1361, 1362, 1363, 1364, 1365] (by decide +kernel) (by decide +kernel)
set_option maxRecDepth 20000 in
theorem gL_law_X8_readingAfter : GoodIn wsL_law (wsV RL 261 RX8 yX8_readingAfter wsX8_readingAfter) := goodIn_app (goodIn_of _ (by decide +kernel)) ggL_law_X8_readingAfter
set_option maxRecDepth 20000 in
theorem ggL_law_L_minutesUntilStill : GoodIn wsL_law wsL_minutesUntilStill := goodIn_ca (goodIn_r _ [1054, 267, 1055, 1056, 1057, 2, 1058, 36, 16, 599, 670, 671, 672, 673, 273, 274, 674, 398, 399, 15, 400, 90, 45, 1046, 446, 447, 35, 448, 105, 106, 107, 113, 108, 114, 115, 116, 49, 1059, 1060, 1061, 1062, 821, 941, 874, 875, 876, 822, 766, 129, 130, 131, 132, 133, 92, 134, 135, 136, 805, 1047, 138, 139, 140, 141, 142, 143, 144, 145, 146, 147, 148, 149, 150, 151, 152, 153, 1338, 1339, 1340, 1341, 1342, 1343, 1366, 1367, 1368, 1369, 1370, 1371, 1372, 1373, 1385, 1386, 1387, 1388, 1389, 1390, 1391, 1392, 1393] (by decide +kernel) (by decide +kernel)) (goodIn_sub (fun _ h => List.mem_append_left _ (List.mem_append_right _ h)) (by decide +kernel))
set_option maxRecDepth 20000 in
theorem gL_law_L_minutesUntilStill : GoodIn wsL_law (va_wsS RL 262 yL_minutesUntilStill wsL_minutesUntilStill) := goodIn_app (goodIn_of _ (by decide +kernel)) ggL_law_L_minutesUntilStill
set_option maxRecDepth 20000 in
theorem ggL_law_X8_minutesUntilStill : GoodIn wsL_law wsX8_minutesUntilStill := goodIn_r _ [1066, 679, 680, 681, 5, 682, 166, 468, 469, 470, 247, 248, 249, 250, 251, 471, 472, 473, 474, 167, 885, 886, 887, 888, 200, 201, 202, 203, 181, 182, 183, 208, 209, 210, 211, 164, 212, 213, 214, 215, 192, 193, 194, 195, 196, 197, 198, 199, 204, 205, 206, 207, 216, 217, 218, 219, 220, 221, 222, 223, 574, 575, 576, 577, 256, 257, 258, 259, 1344, 1345, 1346, 1347, 1348, 1349, 1350, 1351, 1352, 1353, 1354, 1355, 1356, 1357, 1358, 1359, 1360, 1361, 1362, 1363, 1364, 1365] (by decide +kernel) (by decide +kernel)
set_option maxRecDepth 20000 in
theorem gL_law_X8_minutesUntilStill : GoodIn wsL_law (wsV RL 264 RX8 yX8_minutesUntilStill wsX8_minutesUntilStill) := goodIn_app (goodIn_of _ (by decide +kernel)) ggL_law_X8_minutesUntilStill
set_option maxRecDepth 20000 in
theorem ggL_law_X7_hairDifference : GoodIn wsL_law wsX7_hairDifference := goodIn_r _ [1070, 16, 1071, 990, 143, 991, 1072, 1073, 1074, 15, 1075, 95, 90, 45, 1076, 1077, 1078, 1079, 1080, 1081, 96, 1082, 1338, 1339, 1340, 1341, 1342, 1343, 1366, 1367, 1368, 1369, 1370, 1371, 1372, 1373, 1385, 1386, 1387, 1388, 1389, 1390, 1391, 1392, 1393] (by decide +kernel) (by decide +kernel)
set_option maxRecDepth 20000 in
theorem gL_law_X7_hairDifference : GoodIn wsL_law (wsV RL 265 RX7 yX7_hairDifference wsX7_hairDifference) := goodIn_app (goodIn_of _ (by decide +kernel)) ggL_law_X7_hairDifference
set_option maxRecDepth 20000 in
theorem ggL_law_X8_hairDifference : GoodIn wsL_law wsX8_hairDifference := goodIn_r _ [1086, 166, 181, 182, 5, 183, 1000, 1001, 1002, 256, 257, 258, 259, 251, 1344, 1345, 1346, 1347, 1348, 1349, 1350, 1351, 1352, 1353, 1354, 1355, 1356, 1357, 1358, 1359, 1360, 1361, 1362, 1363, 1364, 1365] (by decide +kernel) (by decide +kernel)
set_option maxRecDepth 20000 in
theorem gL_law_X8_hairDifference : GoodIn wsL_law (wsV RL 268 RX8 yX8_hairDifference wsX8_hairDifference) := goodIn_app (goodIn_of _ (by decide +kernel)) ggL_law_X8_hairDifference
set_option maxRecDepth 20000 in
theorem ggL_law_X7_meanReading : GoodIn wsL_law wsX7_meanReading := goodIn_r _ [1090, 16, 279, 1091, 1092, 1093, 15, 1094, 90, 45, 976, 841, 842, 843, 844, 158, 146, 143, 147, 845, 142, 144, 846, 818, 819, 820, 821, 822, 823, 93, 824, 763, 764, 765, 766, 129, 130, 131, 132, 133, 92, 134, 2, 135, 136, 148, 149, 1338, 1339, 1340, 1341, 1342, 1343, 1366, 1367, 1368, 1369, 1370, 1371, 1372, 1373, 1385, 1386, 1387, 1388, 1389, 1390, 1391, 1392, 1393] (by decide +kernel) (by decide +kernel)
set_option maxRecDepth 20000 in
theorem gL_law_X7_meanReading : GoodIn wsL_law (wsV RL 269 RX7 yX7_meanReading wsX7_meanReading) := goodIn_app (goodIn_of _ (by decide +kernel)) ggL_law_X7_meanReading
set_option maxRecDepth 20000 in
theorem ggL_law_X8_meanReading : GoodIn wsL_law wsX8_meanReading := goodIn_r _ [1098, 251, 166, 851, 852, 853, 5, 854, 829, 830, 831, 832, 200, 201, 202, 203, 181, 182, 183, 771, 772, 773, 774, 208, 209, 210, 211, 164, 212, 213, 214, 215, 1344, 1345, 1346, 1347, 1348, 1349, 1350, 1351, 1352, 1353, 1354, 1355, 1356, 1357, 1358, 1359, 1360, 1361, 1362, 1363, 1364, 1365] (by decide +kernel) (by decide +kernel)
set_option maxRecDepth 20000 in
theorem gL_law_X8_meanReading : GoodIn wsL_law (wsV RL 273 RX8 yX8_meanReading wsX8_meanReading) := goodIn_app (goodIn_of _ (by decide +kernel)) ggL_law_X8_meanReading
set_option maxRecDepth 20000 in
theorem ggL_law_X7_usableShare : GoodIn wsL_law wsX7_usableShare := goodIn_r _ [1102, 16, 279, 954, 955, 956, 15, 957, 90, 45, 958, 897, 898, 35, 899, 105, 106, 115, 114, 900, 407, 408, 409, 49, 1338, 1339, 1340, 1341, 1342, 1343, 1366, 1367, 1368, 1369, 1370, 1371, 1372, 1373, 1385, 1386, 1387, 1388, 1389, 1390, 1391, 1392, 1393] (by decide +kernel) (by decide +kernel)
set_option maxRecDepth 20000 in
theorem gL_law_X7_usableShare : GoodIn wsL_law (wsV RL 274 RX7 yX7_usableShare wsX7_usableShare) := goodIn_app (goodIn_of _ (by decide +kernel)) ggL_law_X7_usableShare
set_option maxRecDepth 20000 in
theorem ggL_law_X8_usableShare : GoodIn wsL_law wsX8_usableShare := goodIn_r _ [1106, 251, 166, 963, 964, 965, 5, 966, 905, 906, 907, 908, 181, 182, 183, 212, 213, 214, 215, 200, 201, 202, 203, 1344, 1345, 1346, 1347, 1348, 1349, 1350, 1351, 1352, 1353, 1354, 1355, 1356, 1357, 1358, 1359, 1360, 1361, 1362, 1363, 1364, 1365] (by decide +kernel) (by decide +kernel)
set_option maxRecDepth 20000 in
theorem gL_law_X8_usableShare : GoodIn wsL_law (wsV RL 278 RX8 yX8_usableShare wsX8_usableShare) := goodIn_app (goodIn_of _ (by decide +kernel)) ggL_law_X8_usableShare
set_option maxRecDepth 20000 in
theorem ggL_law_L_advance : GoodIn wsL_law wsL_advance := goodIn_ca (goodIn_ca (goodIn_r _ [1109, 268, 228, 1110, 1111, 1112, 2, 1113, 275, 276, 233, 234, 16, 599, 24, 1114, 1115, 1116, 23, 1117, 71, 453, 454, 1118, 146, 143, 147, 1119, 442, 443, 15, 444, 90, 91, 92, 93, 94, 95, 96, 45, 445, 446, 447, 35, 448, 105, 106, 107, 113, 108, 114, 115, 116, 49, 125, 126, 127, 128, 129, 130, 131, 132, 133, 134, 135, 136, 137, 138, 139, 140, 141, 142, 144, 145, 148, 149, 150, 151, 152, 153, 154, 155, 156, 157, 158, 1338, 1339, 1340, 1341, 1342, 1343, 1366, 1367, 1368, 1369, 1370, 1371, 1372, 1373, 1378, 1379, 1380, 1385, 1386, 1387, 1388, 1389, 1390, 1391, 1392, 1393] (by decide +kernel) (by decide +kernel)) (goodIn_sub (fun _ h => List.mem_append_right _ h) (by decide +kernel))) (goodIn_sub (fun _ h => List.mem_append_left _ (List.mem_append_left _ (List.mem_append_right _ h))) (by decide +kernel))
set_option maxRecDepth 20000 in
theorem gL_law_L_advance : GoodIn wsL_law (va_wsS RL 279 yL_advance wsL_advance) := goodIn_app (goodIn_of _ (by decide +kernel)) ggL_law_L_advance
set_option maxRecDepth 20000 in
theorem ggL_law_X8_advance : GoodIn wsL_law wsX8_advance := goodIn_r _ [1123, 166, 468, 469, 5, 470, 247, 248, 249, 250, 251, 1124, 1125, 1126, 1127, 466, 168, 1128, 1129, 1130, 1131, 188, 189, 190, 191, 192, 193, 194, 195, 196, 197, 198, 199, 181, 182, 183, 200, 201, 202, 203, 204, 205, 206, 207, 208, 209, 210, 211, 164, 212, 213, 214, 215, 216, 217, 218, 219, 220, 221, 222, 223, 256, 257, 258, 259, 1344, 1345, 1346, 1347, 1348, 1349, 1350, 1351, 1352, 1353, 1354, 1355, 1356, 1357, 1358, 1359, 1360, 1361, 1362, 1363, 1364, 1365] (by decide +kernel) (by decide +kernel)
set_option maxRecDepth 20000 in
theorem gL_law_X8_advance : GoodIn wsL_law (wsV RL 281 RX8 yX8_advance wsX8_advance) := goodIn_app (goodIn_of _ (by decide +kernel)) ggL_law_X8_advance
set_option maxRecDepth 20000 in
theorem ggL_law_L_setHumidity : GoodIn wsL_law wsL_setHumidity := goodIn_ca (goodIn_r _ [1134, 268, 1135, 1136, 1137, 2, 1138, 275, 276, 24, 16, 37, 1114, 1115, 1116, 23, 1117, 71, 453, 454, 1118, 146, 143, 147, 1119, 442, 443, 15, 444, 90, 91, 92, 93, 94, 95, 96, 45, 445, 446, 447, 35, 448, 105, 106, 107, 113, 108, 114, 115, 116, 49, 1338, 1339, 1340, 1341, 1342, 1343, 1366, 1367, 1368, 1369, 1370, 1371, 1372, 1373, 1378, 1379, 1380, 1385, 1386, 1387, 1388, 1389, 1390, 1391, 1392, 1393] (by decide +kernel) (by decide +kernel)) (goodIn_sub (fun _ h => List.mem_append_right _ h) (by decide +kernel))
set_option maxRecDepth 20000 in
theorem gL_law_L_setHumidity : GoodIn wsL_law (va_wsS RL 282 yL_setHumidity wsL_setHumidity) := goodIn_app (goodIn_of _ (by decide +kernel)) ggL_law_L_setHumidity
