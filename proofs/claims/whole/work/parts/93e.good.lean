set_option maxRecDepth 20000 in
theorem ggL_law_X8_weightOf : GoodIn wsL_law wsX8_weightOf := goodIn_r _ [924, 679, 680, 681, 5, 682, 166, 468, 469, 470, 247, 248, 249, 250, 251, 925, 926, 927, 928, 905, 906, 907, 908, 181, 182, 183, 212, 213, 214, 215, 200, 201, 202, 203, 256, 257, 258, 259, 1344, 1345, 1346, 1347, 1348, 1349, 1350, 1351, 1352, 1353, 1354, 1355, 1356, 1357, 1358, 1359, 1360, 1361, 1362, 1363, 1364, 1365] (by decide +kernel) (by decide +kernel)
set_option maxRecDepth 20000 in
theorem gL_law_X8_weightOf : GoodIn wsL_law (wsV RL 230 RX8 yX8_weightOf wsX8_weightOf) := goodIn_app (goodIn_of _ (by decide +kernel)) ggL_law_X8_weightOf
set_option maxRecDepth 20000 in
theorem ggL_law_L_calibrationObstacle : GoodIn wsL_law wsL_calibrationObstacle := goodIn_ca (goodIn_r _ [931, 267, 932, 933, 934, 2, 935, 16, 670, 671, 672, 673, 273, 274, 674, 398, 399, 15, 400, 90, 45, 936, 937, 938, 939, 940, 407, 408, 35, 409, 49, 941, 874, 875, 876, 821, 822, 766, 129, 130, 131, 132, 133, 92, 134, 135, 136, 1338, 1339, 1340, 1341, 1342, 1343, 1366, 1367, 1368, 1369, 1370, 1371, 1372, 1373, 1385, 1386, 1387, 1388, 1389, 1390, 1391, 1392, 1393] (by decide +kernel) (by decide +kernel)) (goodIn_sub (fun _ h => List.mem_append_left _ (List.mem_append_right _ h)) (by decide +kernel))
set_option maxRecDepth 20000 in
theorem gL_law_L_calibrationObstacle : GoodIn wsL_law (va_wsS RL 231 yL_calibrationObstacle wsL_calibrationObstacle) := goodIn_app (goodIn_of _ (by decide +kernel)) ggL_law_L_calibrationObstacle
set_option maxRecDepth 20000 in
theorem ggL_law_X8_calibrationObstacle : GoodIn wsL_law wsX8_calibrationObstacle := goodIn_r _ [945, 679, 680, 681, 5, 682, 166, 468, 469, 470, 247, 248, 249, 250, 251, 946, 947, 948, 949, 212, 213, 214, 215, 181, 182, 183, 881, 882, 883, 884, 200, 201, 202, 203, 885, 886, 887, 888, 208, 209, 210, 211, 164, 256, 257, 258, 259, 1344, 1345, 1346, 1347, 1348, 1349, 1350, 1351, 1352, 1353, 1354, 1355, 1356, 1357, 1358, 1359, 1360, 1361, 1362, 1363, 1364, 1365] (by decide +kernel) (by decide +kernel)
set_option maxRecDepth 20000 in
theorem gL_law_X8_calibrationObstacle : GoodIn wsL_law (wsV RL 233 RX8 yX8_calibrationObstacle wsX8_calibrationObstacle) := goodIn_app (goodIn_of _ (by decide +kernel)) ggL_law_X8_calibrationObstacle
set_option maxRecDepth 20000 in
theorem ggL_law_X7_usableInstruments : GoodIn wsL_law wsX7_usableInstruments := goodIn_r _ [953, 16, 954, 955, 956, 15, 957, 90, 45, 958, 897, 898, 35, 899, 105, 106, 115, 114, 900, 407, 408, 409, 49, 1338, 1339, 1340, 1341, 1342, 1343, 1366, 1367, 1368, 1369, 1370, 1371, 1372, 1373, 1385, 1386, 1387, 1388, 1389, 1390, 1391, 1392, 1393] (by decide +kernel) (by decide +kernel)
set_option maxRecDepth 20000 in
theorem gL_law_X7_usableInstruments : GoodIn wsL_law (wsV RL 234 RX7 yX7_usableInstruments wsX7_usableInstruments) := goodIn_app (goodIn_of _ (by decide +kernel)) ggL_law_X7_usableInstruments
set_option maxRecDepth 20000 in
theorem ggL_law_X8_usableInstruments : GoodIn wsL_law wsX8_usableInstruments := goodIn_r _ [962, 963, 964, 965, 5, 966, 166, 905, 906, 907, 908, 181, 182, 183, 212, 213, 214, 215, 200, 201, 202, 203, 256, 257, 258, 259, 251, 1344, 1345, 1346, 1347, 1348, 1349, 1350, 1351, 1352, 1353, 1354, 1355, 1356, 1357, 1358, 1359, 1360, 1361, 1362, 1363, 1364, 1365] (by decide +kernel) (by decide +kernel)
set_option maxRecDepth 20000 in
theorem gL_law_X8_usableInstruments : GoodIn wsL_law (wsV RL 237 RX8 yX8_usableInstruments wsX8_usableInstruments) := goodIn_app (goodIn_of _ (by decide +kernel)) ggL_law_X8_usableInstruments
set_option maxRecDepth 20000 in
theorem ggL_law_X7_blend : GoodIn wsL_law wsX7_blend := goodIn_r _ [970, 16, 971, 972, 973, 15, 974, 90, 45, 975, 917, 918, 35, 919, 105, 106, 920, 897, 898, 899, 115, 114, 900, 407, 408, 409, 49, 976, 841, 842, 843, 844, 158, 146, 143, 147, 845, 142, 144, 846, 818, 819, 820, 821, 822, 823, 93, 824, 763, 764, 765, 766, 129, 130, 131, 132, 133, 92, 134, 2, 135, 136, 148, 149, 1338, 1339, 1340, 1341, 1342, 1343, 1366, 1367, 1368, 1369, 1370, 1371, 1372, 1373, 1385, 1386, 1387, 1388, 1389, 1390, 1391, 1392, 1393] (by decide +kernel) (by decide +kernel)
set_option maxRecDepth 20000 in
theorem gL_law_X7_blend : GoodIn wsL_law (wsV RL 238 RX7 yX7_blend wsX7_blend) := goodIn_app (goodIn_of _ (by decide +kernel)) ggL_law_X7_blend
set_option maxRecDepth 20000 in
theorem ggL_law_X8_blend : GoodIn wsL_law wsX8_blend := goodIn_r _ [980, 166, 851, 852, 853, 5, 854, 829, 830, 831, 832, 200, 201, 202, 203, 181, 182, 183, 771, 772, 773, 774, 208, 209, 210, 211, 164, 212, 213, 214, 215, 925, 926, 927, 928, 905, 906, 907, 908, 256, 257, 258, 259, 251, 1344, 1345, 1346, 1347, 1348, 1349, 1350, 1351, 1352, 1353, 1354, 1355, 1356, 1357, 1358, 1359, 1360, 1361, 1362, 1363, 1364, 1365] (by decide +kernel) (by decide +kernel)
set_option maxRecDepth 20000 in
theorem gL_law_X8_blend : GoodIn wsL_law (wsV RL 241 RX8 yX8_blend wsX8_blend) := goodIn_app (goodIn_of _ (by decide +kernel)) ggL_law_X8_blend
set_option maxRecDepth 20000 in
theorem ggL_law_X7_bestInstrument : GoodIn wsL_law wsX7_bestInstrument := goodIn_r _ [984, 16, 985, 986, 987, 15, 988, 90, 45, 92, 989, 990, 143, 991, 976, 841, 842, 843, 844, 158, 146, 147, 845, 142, 144, 846, 818, 819, 820, 821, 822, 823, 93, 824, 763, 764, 765, 766, 129, 130, 131, 132, 133, 134, 2, 135, 136, 148, 149, 958, 897, 898, 35, 899, 105, 106, 115, 114, 900, 407, 408, 409, 49, 1338, 1339, 1340, 1341, 1342, 1343, 1366, 1367, 1368, 1369, 1370, 1371, 1372, 1373, 1385, 1386, 1387, 1388, 1389, 1390, 1391, 1392, 1393] (by decide +kernel) (by decide +kernel)
set_option maxRecDepth 20000 in
theorem gL_law_X7_bestInstrument : GoodIn wsL_law (wsV RL 242 RX7 yX7_bestInstrument wsX7_bestInstrument) := goodIn_app (goodIn_of _ (by decide +kernel)) ggL_law_X7_bestInstrument
set_option maxRecDepth 20000 in
theorem ggL_law_X8_bestInstrument : GoodIn wsL_law wsX8_bestInstrument := goodIn_r _ [995, 166, 905, 906, 907, 5, 908, 181, 182, 183, 212, 213, 214, 215, 200, 201, 202, 203, 996, 997, 998, 999, 851, 852, 853, 854, 829, 830, 831, 832, 771, 772, 773, 774, 208, 209, 210, 211, 164, 1000, 1001, 1002, 256, 257, 258, 259, 251, 1344, 1345, 1346, 1347, 1348, 1349, 1350, 1351, 1352, 1353, 1354, 1355, 1356, 1357, 1358, 1359, 1360, 1361, 1362, 1363, 1364, 1365] (by decide +kernel) (by decide +kernel)
set_option maxRecDepth 20000 in
theorem gL_law_X8_bestInstrument : GoodIn wsL_law (wsV RL 245 RX8 yX8_bestInstrument wsX8_bestInstrument) := goodIn_app (goodIn_of _ (by decide +kernel)) ggL_law_X8_bestInstrument
set_option maxRecDepth 20000 in
theorem ggL_law_X7_slackestInstrument : GoodIn wsL_law wsX7_slackestInstrument := goodIn_r _ [1006, 16, 1007, 1008, 1009, 15, 1010, 90, 45, 821, 823, 1338, 1339, 1340, 1341, 1342, 1343, 1366, 1367, 1368, 1369, 1370, 1371, 1372, 1373, 1385, 1386, 1387, 1388, 1389, 1390, 1391, 1392, 1393] (by decide +kernel) (by decide +kernel)
set_option maxRecDepth 20000 in
theorem gL_law_X7_slackestInstrument : GoodIn wsL_law (wsV RL 246 RX7 yX7_slackestInstrument wsX7_slackestInstrument) := goodIn_app (goodIn_of _ (by decide +kernel)) ggL_law_X7_slackestInstrument
set_option maxRecDepth 20000 in
theorem ggL_law_X8_slackestInstrument : GoodIn wsL_law wsX8_slackestInstrument := goodIn_r _ [1014, 166, 200, 201, 202, 5, 203, 181, 182, 183, 256, 257, 258, 259, 251, 1344, 1345, 1346, 1347, 1348, 1349, 1350, 1351, 1352, 1353, 1354, 1355, 1356, 1357, 1358, 1359, 1360, 1361, 1362, 1363, 1364, 1365] (by decide +kernel) (by decide +kernel)
set_option maxRecDepth 20000 in
theorem gL_law_X8_slackestInstrument : GoodIn wsL_law (wsV RL 249 RX8 yX8_slackestInstrument wsX8_slackestInstrument) := goodIn_app (goodIn_of _ (by decide +kernel)) ggL_law_X8_slackestInstrument
set_option maxRecDepth 20000 in
theorem ggL_law_X7_disagreements : GoodIn wsL_law wsX7_disagreements := goodIn_r _ [1018, 16, 1019, 1020, 1021, 15, 1022, 90, 45, 940, 407, 408, 35, 409, 49, 941, 874, 875, 876, 821, 822, 766, 129, 130, 131, 132, 133, 92, 134, 2, 135, 136, 976, 841, 842, 843, 844, 158, 146, 143, 147, 845, 142, 144, 846, 818, 819, 820, 823, 93, 824, 763, 764, 765, 148, 149, 1338, 1339, 1340, 1341, 1342, 1343, 1366, 1367, 1368, 1369, 1370, 1371, 1372, 1373, 1385, 1386, 1387, 1388, 1389, 1390, 1391, 1392, 1393] (by decide +kernel) (by decide +kernel)
set_option maxRecDepth 20000 in
theorem gL_law_X7_disagreements : GoodIn wsL_law (wsV RL 250 RX7 yX7_disagreements wsX7_disagreements) := goodIn_app (goodIn_of _ (by decide +kernel)) ggL_law_X7_disagreements
set_option maxRecDepth 20000 in
theorem ggL_law_X8_disagreements : GoodIn wsL_law wsX8_disagreements := goodIn_r _ [1026, 166, 946, 947, 948, 5, 949, 212, 213, 214, 215, 181, 182, 183, 881, 882, 883, 884, 200, 201, 202, 203, 885, 886, 887, 888, 208, 209, 210, 211, 164, 851, 852, 853, 854, 829, 830, 831, 832, 771, 772, 773, 774, 256, 257, 258, 259, 251, 1344, 1345, 1346, 1347, 1348, 1349, 1350, 1351, 1352, 1353, 1354, 1355, 1356, 1357, 1358, 1359, 1360, 1361, 1362, 1363, 1364, 1365] (by decide +kernel) (by decide +kernel)
set_option maxRecDepth 20000 in
theorem gL_law_X8_disagreements : GoodIn wsL_law (wsV RL 253 RX8 yX8_disagreements wsX8_disagreements) := goodIn_app (goodIn_of _ (by decide +kernel)) ggL_law_X8_disagreements
set_option maxRecDepth 20000 in
theorem ggL_law_X7_spread : GoodIn wsL_law wsX7_spread := goodIn_r _ [1030, 16, 1031, 1032, 1033, 15, 1034, 90, 45, 158, 146, 143, 147, 845, 142, 144, 958, 897, 898, 35, 899, 105, 106, 115, 114, 900, 407, 408, 409, 49, 976, 841, 842, 843, 844, 846, 818, 819, 820, 821, 822, 823, 93, 824, 763, 764, 765, 766, 129, 130, 131, 132, 133, 92, 134, 2, 135, 136, 148, 149, 1338, 1339, 1340, 1341, 1342, 1343, 1366, 1367, 1368, 1369, 1370, 1371, 1372, 1373, 1385, 1386, 1387, 1388, 1389, 1390, 1391, 1392, 1393] (by decide +kernel) (by decide +kernel)
set_option maxRecDepth 20000 in
theorem gL_law_X7_spread : GoodIn wsL_law (wsV RL 254 RX7 yX7_spread wsX7_spread) := goodIn_app (goodIn_of _ (by decide +kernel)) ggL_law_X7_spread
