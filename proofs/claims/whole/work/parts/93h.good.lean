set_option maxRecDepth 20000 in
theorem ggL_law_X8_moisten : GoodIn wsL_law wsX8_moisten := goodIn_r _ [1225, 679, 680, 681, 5, 682, 166, 468, 469, 470, 247, 248, 249, 250, 251, 200, 201, 202, 203, 181, 182, 183, 1124, 1125, 1126, 1127, 466, 168, 1128, 1129, 1130, 1131, 562, 563, 564, 565, 256, 257, 258, 259, 1344, 1345, 1346, 1347, 1348, 1349, 1350, 1351, 1352, 1353, 1354, 1355, 1356, 1357, 1358, 1359, 1360, 1361, 1362, 1363, 1364, 1365] (by decide +kernel) (by decide +kernel)
set_option maxRecDepth 20000 in
theorem gL_law_X8_moisten : GoodIn wsL_law (wsV RL 305 RX8 yX8_moisten wsX8_moisten) := goodIn_app (goodIn_of _ (by decide +kernel)) ggL_law_X8_moisten
set_option maxRecDepth 20000 in
theorem ggL_law_L_addHairs : GoodIn wsL_law wsL_addHairs := goodIn_ca (goodIn_ca (goodIn_ca (goodIn_r _ [1228, 267, 268, 228, 1229, 1230, 1231, 2, 1232, 275, 276, 233, 234, 669, 16, 634, 698, 24, 670, 671, 672, 673, 273, 274, 674, 398, 399, 15, 400, 90, 45, 1114, 1115, 1116, 23, 1117, 71, 453, 454, 1118, 146, 143, 147, 1119, 442, 443, 444, 91, 92, 93, 94, 95, 96, 445, 446, 447, 35, 448, 105, 106, 107, 113, 108, 114, 115, 116, 49, 1385, 1386, 1387, 1388, 1389, 1390, 1391, 1392, 1393, 1338, 1339, 1340, 1341, 1342, 1343, 1366, 1367, 1368, 1369, 1370, 1371, 1372, 1373, 1378, 1379, 1380] (by decide +kernel) (by decide +kernel)) (goodIn_sub (fun _ h => List.mem_append_right _ h) (by decide +kernel))) (goodIn_sub (fun _ h => List.mem_append_left _ (List.mem_append_left _ (List.mem_append_right _ h))) (by decide +kernel))) (goodIn_sub (fun _ h => List.mem_append_left _ (List.mem_append_right _ h)) (by decide +kernel))
set_option maxRecDepth 20000 in
theorem gL_law_L_addHairs : GoodIn wsL_law (va_wsS RL 306 yL_addHairs wsL_addHairs) := goodIn_app (goodIn_of _ (by decide +kernel)) ggL_law_L_addHairs
set_option maxRecDepth 20000 in
theorem ggL_law_X8_addHairs : GoodIn wsL_law wsX8_addHairs := goodIn_r _ [1236, 166, 679, 680, 681, 5, 682, 468, 469, 470, 247, 248, 249, 250, 251, 200, 201, 202, 203, 181, 182, 183, 1124, 1125, 1126, 1127, 466, 168, 1128, 1129, 1130, 1131, 256, 257, 258, 259, 1344, 1345, 1346, 1347, 1348, 1349, 1350, 1351, 1352, 1353, 1354, 1355, 1356, 1357, 1358, 1359, 1360, 1361, 1362, 1363, 1364, 1365] (by decide +kernel) (by decide +kernel)
set_option maxRecDepth 20000 in
theorem gL_law_X8_addHairs : GoodIn wsL_law (wsV RL 308 RX8 yX8_addHairs wsX8_addHairs) := goodIn_app (goodIn_of _ (by decide +kernel)) ggL_law_X8_addHairs
set_option maxRecDepth 20000 in
theorem ggL_law_L_restore : GoodIn wsL_law wsL_restore := goodIn_ca (goodIn_ca (goodIn_r _ [1239, 267, 228, 1240, 1241, 1242, 2, 1243, 273, 274, 233, 234, 28, 24, 16, 599, 1244, 1245, 1246, 1247, 1248, 1249, 27, 1250, 80, 78, 1114, 1115, 1116, 23, 1117, 71, 453, 454, 1118, 146, 143, 147, 1119, 442, 443, 15, 444, 90, 91, 92, 93, 94, 95, 96, 45, 445, 446, 447, 35, 448, 105, 106, 107, 113, 108, 114, 115, 116, 49, 441, 1338, 1339, 1340, 1341, 1342, 1343, 1366, 1367, 1368, 1369, 1370, 1371, 1372, 1373, 1381, 1382, 1378, 1379, 1380, 1385, 1386, 1387, 1388, 1389, 1390, 1391, 1392, 1393] (by decide +kernel) (by decide +kernel)) (goodIn_sub (fun _ h => List.mem_append_left _ (List.mem_append_right _ h)) (by decide +kernel))) (goodIn_sub (fun _ h => List.mem_append_left _ (List.mem_append_left _ (List.mem_append_right _ h))) (by decide +kernel))
set_option maxRecDepth 20000 in
theorem gL_law_L_restore : GoodIn wsL_law (va_wsS RL 309 yL_restore wsL_restore) := goodIn_app (goodIn_of _ (by decide +kernel)) ggL_law_L_restore
set_option maxRecDepth 20000 in
theorem ggL_law_X8_restore : GoodIn wsL_law wsX8_restore := goodIn_r _ [1254, 467, 166, 169, 468, 469, 5, 470, 247, 248, 249, 250, 251, 1124, 1125, 1126, 1127, 466, 168, 1128, 1129, 1130, 1131, 256, 257, 258, 259, 1344, 1345, 1346, 1347, 1348, 1349, 1350, 1351, 1352, 1353, 1354, 1355, 1356, 1357, 1358, 1359, 1360, 1361, 1362, 1363, 1364, 1365] (by decide +kernel) (by decide +kernel)
set_option maxRecDepth 20000 in
theorem gL_law_X8_restore : GoodIn wsL_law (wsV RL 311 RX8 yX8_restore wsX8_restore) := goodIn_app (goodIn_of _ (by decide +kernel)) ggL_law_X8_restore
set_option maxRecDepth 20000 in
theorem ggL_law_L_undo : GoodIn wsL_law wsL_undo := goodIn_ca (goodIn_r _ [1257, 228, 1258, 1259, 1260, 2, 1261, 233, 234, 24, 1262, 16, 1263, 1264, 1265, 23, 1266, 453, 71, 454, 1119, 442, 443, 15, 444, 90, 91, 92, 93, 94, 95, 96, 45, 445, 446, 447, 35, 448, 105, 106, 107, 113, 108, 114, 115, 116, 49, 1338, 1339, 1340, 1341, 1342, 1343, 1378, 1379, 1380, 1366, 1367, 1368, 1369, 1370, 1371, 1372, 1373, 1385, 1386, 1387, 1388, 1389, 1390, 1391, 1392, 1393] (by decide +kernel) (by decide +kernel)) (goodIn_sub (fun _ h => List.mem_append_left _ (List.mem_append_left _ (List.mem_append_right _ h))) (by decide +kernel))
set_option maxRecDepth 20000 in
theorem gL_law_L_undo : GoodIn wsL_law (va_wsS RL 312 yL_undo wsL_undo) := goodIn_app (goodIn_of _ (by decide +kernel)) ggL_law_L_undo
set_option maxRecDepth 20000 in
theorem ggL_law_X8_undo : GoodIn wsL_law wsX8_undo := goodIn_r _ [1270, 466, 166, 168, 247, 248, 249, 5, 250, 251, 256, 257, 258, 259, 1344, 1345, 1346, 1347, 1348, 1349, 1350, 1351, 1352, 1353, 1354, 1355, 1356, 1357, 1358, 1359, 1360, 1361, 1362, 1363, 1364, 1365] (by decide +kernel) (by decide +kernel)
set_option maxRecDepth 20000 in
theorem gL_law_X8_undo : GoodIn wsL_law (wsV RL 315 RX8 yX8_undo wsX8_undo) := goodIn_app (goodIn_of _ (by decide +kernel)) ggL_law_X8_undo
set_option maxRecDepth 20000 in
theorem ggL_law_L_save : GoodIn wsL_law wsL_save := goodIn_ca (goodIn_r _ [1273, 267, 1274, 1275, 1276, 2, 1277, 273, 274, 28, 16, 599, 1244, 1245, 1246, 1278, 1279, 1280, 27, 1281, 78, 80, 1282, 442, 443, 15, 444, 90, 91, 92, 93, 94, 95, 96, 45, 445, 446, 447, 35, 448, 105, 106, 107, 113, 108, 114, 115, 116, 49, 1338, 1339, 1340, 1341, 1342, 1343, 1366, 1367, 1368, 1369, 1370, 1371, 1372, 1373, 1381, 1382, 1385, 1386, 1387, 1388, 1389, 1390, 1391, 1392, 1393] (by decide +kernel) (by decide +kernel)) (goodIn_sub (fun _ h => List.mem_append_left _ (List.mem_append_right _ h)) (by decide +kernel))
set_option maxRecDepth 20000 in
theorem gL_law_L_save : GoodIn wsL_law (va_wsS RL 316 yL_save wsL_save) := goodIn_app (goodIn_of _ (by decide +kernel)) ggL_law_L_save
set_option maxRecDepth 20000 in
theorem ggL_law_X8_save : GoodIn wsL_law wsX8_save := goodIn_r _ [1286, 169, 166, 467, 468, 469, 5, 470, 247, 248, 249, 250, 251, 256, 257, 258, 259, 1344, 1345, 1346, 1347, 1348, 1349, 1350, 1351, 1352, 1353, 1354, 1355, 1356, 1357, 1358, 1359, 1360, 1361, 1362, 1363, 1364, 1365] (by decide +kernel) (by decide +kernel)
set_option maxRecDepth 20000 in
theorem gL_law_X8_save : GoodIn wsL_law (wsV RL 318 RX8 yX8_save wsX8_save) := goodIn_app (goodIn_of _ (by decide +kernel)) ggL_law_X8_save
set_option maxRecDepth 20000 in
theorem ggL_law_L_writeInstrument : GoodIn wsL_law wsL_writeInstrument := goodIn_ca (goodIn_r _ [1289, 267, 1290, 1291, 1292, 2, 1293, 32, 1294, 669, 16, 39, 670, 671, 672, 673, 273, 274, 674, 398, 399, 15, 400, 90, 45, 1295, 1296, 1297, 31, 1298, 1299, 85, 840, 841, 842, 843, 844, 158, 146, 143, 147, 845, 142, 144, 846, 818, 819, 820, 821, 822, 823, 93, 824, 763, 764, 765, 766, 129, 130, 131, 132, 133, 92, 134, 135, 136, 148, 149, 1300, 1301, 1302, 1303, 1304, 873, 874, 875, 876, 1176, 407, 408, 35, 409, 49, 1338, 1339, 1340, 1341, 1342, 1343, 1383, 1384, 1385, 1386, 1387, 1388, 1389, 1390, 1391, 1392, 1393, 1366, 1367, 1368, 1369, 1370, 1371, 1372, 1373] (by decide +kernel) (by decide +kernel)) (goodIn_sub (fun _ h => List.mem_append_left _ (List.mem_append_right _ h)) (by decide +kernel))
set_option maxRecDepth 20000 in
theorem gL_law_L_writeInstrument : GoodIn wsL_law (va_wsS RL 319 yL_writeInstrument wsL_writeInstrument) := goodIn_app (goodIn_of _ (by decide +kernel)) ggL_law_L_writeInstrument
set_option maxRecDepth 20000 in
theorem ggL_law_X8_writeInstrument : GoodIn wsL_law wsX8_writeInstrument := goodIn_r _ [1308, 1309, 166, 679, 680, 681, 5, 682, 468, 469, 470, 247, 248, 249, 250, 251, 200, 201, 202, 203, 181, 182, 183, 1310, 1311, 1312, 1313, 171, 1314, 1315, 1316, 1317, 851, 852, 853, 854, 829, 830, 831, 832, 771, 772, 773, 774, 208, 209, 210, 211, 164, 212, 213, 214, 215, 881, 882, 883, 884, 885, 886, 887, 888, 256, 257, 258, 259, 1344, 1345, 1346, 1347, 1348, 1349, 1350, 1351, 1352, 1353, 1354, 1355, 1356, 1357, 1358, 1359, 1360, 1361, 1362, 1363, 1364, 1365] (by decide +kernel) (by decide +kernel)
set_option maxRecDepth 20000 in
theorem gL_law_X8_writeInstrument : GoodIn wsL_law (wsV RL 321 RX8 yX8_writeInstrument wsX8_writeInstrument) := goodIn_app (goodIn_of _ (by decide +kernel)) ggL_law_X8_writeInstrument
set_option maxRecDepth 20000 in
theorem ggL_law_X7_writeReadings : GoodIn wsL_law wsX7_writeReadings := goodIn_r _ [1321, 32, 1294, 16, 279, 38, 1295, 1296, 1297, 31, 1298, 1299, 85, 840, 841, 842, 15, 843, 844, 158, 146, 143, 147, 845, 142, 144, 846, 818, 819, 820, 821, 822, 823, 93, 824, 763, 764, 765, 766, 129, 130, 131, 132, 133, 92, 134, 2, 135, 136, 148, 149, 1300, 1301, 1302, 1303, 1304, 1338, 1339, 1340, 1341, 1342, 1343, 1383, 1384, 1366, 1367, 1368, 1369, 1370, 1371, 1372, 1373, 1385, 1386, 1387, 1388, 1389, 1390, 1391, 1392, 1393] (by decide +kernel) (by decide +kernel)
set_option maxRecDepth 20000 in
theorem gL_law_X7_writeReadings : GoodIn wsL_law (wsV RL 322 RX7 yX7_writeReadings wsX7_writeReadings) := goodIn_app (goodIn_of _ (by decide +kernel)) ggL_law_X7_writeReadings
set_option maxRecDepth 20000 in
theorem ggL_law_X8_writeReadings : GoodIn wsL_law wsX8_writeReadings := goodIn_r _ [1325, 1309, 166, 1310, 1311, 1312, 5, 1313, 171, 1314, 1315, 1316, 1317, 851, 852, 853, 854, 829, 830, 831, 832, 200, 201, 202, 203, 181, 182, 183, 771, 772, 773, 774, 208, 209, 210, 211, 164, 212, 213, 214, 215, 256, 257, 258, 259, 251, 1344, 1345, 1346, 1347, 1348, 1349, 1350, 1351, 1352, 1353, 1354, 1355, 1356, 1357, 1358, 1359, 1360, 1361, 1362, 1363, 1364, 1365] (by decide +kernel) (by decide +kernel)
set_option maxRecDepth 20000 in
theorem gL_law_X8_writeReadings : GoodIn wsL_law (wsV RL 325 RX8 yX8_writeReadings wsX8_writeReadings) := goodIn_app (goodIn_of _ (by decide +kernel)) ggL_law_X8_writeReadings
set_option maxRecDepth 20000 in
theorem ggL_law_L_outputByte : GoodIn wsL_law wsL_outputByte := goodIn_ca (goodIn_r _ [1328, 267, 1329, 1330, 1331, 2, 1332, 273, 274, 32, 1294, 1333, 1338, 1339, 1340, 1341, 1342, 1343, 1383, 1384] (by decide +kernel) (by decide +kernel)) (goodIn_sub (fun _ h => List.mem_append_left _ (List.mem_append_right _ h)) (by decide +kernel))
set_option maxRecDepth 20000 in
theorem gL_law_L_outputByte : GoodIn wsL_law (va_wsS RL 326 yL_outputByte wsL_outputByte) := goodIn_app (goodIn_of _ (by decide +kernel)) ggL_law_L_outputByte
set_option maxRecDepth 20000 in
theorem ggL_law_X8_outputByte : GoodIn wsL_law wsX8_outputByte := goodIn_r _ [1337, 1309, 171, 468, 469, 5, 470, 247, 248, 249, 250, 251, 256, 257, 258, 259, 1344, 1345, 1346, 1347, 1348, 1349, 1350, 1351, 1352, 1353, 1354, 1355, 1356, 1357, 1358, 1359, 1360, 1361, 1362, 1363, 1364, 1365] (by decide +kernel) (by decide +kernel)
set_option maxRecDepth 20000 in
theorem gL_law_X8_outputByte : GoodIn wsL_law (wsV RL 328 RX8 yX8_outputByte wsX8_outputByte) := goodIn_app (goodIn_of _ (by decide +kernel)) ggL_law_X8_outputByte
