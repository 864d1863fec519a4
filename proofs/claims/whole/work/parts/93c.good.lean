set_option maxRecDepth 20000 in
theorem ggL_law_X8_hairsOf : GoodIn wsL_law wsX8_hairsOf := goodIn_r _ [702, 703, 704, 705, 5, 706, 166, 679, 680, 681, 682, 468, 469, 470, 247, 248, 249, 250, 251, 200, 201, 202, 203, 181, 182, 183, 256, 257, 258, 259, 1344, 1345, 1346, 1347, 1348, 1349, 1350, 1351, 1352, 1353, 1354, 1355, 1356, 1357, 1358, 1359, 1360, 1361, 1362, 1363, 1364, 1365] (by decide +kernel) (by decide +kernel)
set_option maxRecDepth 20000 in
theorem gL_law_X8_hairsOf : GoodIn wsL_law (wsV RL 188 RX8 yX8_hairsOf wsX8_hairsOf) := goodIn_app (goodIn_of _ (by decide +kernel)) ggL_law_X8_hairsOf
set_option maxRecDepth 20000 in
theorem ggL_law_L_brokenOf : GoodIn wsL_law wsL_brokenOf := goodIn_ca (goodIn_r _ [709, 267, 710, 711, 712, 2, 713, 669, 714, 670, 671, 672, 673, 273, 274, 16, 674, 398, 399, 15, 400, 90, 45, 1385, 1386, 1387, 1388, 1389, 1390, 1391, 1392, 1393, 1338, 1339, 1340, 1341, 1342, 1343, 1366, 1367, 1368, 1369, 1370, 1371, 1372, 1373] (by decide +kernel) (by decide +kernel)) (goodIn_sub (fun _ h => List.mem_append_left _ (List.mem_append_right _ h)) (by decide +kernel))
set_option maxRecDepth 20000 in
theorem gL_law_L_brokenOf : GoodIn wsL_law (va_wsS RL 189 yL_brokenOf wsL_brokenOf) := goodIn_app (goodIn_of _ (by decide +kernel)) ggL_law_L_brokenOf
set_option maxRecDepth 20000 in
theorem ggL_law_X8_brokenOf : GoodIn wsL_law wsX8_brokenOf := goodIn_r _ [718, 703, 704, 705, 5, 706, 166, 679, 680, 681, 682, 468, 469, 470, 247, 248, 249, 250, 251, 200, 201, 202, 203, 181, 182, 183, 256, 257, 258, 259, 1344, 1345, 1346, 1347, 1348, 1349, 1350, 1351, 1352, 1353, 1354, 1355, 1356, 1357, 1358, 1359, 1360, 1361, 1362, 1363, 1364, 1365] (by decide +kernel) (by decide +kernel)
set_option maxRecDepth 20000 in
theorem gL_law_X8_brokenOf : GoodIn wsL_law (wsV RL 191 RX8 yX8_brokenOf wsX8_brokenOf) := goodIn_app (goodIn_of _ (by decide +kernel)) ggL_law_X8_brokenOf
set_option maxRecDepth 20000 in
theorem ggL_law_L_wetnessOf : GoodIn wsL_law wsL_wetnessOf := goodIn_ca (goodIn_r _ [721, 267, 722, 723, 724, 2, 725, 669, 726, 670, 671, 672, 673, 273, 274, 16, 674, 398, 399, 15, 400, 90, 45, 1385, 1386, 1387, 1388, 1389, 1390, 1391, 1392, 1393, 1338, 1339, 1340, 1341, 1342, 1343, 1366, 1367, 1368, 1369, 1370, 1371, 1372, 1373] (by decide +kernel) (by decide +kernel)) (goodIn_sub (fun _ h => List.mem_append_left _ (List.mem_append_right _ h)) (by decide +kernel))
set_option maxRecDepth 20000 in
theorem gL_law_L_wetnessOf : GoodIn wsL_law (va_wsS RL 192 yL_wetnessOf wsL_wetnessOf) := goodIn_app (goodIn_of _ (by decide +kernel)) ggL_law_L_wetnessOf
set_option maxRecDepth 20000 in
theorem ggL_law_X8_wetnessOf : GoodIn wsL_law wsX8_wetnessOf := goodIn_r _ [730, 703, 704, 705, 5, 706, 166, 679, 680, 681, 682, 468, 469, 470, 247, 248, 249, 250, 251, 200, 201, 202, 203, 181, 182, 183, 256, 257, 258, 259, 1344, 1345, 1346, 1347, 1348, 1349, 1350, 1351, 1352, 1353, 1354, 1355, 1356, 1357, 1358, 1359, 1360, 1361, 1362, 1363, 1364, 1365] (by decide +kernel) (by decide +kernel)
set_option maxRecDepth 20000 in
theorem gL_law_X8_wetnessOf : GoodIn wsL_law (wsV RL 194 RX8 yX8_wetnessOf wsX8_wetnessOf) := goodIn_app (goodIn_of _ (by decide +kernel)) ggL_law_X8_wetnessOf
set_option maxRecDepth 20000 in
theorem ggL_law_L_slackOf : GoodIn wsL_law wsL_slackOf := goodIn_ca (goodIn_r _ [733, 267, 734, 735, 736, 2, 737, 669, 738, 670, 671, 672, 673, 273, 274, 16, 674, 398, 399, 15, 400, 90, 45, 1385, 1386, 1387, 1388, 1389, 1390, 1391, 1392, 1393, 1338, 1339, 1340, 1341, 1342, 1343, 1366, 1367, 1368, 1369, 1370, 1371, 1372, 1373] (by decide +kernel) (by decide +kernel)) (goodIn_sub (fun _ h => List.mem_append_left _ (List.mem_append_right _ h)) (by decide +kernel))
set_option maxRecDepth 20000 in
theorem gL_law_L_slackOf : GoodIn wsL_law (va_wsS RL 195 yL_slackOf wsL_slackOf) := goodIn_app (goodIn_of _ (by decide +kernel)) ggL_law_L_slackOf
set_option maxRecDepth 20000 in
theorem ggL_law_X8_slackOf : GoodIn wsL_law wsX8_slackOf := goodIn_r _ [742, 703, 704, 705, 5, 706, 166, 679, 680, 681, 682, 468, 469, 470, 247, 248, 249, 250, 251, 200, 201, 202, 203, 181, 182, 183, 256, 257, 258, 259, 1344, 1345, 1346, 1347, 1348, 1349, 1350, 1351, 1352, 1353, 1354, 1355, 1356, 1357, 1358, 1359, 1360, 1361, 1362, 1363, 1364, 1365] (by decide +kernel) (by decide +kernel)
set_option maxRecDepth 20000 in
theorem gL_law_X8_slackOf : GoodIn wsL_law (wsV RL 197 RX8 yX8_slackOf wsX8_slackOf) := goodIn_app (goodIn_of _ (by decide +kernel)) ggL_law_X8_slackOf
set_option maxRecDepth 20000 in
theorem ggL_law_L_waterOf : GoodIn wsL_law wsL_waterOf := goodIn_ca (goodIn_r _ [745, 267, 746, 747, 748, 2, 749, 669, 750, 670, 671, 672, 673, 273, 274, 16, 674, 398, 399, 15, 400, 90, 45, 1385, 1386, 1387, 1388, 1389, 1390, 1391, 1392, 1393, 1338, 1339, 1340, 1341, 1342, 1343, 1366, 1367, 1368, 1369, 1370, 1371, 1372, 1373] (by decide +kernel) (by decide +kernel)) (goodIn_sub (fun _ h => List.mem_append_left _ (List.mem_append_right _ h)) (by decide +kernel))
set_option maxRecDepth 20000 in
theorem gL_law_L_waterOf : GoodIn wsL_law (va_wsS RL 198 yL_waterOf wsL_waterOf) := goodIn_app (goodIn_of _ (by decide +kernel)) ggL_law_L_waterOf
set_option maxRecDepth 20000 in
theorem ggL_law_X8_waterOf : GoodIn wsL_law wsX8_waterOf := goodIn_r _ [754, 703, 704, 705, 5, 706, 166, 679, 680, 681, 682, 468, 469, 470, 247, 248, 249, 250, 251, 200, 201, 202, 203, 181, 182, 183, 256, 257, 258, 259, 1344, 1345, 1346, 1347, 1348, 1349, 1350, 1351, 1352, 1353, 1354, 1355, 1356, 1357, 1358, 1359, 1360, 1361, 1362, 1363, 1364, 1365] (by decide +kernel) (by decide +kernel)
set_option maxRecDepth 20000 in
theorem gL_law_X8_waterOf : GoodIn wsL_law (wsV RL 200 RX8 yX8_waterOf wsX8_waterOf) := goodIn_app (goodIn_of _ (by decide +kernel)) ggL_law_X8_waterOf
set_option maxRecDepth 20000 in
theorem ggL_law_L_depressionOf : GoodIn wsL_law wsL_depressionOf := goodIn_ca (goodIn_r _ [757, 267, 758, 759, 760, 2, 761, 669, 16, 670, 671, 672, 673, 273, 274, 674, 398, 399, 15, 400, 90, 45, 762, 763, 764, 765, 766, 93, 129, 130, 131, 132, 133, 92, 134, 135, 136, 1385, 1386, 1387, 1388, 1389, 1390, 1391, 1392, 1393, 1338, 1339, 1340, 1341, 1342, 1343, 1366, 1367, 1368, 1369, 1370, 1371, 1372, 1373] (by decide +kernel) (by decide +kernel)) (goodIn_sub (fun _ h => List.mem_append_left _ (List.mem_append_right _ h)) (by decide +kernel))
set_option maxRecDepth 20000 in
theorem gL_law_L_depressionOf : GoodIn wsL_law (va_wsS RL 201 yL_depressionOf wsL_depressionOf) := goodIn_app (goodIn_of _ (by decide +kernel)) ggL_law_L_depressionOf
set_option maxRecDepth 20000 in
theorem ggL_law_X8_depressionOf : GoodIn wsL_law wsX8_depressionOf := goodIn_r _ [770, 679, 680, 681, 5, 682, 166, 468, 469, 470, 247, 248, 249, 250, 251, 200, 201, 202, 203, 181, 182, 183, 256, 257, 258, 259, 771, 772, 773, 774, 208, 209, 210, 211, 164, 212, 213, 214, 215, 1344, 1345, 1346, 1347, 1348, 1349, 1350, 1351, 1352, 1353, 1354, 1355, 1356, 1357, 1358, 1359, 1360, 1361, 1362, 1363, 1364, 1365] (by decide +kernel) (by decide +kernel)
set_option maxRecDepth 20000 in
theorem gL_law_X8_depressionOf : GoodIn wsL_law (wsV RL 203 RX8 yX8_depressionOf wsX8_depressionOf) := goodIn_app (goodIn_of _ (by decide +kernel)) ggL_law_X8_depressionOf
set_option maxRecDepth 20000 in
theorem ggL_law_L_zeroOf : GoodIn wsL_law wsL_zeroOf := goodIn_ca (goodIn_r _ [777, 267, 778, 779, 780, 2, 781, 782, 670, 671, 672, 673, 273, 274, 16, 674, 398, 399, 15, 400, 90, 45, 1385, 1386, 1387, 1388, 1389, 1390, 1391, 1392, 1393, 1338, 1339, 1340, 1341, 1342, 1343, 1366, 1367, 1368, 1369, 1370, 1371, 1372, 1373] (by decide +kernel) (by decide +kernel)) (goodIn_sub (fun _ h => List.mem_append_left _ (List.mem_append_right _ h)) (by decide +kernel))
set_option maxRecDepth 20000 in
theorem gL_law_L_zeroOf : GoodIn wsL_law (va_wsS RL 204 yL_zeroOf wsL_zeroOf) := goodIn_app (goodIn_of _ (by decide +kernel)) ggL_law_L_zeroOf
set_option maxRecDepth 20000 in
theorem ggL_law_X8_zeroOf : GoodIn wsL_law wsX8_zeroOf := goodIn_r _ [786, 166, 679, 680, 681, 5, 682, 468, 469, 470, 247, 248, 249, 250, 251, 181, 182, 183, 256, 257, 258, 259, 1344, 1345, 1346, 1347, 1348, 1349, 1350, 1351, 1352, 1353, 1354, 1355, 1356, 1357, 1358, 1359, 1360, 1361, 1362, 1363, 1364, 1365] (by decide +kernel) (by decide +kernel)
set_option maxRecDepth 20000 in
theorem gL_law_X8_zeroOf : GoodIn wsL_law (wsV RL 206 RX8 yX8_zeroOf wsX8_zeroOf) := goodIn_app (goodIn_of _ (by decide +kernel)) ggL_law_X8_zeroOf
set_option maxRecDepth 20000 in
theorem ggL_law_L_boxOf : GoodIn wsL_law wsL_boxOf := goodIn_ca (goodIn_r _ [789, 267, 790, 791, 792, 2, 793, 39, 670, 671, 672, 673, 273, 274, 16, 674, 398, 399, 15, 400, 90, 45, 1385, 1386, 1387, 1388, 1389, 1390, 1391, 1392, 1393, 1338, 1339, 1340, 1341, 1342, 1343, 1366, 1367, 1368, 1369, 1370, 1371, 1372, 1373] (by decide +kernel) (by decide +kernel)) (goodIn_sub (fun _ h => List.mem_append_left _ (List.mem_append_right _ h)) (by decide +kernel))
set_option maxRecDepth 20000 in
theorem gL_law_L_boxOf : GoodIn wsL_law (va_wsS RL 207 yL_boxOf wsL_boxOf) := goodIn_app (goodIn_of _ (by decide +kernel)) ggL_law_L_boxOf
