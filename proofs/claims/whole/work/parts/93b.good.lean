set_option maxRecDepth 20000 in
theorem ggL_law_X8_humidity : GoodIn wsL_law wsX8_humidity := goodIn_r _ [611, 166, 256, 257, 258, 5, 259, 251, 1344, 1345, 1346, 1347, 1348, 1349, 1350, 1351, 1352, 1353, 1354, 1355, 1356, 1357, 1358, 1359, 1360, 1361, 1362, 1363, 1364, 1365] (by decide +kernel) (by decide +kernel)
set_option maxRecDepth 20000 in
theorem gL_law_X8_humidity : GoodIn wsL_law (wsV RL 163 RX8 yX8_humidity wsX8_humidity) := goodIn_app (goodIn_of _ (by decide +kernel)) ggL_law_X8_humidity
set_option maxRecDepth 20000 in
theorem ggL_law_X7_temperature : GoodIn wsL_law wsX7_temperature := goodIn_r _ [615, 16, 616, 1338, 1339, 1340, 1341, 1342, 1343, 1366, 1367, 1368, 1369, 1370, 1371, 1372, 1373] (by decide +kernel) (by decide +kernel)
set_option maxRecDepth 20000 in
theorem gL_law_X7_temperature : GoodIn wsL_law (wsV RL 164 RX7 yX7_temperature wsX7_temperature) := goodIn_app (goodIn_of _ (by decide +kernel)) ggL_law_X7_temperature
set_option maxRecDepth 20000 in
theorem ggL_law_X8_temperature : GoodIn wsL_law wsX8_temperature := goodIn_r _ [620, 166, 256, 257, 258, 5, 259, 251, 1344, 1345, 1346, 1347, 1348, 1349, 1350, 1351, 1352, 1353, 1354, 1355, 1356, 1357, 1358, 1359, 1360, 1361, 1362, 1363, 1364, 1365] (by decide +kernel) (by decide +kernel)
set_option maxRecDepth 20000 in
theorem gL_law_X8_temperature : GoodIn wsL_law (wsV RL 167 RX8 yX8_temperature wsX8_temperature) := goodIn_app (goodIn_of _ (by decide +kernel)) ggL_law_X8_temperature
set_option maxRecDepth 20000 in
theorem ggL_law_X7_skill : GoodIn wsL_law wsX7_skill := goodIn_r _ [624, 16, 625, 1338, 1339, 1340, 1341, 1342, 1343, 1366, 1367, 1368, 1369, 1370, 1371, 1372, 1373] (by decide +kernel) (by decide +kernel)
set_option maxRecDepth 20000 in
theorem gL_law_X7_skill : GoodIn wsL_law (wsV RL 168 RX7 yX7_skill wsX7_skill) := goodIn_app (goodIn_of _ (by decide +kernel)) ggL_law_X7_skill
set_option maxRecDepth 20000 in
theorem ggL_law_X8_skill : GoodIn wsL_law wsX8_skill := goodIn_r _ [629, 166, 256, 257, 258, 5, 259, 251, 1344, 1345, 1346, 1347, 1348, 1349, 1350, 1351, 1352, 1353, 1354, 1355, 1356, 1357, 1358, 1359, 1360, 1361, 1362, 1363, 1364, 1365] (by decide +kernel) (by decide +kernel)
set_option maxRecDepth 20000 in
theorem gL_law_X8_skill : GoodIn wsL_law (wsV RL 171 RX8 yX8_skill wsX8_skill) := goodIn_app (goodIn_of _ (by decide +kernel)) ggL_law_X8_skill
set_option maxRecDepth 20000 in
theorem ggL_law_X7_hairStock : GoodIn wsL_law wsX7_hairStock := goodIn_r _ [633, 16, 634, 1338, 1339, 1340, 1341, 1342, 1343, 1366, 1367, 1368, 1369, 1370, 1371, 1372, 1373] (by decide +kernel) (by decide +kernel)
set_option maxRecDepth 20000 in
theorem gL_law_X7_hairStock : GoodIn wsL_law (wsV RL 172 RX7 yX7_hairStock wsX7_hairStock) := goodIn_app (goodIn_of _ (by decide +kernel)) ggL_law_X7_hairStock
set_option maxRecDepth 20000 in
theorem ggL_law_X8_hairStock : GoodIn wsL_law wsX8_hairStock := goodIn_r _ [638, 166, 256, 257, 258, 5, 259, 251, 1344, 1345, 1346, 1347, 1348, 1349, 1350, 1351, 1352, 1353, 1354, 1355, 1356, 1357, 1358, 1359, 1360, 1361, 1362, 1363, 1364, 1365] (by decide +kernel) (by decide +kernel)
set_option maxRecDepth 20000 in
theorem gL_law_X8_hairStock : GoodIn wsL_law (wsV RL 175 RX8 yX8_hairStock wsX8_hairStock) := goodIn_app (goodIn_of _ (by decide +kernel)) ggL_law_X8_hairStock
set_option maxRecDepth 20000 in
theorem ggL_law_L_fixedPoint : GoodIn wsL_law wsL_fixedPoint := goodIn_ca (goodIn_r _ [641, 268, 642, 643, 644, 2, 645, 275, 276, 646, 647, 648, 136, 649, 134, 135] (by decide +kernel) (by decide +kernel)) (goodIn_sub (fun _ h => List.mem_append_right _ h) (by decide +kernel))
set_option maxRecDepth 20000 in
theorem gL_law_L_fixedPoint : GoodIn wsL_law (va_wsS RL 176 yL_fixedPoint wsL_fixedPoint) := goodIn_app (goodIn_of _ (by decide +kernel)) ggL_law_L_fixedPoint
set_option maxRecDepth 20000 in
theorem ggL_law_X8_fixedPoint : GoodIn wsL_law wsX8_fixedPoint := goodIn_r _ [653, 164, 468, 469, 5, 470, 247, 248, 249, 250, 251, 256, 257, 258, 259, 1344, 1345, 1346, 1347, 1348, 1349, 1350, 1351, 1352, 1353, 1354, 1355, 1356, 1357, 1358, 1359, 1360, 1361, 1362, 1363, 1364, 1365] (by decide +kernel) (by decide +kernel)
set_option maxRecDepth 20000 in
theorem gL_law_X8_fixedPoint : GoodIn wsL_law (wsV RL 178 RX8 yX8_fixedPoint wsX8_fixedPoint) := goodIn_app (goodIn_of _ (by decide +kernel)) ggL_law_X8_fixedPoint
set_option maxRecDepth 20000 in
theorem ggL_law_X7_instrumentCount : GoodIn wsL_law wsX7_instrumentCount := goodIn_r _ [657, 16, 279, 1338, 1339, 1340, 1341, 1342, 1343, 1366, 1367, 1368, 1369, 1370, 1371, 1372, 1373] (by decide +kernel) (by decide +kernel)
set_option maxRecDepth 20000 in
theorem gL_law_X7_instrumentCount : GoodIn wsL_law (wsV RL 179 RX7 yX7_instrumentCount wsX7_instrumentCount) := goodIn_app (goodIn_of _ (by decide +kernel)) ggL_law_X7_instrumentCount
set_option maxRecDepth 20000 in
theorem ggL_law_X8_instrumentCount : GoodIn wsL_law wsX8_instrumentCount := goodIn_r _ [661, 166, 256, 257, 258, 5, 259, 251, 1344, 1345, 1346, 1347, 1348, 1349, 1350, 1351, 1352, 1353, 1354, 1355, 1356, 1357, 1358, 1359, 1360, 1361, 1362, 1363, 1364, 1365] (by decide +kernel) (by decide +kernel)
set_option maxRecDepth 20000 in
theorem gL_law_X8_instrumentCount : GoodIn wsL_law (wsV RL 182 RX8 yX8_instrumentCount wsX8_instrumentCount) := goodIn_app (goodIn_of _ (by decide +kernel)) ggL_law_X8_instrumentCount
set_option maxRecDepth 20000 in
theorem ggL_law_L_isHair : GoodIn wsL_law wsL_isHair := goodIn_ca (goodIn_r _ [664, 267, 665, 666, 667, 2, 668, 669, 670, 671, 672, 673, 273, 274, 16, 674, 398, 399, 15, 400, 90, 45, 1385, 1386, 1387, 1388, 1389, 1390, 1391, 1392, 1393, 1338, 1339, 1340, 1341, 1342, 1343, 1366, 1367, 1368, 1369, 1370, 1371, 1372, 1373] (by decide +kernel) (by decide +kernel)) (goodIn_sub (fun _ h => List.mem_append_left _ (List.mem_append_right _ h)) (by decide +kernel))
set_option maxRecDepth 20000 in
theorem gL_law_L_isHair : GoodIn wsL_law (va_wsS RL 183 yL_isHair wsL_isHair) := goodIn_app (goodIn_of _ (by decide +kernel)) ggL_law_L_isHair
set_option maxRecDepth 20000 in
theorem ggL_law_X8_isHair : GoodIn wsL_law wsX8_isHair := goodIn_r _ [678, 679, 680, 681, 5, 682, 166, 468, 469, 470, 683, 684, 685, 686, 251, 200, 201, 202, 203, 181, 182, 183, 687, 688, 689, 690, 1344, 1345, 1346, 1347, 1348, 1349, 1350, 1351, 1352, 1353, 1354, 1355, 1356, 1357, 1358, 1359, 1360, 1361, 1362, 1363, 1364, 1365] (by decide +kernel) (by decide +kernel)
set_option maxRecDepth 20000 in
theorem gL_law_X8_isHair : GoodIn wsL_law (wsV RL 185 RX8 yX8_isHair wsX8_isHair) := goodIn_app (goodIn_of _ (by decide +kernel)) ggL_law_X8_isHair
set_option maxRecDepth 20000 in
theorem ggL_law_L_hairsOf : GoodIn wsL_law wsL_hairsOf := goodIn_ca (goodIn_r _ [693, 267, 694, 695, 696, 2, 697, 669, 698, 670, 671, 672, 673, 273, 274, 16, 674, 398, 399, 15, 400, 90, 45, 1385, 1386, 1387, 1388, 1389, 1390, 1391, 1392, 1393, 1338, 1339, 1340, 1341, 1342, 1343, 1366, 1367, 1368, 1369, 1370, 1371, 1372, 1373] (by decide +kernel) (by decide +kernel)) (goodIn_sub (fun _ h => List.mem_append_left _ (List.mem_append_right _ h)) (by decide +kernel))
set_option maxRecDepth 20000 in
theorem gL_law_L_hairsOf : GoodIn wsL_law (va_wsS RL 186 yL_hairsOf wsL_hairsOf) := goodIn_app (goodIn_of _ (by decide +kernel)) ggL_law_L_hairsOf
