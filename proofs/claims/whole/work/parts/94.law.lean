set_option maxRecDepth 20000 in
theorem ggL_law_X10_turn : GoodIn wsL_law wsX10_turn := goodIn_r _ [530, 25, 355, 26, 502, 503, 504, 24, 505, 72, 506, 257, 258, 259, 73, 171, 531, 532, 533, 534, 1251, 1252, 1253, 1254, 1255, 1256, 1257, 1258, 1259, 1260, 1261, 1262, 1263, 1339, 1340, 1341] (by decide +kernel) (by decide +kernel)
set_option maxRecDepth 20000 in
theorem gL_law_X10_turn : GoodIn wsL_law (wsV RL 97 RX10 yX10_turn wsX10_turn) := goodIn_app (goodIn_of _ (by decide +kernel)) ggL_law_X10_turn
set_option maxRecDepth 20000 in
theorem ggL_law_X11_turn : GoodIn wsL_law wsX11_turn := goodIn_r _ [538, 124, 125, 148, 149, 126, 279, 280, 5, 281, 1264, 1265, 1266, 1267, 1268, 1269, 1270, 1271, 1272, 1273, 1274, 1275, 1276, 1277, 1278, 1279, 1280, 1281, 1282, 1283, 1284, 1285, 1286, 1287, 1288, 1289, 1290, 1291, 1292, 1293, 1294, 1295, 1296, 1297, 1298, 1299, 1300, 1301, 1302, 1303, 1304, 1305, 1306, 1307, 1308, 1309, 1310, 1311, 1312, 1313, 1314, 1315, 1316, 1317, 1318, 1319, 1320, 1321, 1322, 1323, 1324, 1325] (by decide +kernel) (by decide +kernel)
set_option maxRecDepth 20000 in
theorem gL_law_X11_turn : GoodIn wsL_law (wsV RL 100 RX11 yX11_turn wsX11_turn) := goodIn_app (goodIn_of _ (by decide +kernel)) ggL_law_X11_turn
set_option maxRecDepth 20000 in
theorem ggL_law_X10_side : GoodIn wsL_law wsX10_side := goodIn_r _ [542, 31, 157, 543, 1251, 1252, 1253, 1254, 1255, 1256, 1257, 1258, 1259, 1260, 1261, 1262, 1263, 1342, 1343, 1344, 1345, 1346] (by decide +kernel) (by decide +kernel)
set_option maxRecDepth 20000 in
theorem gL_law_X10_side : GoodIn wsL_law (wsV RL 101 RX10 yX10_side wsX10_side) := goodIn_app (goodIn_of _ (by decide +kernel)) ggL_law_X10_side
set_option maxRecDepth 20000 in
theorem ggL_law_X11_side : GoodIn wsL_law wsX11_side := goodIn_r _ [547, 184, 127, 279, 280, 5, 281, 1264, 1265, 1266, 1267, 1268, 1269, 1270, 1271, 1272, 1273, 1274, 1275, 1276, 1277, 1278, 1279, 1280, 1281, 1282, 1283, 1284, 1285, 1286, 1287, 1288, 1289, 1290, 1291, 1292, 1293, 1294, 1295, 1296, 1297, 1298, 1299, 1300, 1301, 1302, 1303, 1304, 1305, 1306, 1307, 1308, 1309, 1310, 1311, 1312, 1313, 1314, 1315, 1316, 1317, 1318, 1319, 1320, 1321, 1322, 1323, 1324, 1325] (by decide +kernel) (by decide +kernel)
set_option maxRecDepth 20000 in
theorem gL_law_X11_side : GoodIn wsL_law (wsV RL 104 RX11 yX11_side wsX11_side) := goodIn_app (goodIn_of _ (by decide +kernel)) ggL_law_X11_side
set_option maxRecDepth 20000 in
theorem ggL_law_X10_sideless : GoodIn wsL_law wsX10_sideless := goodIn_r _ [551, 31, 157, 1251, 1252, 1253, 1254, 1255, 1256, 1257, 1258, 1259, 1260, 1261, 1262, 1263, 1342, 1343, 1344, 1345, 1346] (by decide +kernel) (by decide +kernel)
set_option maxRecDepth 20000 in
theorem gL_law_X10_sideless : GoodIn wsL_law (wsV RL 105 RX10 yX10_sideless wsX10_sideless) := goodIn_app (goodIn_of _ (by decide +kernel)) ggL_law_X10_sideless
set_option maxRecDepth 20000 in
theorem ggL_law_X11_sideless : GoodIn wsL_law wsX11_sideless := goodIn_r _ [555, 184, 1264, 1265, 1266, 1267, 1268, 1269, 1270, 1271, 1272, 1273, 1274, 1275, 1276, 1277, 1278, 1279, 1280, 1281, 1282, 1283, 1284, 1285, 1286, 1287, 1288, 1289, 1290, 1291, 1292, 1293, 1294, 1295, 1296, 1297, 1298, 1299, 1300, 1301, 1302, 1303, 1304, 1305, 1306, 1307, 1308, 1309, 1310, 1311, 1312, 1313, 1314, 1315, 1316, 1317, 1318, 1319, 1320, 1321, 1322, 1323, 1324, 1325] (by decide +kernel) (by decide +kernel)
set_option maxRecDepth 20000 in
theorem gL_law_X11_sideless : GoodIn wsL_law (wsV RL 108 RX11 yX11_sideless wsX11_sideless) := goodIn_app (goodIn_of _ (by decide +kernel)) ggL_law_X11_sideless
set_option maxRecDepth 20000 in
theorem ggL_law_L_hem : GoodIn wsL_law wsL_hem := goodIn_ca (goodIn_ca (goodIn_r _ [558, 318, 319, 559, 560, 561, 2, 562, 324, 325, 326, 327, 31, 25, 563, 564, 565, 566, 567, 568, 30, 569, 570, 77, 571, 371, 367, 372, 572, 573, 574, 575, 576, 424, 425, 24, 426, 171, 73, 577, 578, 579, 580, 581, 582, 583, 584, 585, 586, 587, 588, 589, 590, 389, 390, 391, 242, 243, 591, 592, 593, 594, 595, 366, 368, 1251, 1252, 1253, 1254, 1255, 1256, 1257, 1258, 1259, 1260, 1261, 1262, 1263, 1342, 1343, 1344, 1345, 1346, 1339, 1340, 1341] (by decide +kernel) (by decide +kernel)) (goodIn_sub (fun _ h => List.mem_append_left _ (List.mem_append_right _ h)) (by decide +kernel))) (goodIn_sub (fun _ h => List.mem_append_right _ h) (by decide +kernel))
set_option maxRecDepth 20000 in
theorem gL_law_L_hem : GoodIn wsL_law (va_wsS RL 109 yL_hem wsL_hem) := goodIn_app (goodIn_of _ (by decide +kernel)) ggL_law_L_hem
set_option maxRecDepth 20000 in
theorem ggL_law_X11_hem : GoodIn wsL_law wsX11_hem := goodIn_r _ [599, 184, 334, 124, 279, 280, 5, 281, 600, 601, 602, 603, 450, 451, 452, 453, 126, 604, 605, 606, 607, 127, 404, 405, 406, 608, 609, 610, 611, 612, 613, 614, 615, 616, 617, 618, 619, 411, 412, 413, 1264, 1265, 1266, 1267, 1268, 1269, 1270, 1271, 1272, 1273, 1274, 1275, 1276, 1277, 1278, 1279, 1280, 1281, 1282, 1283, 1284, 1285, 1286, 1287, 1288, 1289, 1290, 1291, 1292, 1293, 1294, 1295, 1296, 1297, 1298, 1299, 1300, 1301, 1302, 1303, 1304, 1305, 1306, 1307, 1308, 1309, 1310, 1311, 1312, 1313, 1314, 1315, 1316, 1317, 1318, 1319, 1320, 1321, 1322, 1323, 1324, 1325] (by decide +kernel) (by decide +kernel)
set_option maxRecDepth 20000 in
theorem gL_law_X11_hem : GoodIn wsL_law (wsV RL 111 RX11 yX11_hem wsX11_hem) := goodIn_app (goodIn_of _ (by decide +kernel)) ggL_law_X11_hem
set_option maxRecDepth 20000 in
theorem ggL_law_L_fed : GoodIn wsL_law wsL_fed := goodIn_ca (goodIn_r _ [622, 319, 623, 624, 625, 2, 626, 326, 327, 31, 25, 565, 566, 567, 568, 30, 569, 570, 77, 571, 371, 367, 372, 572, 573, 574, 575, 576, 424, 425, 24, 426, 171, 73, 627, 582, 583, 584, 585, 586, 587, 588, 589, 590, 389, 390, 391, 1251, 1252, 1253, 1254, 1255, 1256, 1257, 1258, 1259, 1260, 1261, 1262, 1263, 1342, 1343, 1344, 1345, 1346, 1339, 1340, 1341] (by decide +kernel) (by decide +kernel)) (goodIn_sub (fun _ h => List.mem_append_right _ h) (by decide +kernel))
set_option maxRecDepth 20000 in
theorem gL_law_L_fed : GoodIn wsL_law (va_wsS RL 112 yL_fed wsL_fed) := goodIn_app (goodIn_of _ (by decide +kernel)) ggL_law_L_fed
set_option maxRecDepth 20000 in
theorem ggL_law_X11_fed : GoodIn wsL_law wsX11_fed := goodIn_r _ [631, 184, 124, 334, 279, 280, 5, 281, 600, 601, 602, 603, 450, 451, 452, 453, 126, 604, 605, 606, 607, 127, 404, 405, 406, 632, 633, 634, 635, 608, 609, 610, 611, 616, 617, 618, 619, 411, 412, 413, 1264, 1265, 1266, 1267, 1268, 1269, 1270, 1271, 1272, 1273, 1274, 1275, 1276, 1277, 1278, 1279, 1280, 1281, 1282, 1283, 1284, 1285, 1286, 1287, 1288, 1289, 1290, 1291, 1292, 1293, 1294, 1295, 1296, 1297, 1298, 1299, 1300, 1301, 1302, 1303, 1304, 1305, 1306, 1307, 1308, 1309, 1310, 1311, 1312, 1313, 1314, 1315, 1316, 1317, 1318, 1319, 1320, 1321, 1322, 1323, 1324, 1325] (by decide +kernel) (by decide +kernel)
set_option maxRecDepth 20000 in
theorem gL_law_X11_fed : GoodIn wsL_law (wsV RL 114 RX11 yX11_fed wsX11_fed) := goodIn_app (goodIn_of _ (by decide +kernel)) ggL_law_X11_fed
set_option maxRecDepth 20000 in
theorem ggL_law_X10_meets : GoodIn wsL_law wsX10_meets := goodIn_r _ [639, 31, 157, 25, 566, 567, 568, 30, 569, 570, 77, 571, 371, 367, 372, 572, 573, 574, 575, 576, 424, 425, 24, 426, 171, 73, 577, 578, 579, 580, 581, 582, 583, 584, 585, 586, 587, 588, 589, 590, 389, 390, 391, 242, 2, 243, 1251, 1252, 1253, 1254, 1255, 1256, 1257, 1258, 1259, 1260, 1261, 1262, 1263, 1342, 1343, 1344, 1345, 1346, 1339, 1340, 1341] (by decide +kernel) (by decide +kernel)
set_option maxRecDepth 20000 in
theorem gL_law_X10_meets : GoodIn wsL_law (wsV RL 115 RX10 yX10_meets wsX10_meets) := goodIn_app (goodIn_of _ (by decide +kernel)) ggL_law_X10_meets
set_option maxRecDepth 20000 in
theorem ggL_law_X11_meets : GoodIn wsL_law wsX11_meets := goodIn_r _ [643, 184, 600, 601, 602, 5, 603, 124, 450, 451, 452, 453, 126, 612, 613, 614, 615, 604, 605, 606, 607, 127, 404, 405, 406, 608, 609, 610, 611, 616, 617, 618, 619, 411, 412, 413, 279, 280, 281, 1264, 1265, 1266, 1267, 1268, 1269, 1270, 1271, 1272, 1273, 1274, 1275, 1276, 1277, 1278, 1279, 1280, 1281, 1282, 1283, 1284, 1285, 1286, 1287, 1288, 1289, 1290, 1291, 1292, 1293, 1294, 1295, 1296, 1297, 1298, 1299, 1300, 1301, 1302, 1303, 1304, 1305, 1306, 1307, 1308, 1309, 1310, 1311, 1312, 1313, 1314, 1315, 1316, 1317, 1318, 1319, 1320, 1321, 1322, 1323, 1324, 1325] (by decide +kernel) (by decide +kernel)
set_option maxRecDepth 20000 in
theorem gL_law_X11_meets : GoodIn wsL_law (wsV RL 118 RX11 yX11_meets wsX11_meets) := goodIn_app (goodIn_of _ (by decide +kernel)) ggL_law_X11_meets
set_option maxRecDepth 20000 in
theorem ggL_law_X10_feeds : GoodIn wsL_law wsX10_feeds := goodIn_r _ [647, 31, 25, 565, 53, 648, 200, 201, 2, 202, 566, 567, 568, 30, 569, 570, 77, 571, 371, 367, 372, 572, 573, 574, 575, 576, 424, 425, 24, 426, 171, 73, 649, 650, 651, 55, 652, 653, 654, 115, 655, 656, 657, 658, 627, 582, 583, 584, 585, 586, 587, 588, 589, 590, 389, 390, 391, 1251, 1252, 1253, 1254, 1255, 1256, 1257, 1258, 1259, 1260, 1261, 1262, 1263, 1342, 1343, 1344, 1345, 1346, 1378, 1379, 1380, 1381, 1339, 1340, 1341] (by decide +kernel) (by decide +kernel)
set_option maxRecDepth 20000 in
theorem gL_law_X10_feeds : GoodIn wsL_law (wsV RL 119 RX10 yX10_feeds wsX10_feeds) := goodIn_app (goodIn_of _ (by decide +kernel)) ggL_law_X10_feeds
set_option maxRecDepth 20000 in
theorem ggL_law_X11_feeds : GoodIn wsL_law wsX11_feeds := goodIn_r _ [662, 184, 124, 143, 276, 277, 5, 278, 279, 280, 281, 600, 601, 602, 603, 450, 451, 452, 453, 126, 604, 605, 606, 607, 127, 404, 405, 406, 663, 664, 665, 666, 141, 142, 632, 633, 634, 635, 608, 609, 610, 611, 616, 617, 618, 619, 411, 412, 413, 1264, 1265, 1266, 1267, 1268, 1269, 1270, 1271, 1272, 1273, 1274, 1275, 1276, 1277, 1278, 1279, 1280, 1281, 1282, 1283, 1284, 1285, 1286, 1287, 1288, 1289, 1290, 1291, 1292, 1293, 1294, 1295, 1296, 1297, 1298, 1299, 1300, 1301, 1302, 1303, 1304, 1305, 1306, 1307, 1308, 1309, 1310, 1311, 1312, 1313, 1314, 1315, 1316, 1317, 1318, 1319, 1320, 1321, 1322, 1323, 1324, 1325] (by decide +kernel) (by decide +kernel)
set_option maxRecDepth 20000 in
theorem gL_law_X11_feeds : GoodIn wsL_law (wsV RL 122 RX11 yX11_feeds wsX11_feeds) := goodIn_app (goodIn_of _ (by decide +kernel)) ggL_law_X11_feeds
set_option maxRecDepth 20000 in
theorem ggL_law_X10_judge : GoodIn wsL_law wsX10_judge := goodIn_r _ [670, 31, 25, 53, 200, 201, 2, 202, 566, 567, 568, 30, 569, 570, 77, 571, 371, 367, 372, 572, 573, 574, 575, 576, 424, 425, 24, 426, 171, 73, 195, 196, 197, 198, 199, 671, 672, 673, 674, 675, 676, 585, 677, 592, 593, 594, 595, 366, 368, 242, 243, 203, 204, 205, 206, 160, 1251, 1252, 1253, 1254, 1255, 1256, 1257, 1258, 1259, 1260, 1261, 1262, 1263, 1342, 1343, 1344, 1345, 1346, 1339, 1340, 1341, 1378, 1379, 1380, 1381] (by decide +kernel) (by decide +kernel)
set_option maxRecDepth 20000 in
theorem gL_law_X10_judge : GoodIn wsL_law (wsV RL 123 RX10 yX10_judge wsX10_judge) := goodIn_app (goodIn_of _ (by decide +kernel)) ggL_law_X10_judge
set_option maxRecDepth 20000 in
theorem ggL_law_X11_judge : GoodIn wsL_law wsX11_judge := goodIn_r _ [681, 184, 141, 124, 142, 143, 126, 127, 276, 277, 5, 278, 279, 280, 281, 600, 601, 602, 603, 450, 451, 452, 453, 282, 283, 284, 285, 188, 604, 605, 606, 607, 404, 405, 406, 612, 613, 614, 615, 608, 609, 610, 611, 616, 617, 618, 619, 411, 412, 413, 1264, 1265, 1266, 1267, 1268, 1269, 1270, 1271, 1272, 1273, 1274, 1275, 1276, 1277, 1278, 1279, 1280, 1281, 1282, 1283, 1284, 1285, 1286, 1287, 1288, 1289, 1290, 1291, 1292, 1293, 1294, 1295, 1296, 1297, 1298, 1299, 1300, 1301, 1302, 1303, 1304, 1305, 1306, 1307, 1308, 1309, 1310, 1311, 1312, 1313, 1314, 1315, 1316, 1317, 1318, 1319, 1320, 1321, 1322, 1323, 1324, 1325] (by decide +kernel) (by decide +kernel)
set_option maxRecDepth 20000 in
theorem gL_law_X11_judge : GoodIn wsL_law (wsV RL 126 RX11 yX11_judge wsX11_judge) := goodIn_app (goodIn_of _ (by decide +kernel)) ggL_law_X11_judge
set_option maxRecDepth 20000 in
theorem ggL_law_X10_cloth : GoodIn wsL_law wsX10_cloth := goodIn_r _ [685, 35, 686, 1251, 1252, 1253, 1254, 1255, 1256, 1257, 1258, 1259, 1260, 1261, 1262, 1263, 1347, 1348, 1349, 1350, 1351] (by decide +kernel) (by decide +kernel)
set_option maxRecDepth 20000 in
theorem gL_law_X10_cloth : GoodIn wsL_law (wsV RL 127 RX10 yX10_cloth wsX10_cloth) := goodIn_app (goodIn_of _ (by decide +kernel)) ggL_law_X10_cloth
set_option maxRecDepth 20000 in
theorem ggL_law_X11_cloth : GoodIn wsL_law wsX11_cloth := goodIn_r _ [690, 128, 279, 280, 5, 281, 1264, 1265, 1266, 1267, 1268, 1269, 1270, 1271, 1272, 1273, 1274, 1275, 1276, 1277, 1278, 1279, 1280, 1281, 1282, 1283, 1284, 1285, 1286, 1287, 1288, 1289, 1290, 1291, 1292, 1293, 1294, 1295, 1296, 1297, 1298, 1299, 1300, 1301, 1302, 1303, 1304, 1305, 1306, 1307, 1308, 1309, 1310, 1311, 1312, 1313, 1314, 1315, 1316, 1317, 1318, 1319, 1320, 1321, 1322, 1323, 1324, 1325] (by decide +kernel) (by decide +kernel)
set_option maxRecDepth 20000 in
theorem gL_law_X11_cloth : GoodIn wsL_law (wsV RL 130 RX11 yX11_cloth wsX11_cloth) := goodIn_app (goodIn_of _ (by decide +kernel)) ggL_law_X11_cloth
set_option maxRecDepth 20000 in
theorem ggL_law_X10_tensions : GoodIn wsL_law wsX10_tensions := goodIn_r _ [694, 35, 695, 696, 697, 698, 699, 34, 700, 701, 702, 703, 704, 82, 1251, 1252, 1253, 1254, 1255, 1256, 1257, 1258, 1259, 1260, 1261, 1262, 1263, 1347, 1348, 1349, 1350, 1351] (by decide +kernel) (by decide +kernel)
set_option maxRecDepth 20000 in
theorem gL_law_X10_tensions : GoodIn wsL_law (wsV RL 131 RX10 yX10_tensions wsX10_tensions) := goodIn_app (goodIn_of _ (by decide +kernel)) ggL_law_X10_tensions
set_option maxRecDepth 20000 in
theorem ggL_law_X11_tensions : GoodIn wsL_law wsX11_tensions := goodIn_r _ [708, 129, 130, 279, 280, 5, 281, 709, 710, 711, 712, 128, 1264, 1265, 1266, 1267, 1268, 1269, 1270, 1271, 1272, 1273, 1274, 1275, 1276, 1277, 1278, 1279, 1280, 1281, 1282, 1283, 1284, 1285, 1286, 1287, 1288, 1289, 1290, 1291, 1292, 1293, 1294, 1295, 1296, 1297, 1298, 1299, 1300, 1301, 1302, 1303, 1304, 1305, 1306, 1307, 1308, 1309, 1310, 1311, 1312, 1313, 1314, 1315, 1316, 1317, 1318, 1319, 1320, 1321, 1322, 1323, 1324, 1325] (by decide +kernel) (by decide +kernel)
set_option maxRecDepth 20000 in
theorem gL_law_X11_tensions : GoodIn wsL_law (wsV RL 134 RX11 yX11_tensions wsX11_tensions) := goodIn_app (goodIn_of _ (by decide +kernel)) ggL_law_X11_tensions
set_option maxRecDepth 20000 in
theorem ggL_law_X10_lock : GoodIn wsL_law wsX10_lock := goodIn_r _ [716, 35, 695, 696, 697, 698, 699, 34, 700, 701, 702, 703, 704, 82, 717, 718, 719, 720, 1251, 1252, 1253, 1254, 1255, 1256, 1257, 1258, 1259, 1260, 1261, 1262, 1263, 1347, 1348, 1349, 1350, 1351] (by decide +kernel) (by decide +kernel)
set_option maxRecDepth 20000 in
theorem gL_law_X10_lock : GoodIn wsL_law (wsV RL 135 RX10 yX10_lock wsX10_lock) := goodIn_app (goodIn_of _ (by decide +kernel)) ggL_law_X10_lock
set_option maxRecDepth 20000 in
theorem ggL_law_X11_lock : GoodIn wsL_law wsX11_lock := goodIn_r _ [724, 129, 130, 709, 710, 711, 5, 712, 128, 725, 726, 727, 728, 1264, 1265, 1266, 1267, 1268, 1269, 1270, 1271, 1272, 1273, 1274, 1275, 1276, 1277, 1278, 1279, 1280, 1281, 1282, 1283, 1284, 1285, 1286, 1287, 1288, 1289, 1290, 1291, 1292, 1293, 1294, 1295, 1296, 1297, 1298, 1299, 1300, 1301, 1302, 1303, 1304, 1305, 1306, 1307, 1308, 1309, 1310, 1311, 1312, 1313, 1314, 1315, 1316, 1317, 1318, 1319, 1320, 1321, 1322, 1323, 1324, 1325] (by decide +kernel) (by decide +kernel)
set_option maxRecDepth 20000 in
theorem gL_law_X11_lock : GoodIn wsL_law (wsV RL 138 RX11 yX11_lock wsX11_lock) := goodIn_app (goodIn_of _ (by decide +kernel)) ggL_law_X11_lock
set_option maxRecDepth 20000 in
theorem ggL_law_X10_tune : GoodIn wsL_law wsX10_tune := goodIn_r _ [732, 35, 733, 734, 735, 34, 736, 737, 371, 367, 372, 738, 698, 699, 700, 701, 702, 703, 704, 82, 739, 718, 719, 720, 1251, 1252, 1253, 1254, 1255, 1256, 1257, 1258, 1259, 1260, 1261, 1262, 1263, 1347, 1348, 1349, 1350, 1351] (by decide +kernel) (by decide +kernel)
set_option maxRecDepth 20000 in
theorem gL_law_X10_tune : GoodIn wsL_law (wsV RL 139 RX10 yX10_tune wsX10_tune) := goodIn_app (goodIn_of _ (by decide +kernel)) ggL_law_X10_tune
set_option maxRecDepth 20000 in
theorem ggL_law_X11_tune : GoodIn wsL_law wsX11_tune := goodIn_r _ [743, 279, 280, 5, 281, 709, 710, 711, 712, 128, 725, 726, 727, 728, 1264, 1265, 1266, 1267, 1268, 1269, 1270, 1271, 1272, 1273, 1274, 1275, 1276, 1277, 1278, 1279, 1280, 1281, 1282, 1283, 1284, 1285, 1286, 1287, 1288, 1289, 1290, 1291, 1292, 1293, 1294, 1295, 1296, 1297, 1298, 1299, 1300, 1301, 1302, 1303, 1304, 1305, 1306, 1307, 1308, 1309, 1310, 1311, 1312, 1313, 1314, 1315, 1316, 1317, 1318, 1319, 1320, 1321, 1322, 1323, 1324, 1325] (by decide +kernel) (by decide +kernel)
set_option maxRecDepth 20000 in
theorem gL_law_X11_tune : GoodIn wsL_law (wsV RL 142 RX11 yX11_tune wsX11_tune) := goodIn_app (goodIn_of _ (by decide +kernel)) ggL_law_X11_tune
set_option maxRecDepth 20000 in
theorem ggL_law_X10_wind : GoodIn wsL_law wsX10_wind := goodIn_r _ [747, 748, 35, 749, 750, 1251, 1252, 1253, 1254, 1255, 1256, 1257, 1258, 1259, 1260, 1261, 1262, 1263, 1347, 1348, 1349, 1350, 1351] (by decide +kernel) (by decide +kernel)
set_option maxRecDepth 20000 in
theorem gL_law_X10_wind : GoodIn wsL_law (wsV RL 143 RX10 yX10_wind wsX10_wind) := goodIn_app (goodIn_of _ (by decide +kernel)) ggL_law_X10_wind
