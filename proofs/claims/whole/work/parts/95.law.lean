set_option maxRecDepth 20000 in
theorem ggL_law_X11_wind : GoodIn wsL_law wsX11_wind := goodIn_r _ [754, 755, 132, 133, 279, 280, 5, 281, 1264, 1265, 1266, 1267, 1268, 1269, 1270, 1271, 1272, 1273, 1274, 1275, 1276, 1277, 1278, 1279, 1280, 1281, 1282, 1283, 1284, 1285, 1286, 1287, 1288, 1289, 1290, 1291, 1292, 1293, 1294, 1295, 1296, 1297, 1298, 1299, 1300, 1301, 1302, 1303, 1304, 1305, 1306, 1307, 1308, 1309, 1310, 1311, 1312, 1313, 1314, 1315, 1316, 1317, 1318, 1319, 1320, 1321, 1322, 1323, 1324, 1325] (by decide +kernel) (by decide +kernel)
set_option maxRecDepth 20000 in
theorem gL_law_X11_wind : GoodIn wsL_law (wsV RL 146 RX11 yX11_wind wsX11_wind) := goodIn_app (goodIn_of _ (by decide +kernel)) ggL_law_X11_wind
set_option maxRecDepth 20000 in
theorem ggL_law_X10_step : GoodIn wsL_law wsX10_step := goodIn_r _ [759, 39, 158, 760, 761, 762, 763, 38, 764, 500, 2, 501, 1251, 1252, 1253, 1254, 1255, 1256, 1257, 1258, 1259, 1260, 1261, 1262, 1263, 1352, 1353, 1354] (by decide +kernel) (by decide +kernel)
set_option maxRecDepth 20000 in
theorem gL_law_X10_step : GoodIn wsL_law (wsV RL 147 RX10 yX10_step wsX10_step) := goodIn_app (goodIn_of _ (by decide +kernel)) ggL_law_X10_step
set_option maxRecDepth 20000 in
theorem ggL_law_X11_step : GoodIn wsL_law wsX11_step := goodIn_r _ [768, 185, 134, 135, 279, 280, 5, 281, 1264, 1265, 1266, 1267, 1268, 1269, 1270, 1271, 1272, 1273, 1274, 1275, 1276, 1277, 1278, 1279, 1280, 1281, 1282, 1283, 1284, 1285, 1286, 1287, 1288, 1289, 1290, 1291, 1292, 1293, 1294, 1295, 1296, 1297, 1298, 1299, 1300, 1301, 1302, 1303, 1304, 1305, 1306, 1307, 1308, 1309, 1310, 1311, 1312, 1313, 1314, 1315, 1316, 1317, 1318, 1319, 1320, 1321, 1322, 1323, 1324, 1325] (by decide +kernel) (by decide +kernel)
set_option maxRecDepth 20000 in
theorem gL_law_X11_step : GoodIn wsL_law (wsV RL 150 RX11 yX11_step wsX11_step) := goodIn_app (goodIn_of _ (by decide +kernel)) ggL_law_X11_step
set_option maxRecDepth 20000 in
theorem ggL_law_X10_stepless : GoodIn wsL_law wsX10_stepless := goodIn_r _ [772, 39, 158, 1251, 1252, 1253, 1254, 1255, 1256, 1257, 1258, 1259, 1260, 1261, 1262, 1263, 1352, 1353, 1354] (by decide +kernel) (by decide +kernel)
set_option maxRecDepth 20000 in
theorem gL_law_X10_stepless : GoodIn wsL_law (wsV RL 151 RX10 yX10_stepless wsX10_stepless) := goodIn_app (goodIn_of _ (by decide +kernel)) ggL_law_X10_stepless
set_option maxRecDepth 20000 in
theorem ggL_law_X11_stepless : GoodIn wsL_law wsX11_stepless := goodIn_r _ [776, 185, 1264, 1265, 1266, 1267, 1268, 1269, 1270, 1271, 1272, 1273, 1274, 1275, 1276, 1277, 1278, 1279, 1280, 1281, 1282, 1283, 1284, 1285, 1286, 1287, 1288, 1289, 1290, 1291, 1292, 1293, 1294, 1295, 1296, 1297, 1298, 1299, 1300, 1301, 1302, 1303, 1304, 1305, 1306, 1307, 1308, 1309, 1310, 1311, 1312, 1313, 1314, 1315, 1316, 1317, 1318, 1319, 1320, 1321, 1322, 1323, 1324, 1325] (by decide +kernel) (by decide +kernel)
set_option maxRecDepth 20000 in
theorem gL_law_X11_stepless : GoodIn wsL_law (wsV RL 154 RX11 yX11_stepless wsX11_stepless) := goodIn_app (goodIn_of _ (by decide +kernel)) ggL_law_X11_stepless
set_option maxRecDepth 20000 in
theorem ggL_law_X10_sew : GoodIn wsL_law wsX10_sew := goodIn_r _ [780, 43, 25, 39, 158, 760, 761, 781, 782, 783, 432, 433, 24, 434, 171, 72, 784, 785, 786, 42, 787, 177, 178, 788, 789, 790, 791, 792, 793, 794, 795, 796, 797, 798, 799, 800, 2, 801, 802, 803, 35, 804, 805, 519, 520, 521, 522, 27, 355, 502, 503, 504, 505, 506, 257, 258, 259, 73, 806, 807, 808, 809, 810, 811, 812, 813, 814, 815, 816, 817, 366, 367, 368, 100, 101, 818, 819, 820, 821, 822, 823, 824, 825, 826, 698, 699, 34, 700, 701, 702, 703, 704, 82, 827, 828, 829, 830, 831, 1251, 1252, 1253, 1254, 1255, 1256, 1257, 1258, 1259, 1260, 1261, 1262, 1263, 1352, 1353, 1354, 1355, 1356, 1357, 1358, 1359, 1360, 1361, 1362, 1363, 1364, 1365, 1366, 1367, 1368, 1339, 1340, 1341, 1347, 1348, 1349, 1350, 1351] (by decide +kernel) (by decide +kernel)
set_option maxRecDepth 20000 in
theorem gL_law_X10_sew : GoodIn wsL_law (wsV RL 155 RX10 yX10_sew wsX10_sew) := goodIn_app (goodIn_of _ (by decide +kernel)) ggL_law_X10_sew
set_option maxRecDepth 20000 in
theorem ggL_law_X11_sew : GoodIn wsL_law wsX11_sew := goodIn_r _ [835, 836, 837, 838, 839, 840, 124, 125, 841, 842, 843, 844, 845, 846, 185, 134, 135, 186, 136, 847, 848, 849, 5, 850, 511, 512, 513, 514, 126, 851, 852, 853, 854, 129, 130, 128, 132, 133, 137, 138, 709, 710, 711, 712, 404, 405, 406, 1264, 1265, 1266, 1267, 1268, 1269, 1270, 1271, 1272, 1273, 1274, 1275, 1276, 1277, 1278, 1279, 1280, 1281, 1282, 1283, 1284, 1285, 1286, 1287, 1288, 1289, 1290, 1291, 1292, 1293, 1294, 1295, 1296, 1297, 1298, 1299, 1300, 1301, 1302, 1303, 1304, 1305, 1306, 1307, 1308, 1309, 1310, 1311, 1312, 1313, 1314, 1315, 1316, 1317, 1318, 1319, 1320, 1321, 1322, 1323, 1324, 1325] (by decide +kernel) (by decide +kernel)
set_option maxRecDepth 20000 in
theorem gL_law_X11_sew : GoodIn wsL_law (wsV RL 158 RX11 yX11_sew wsX11_sew) := goodIn_app (goodIn_of _ (by decide +kernel)) ggL_law_X11_sew
set_option maxRecDepth 20000 in
theorem ggL_law_L_seam : GoodIn wsL_law wsL_seam := goodIn_ca (goodIn_ca (goodIn_r _ [857, 318, 319, 858, 859, 860, 2, 861, 324, 325, 326, 327, 43, 862, 782, 863, 864, 804, 805, 802, 865, 866, 781, 867, 868, 869, 42, 870, 178, 100, 101, 871, 872, 873, 874, 1251, 1252, 1253, 1254, 1255, 1256, 1257, 1258, 1259, 1260, 1261, 1262, 1263, 1355, 1356, 1357, 1358, 1359, 1360, 1361, 1362, 1363, 1364, 1365, 1366, 1367, 1368] (by decide +kernel) (by decide +kernel)) (goodIn_sub (fun _ h => List.mem_append_left _ (List.mem_append_right _ h)) (by decide +kernel))) (goodIn_sub (fun _ h => List.mem_append_right _ h) (by decide +kernel))
set_option maxRecDepth 20000 in
theorem gL_law_L_seam : GoodIn wsL_law (va_wsS RL 159 yL_seam wsL_seam) := goodIn_app (goodIn_of _ (by decide +kernel)) ggL_law_L_seam
set_option maxRecDepth 20000 in
theorem ggL_law_X11_seam : GoodIn wsL_law wsX11_seam := goodIn_r _ [878, 186, 334, 136, 279, 280, 5, 281, 1264, 1265, 1266, 1267, 1268, 1269, 1270, 1271, 1272, 1273, 1274, 1275, 1276, 1277, 1278, 1279, 1280, 1281, 1282, 1283, 1284, 1285, 1286, 1287, 1288, 1289, 1290, 1291, 1292, 1293, 1294, 1295, 1296, 1297, 1298, 1299, 1300, 1301, 1302, 1303, 1304, 1305, 1306, 1307, 1308, 1309, 1310, 1311, 1312, 1313, 1314, 1315, 1316, 1317, 1318, 1319, 1320, 1321, 1322, 1323, 1324, 1325] (by decide +kernel) (by decide +kernel)
set_option maxRecDepth 20000 in
theorem gL_law_X11_seam : GoodIn wsL_law (wsV RL 161 RX11 yX11_seam wsX11_seam) := goodIn_app (goodIn_of _ (by decide +kernel)) ggL_law_X11_seam
set_option maxRecDepth 20000 in
theorem ggL_law_L_sewn : GoodIn wsL_law wsL_sewn := goodIn_ca (goodIn_ca (goodIn_r _ [881, 318, 319, 882, 883, 884, 2, 885, 324, 325, 326, 327, 43, 782, 886, 887, 1251, 1252, 1253, 1254, 1255, 1256, 1257, 1258, 1259, 1260, 1261, 1262, 1263, 1355, 1356, 1357, 1358, 1359, 1360, 1361, 1362, 1363, 1364, 1365, 1366, 1367, 1368] (by decide +kernel) (by decide +kernel)) (goodIn_sub (fun _ h => List.mem_append_left _ (List.mem_append_right _ h)) (by decide +kernel))) (goodIn_sub (fun _ h => List.mem_append_right _ h) (by decide +kernel))
set_option maxRecDepth 20000 in
theorem gL_law_L_sewn : GoodIn wsL_law (va_wsS RL 162 yL_sewn wsL_sewn) := goodIn_app (goodIn_of _ (by decide +kernel)) ggL_law_L_sewn
set_option maxRecDepth 20000 in
theorem ggL_law_X11_sewn : GoodIn wsL_law wsX11_sewn := goodIn_r _ [891, 186, 136, 334, 137, 138, 279, 280, 5, 281, 1264, 1265, 1266, 1267, 1268, 1269, 1270, 1271, 1272, 1273, 1274, 1275, 1276, 1277, 1278, 1279, 1280, 1281, 1282, 1283, 1284, 1285, 1286, 1287, 1288, 1289, 1290, 1291, 1292, 1293, 1294, 1295, 1296, 1297, 1298, 1299, 1300, 1301, 1302, 1303, 1304, 1305, 1306, 1307, 1308, 1309, 1310, 1311, 1312, 1313, 1314, 1315, 1316, 1317, 1318, 1319, 1320, 1321, 1322, 1323, 1324, 1325] (by decide +kernel) (by decide +kernel)
set_option maxRecDepth 20000 in
theorem gL_law_X11_sewn : GoodIn wsL_law (wsV RL 164 RX11 yX11_sewn wsX11_sewn) := goodIn_app (goodIn_of _ (by decide +kernel)) ggL_law_X11_sewn
set_option maxRecDepth 20000 in
theorem ggL_law_X10_thread : GoodIn wsL_law wsX10_thread := goodIn_r _ [895, 35, 749, 750, 1251, 1252, 1253, 1254, 1255, 1256, 1257, 1258, 1259, 1260, 1261, 1262, 1263, 1347, 1348, 1349, 1350, 1351] (by decide +kernel) (by decide +kernel)
set_option maxRecDepth 20000 in
theorem gL_law_X10_thread : GoodIn wsL_law (wsV RL 165 RX10 yX10_thread wsX10_thread) := goodIn_app (goodIn_of _ (by decide +kernel)) ggL_law_X10_thread
set_option maxRecDepth 20000 in
theorem ggL_law_X11_thread : GoodIn wsL_law wsX11_thread := goodIn_r _ [899, 132, 133, 1264, 1265, 1266, 1267, 1268, 1269, 1270, 1271, 1272, 1273, 1274, 1275, 1276, 1277, 1278, 1279, 1280, 1281, 1282, 1283, 1284, 1285, 1286, 1287, 1288, 1289, 1290, 1291, 1292, 1293, 1294, 1295, 1296, 1297, 1298, 1299, 1300, 1301, 1302, 1303, 1304, 1305, 1306, 1307, 1308, 1309, 1310, 1311, 1312, 1313, 1314, 1315, 1316, 1317, 1318, 1319, 1320, 1321, 1322, 1323, 1324, 1325] (by decide +kernel) (by decide +kernel)
set_option maxRecDepth 20000 in
theorem gL_law_X11_thread : GoodIn wsL_law (wsV RL 168 RX11 yX11_thread wsX11_thread) := goodIn_app (goodIn_of _ (by decide +kernel)) ggL_law_X11_thread
set_option maxRecDepth 20000 in
theorem ggL_law_X10_names : GoodIn wsL_law wsX10_names := goodIn_r _ [903, 47, 53, 27, 904, 905, 906, 907, 2, 908, 909, 195, 196, 197, 198, 199, 200, 201, 202, 203, 204, 205, 206, 160, 910, 911, 912, 46, 913, 914, 915, 916, 917, 918, 919, 920, 921, 1251, 1252, 1253, 1254, 1255, 1256, 1257, 1258, 1259, 1260, 1261, 1262, 1263, 1369, 1378, 1379, 1380, 1381, 1339, 1340, 1341] (by decide +kernel) (by decide +kernel)
set_option maxRecDepth 20000 in
theorem gL_law_X10_names : GoodIn wsL_law (wsV RL 169 RX10 yX10_names wsX10_names) := goodIn_app (goodIn_of _ (by decide +kernel)) ggL_law_X10_names
set_option maxRecDepth 20000 in
theorem ggL_law_X11_names : GoodIn wsL_law wsX11_names := goodIn_r _ [925, 279, 280, 5, 281, 926, 927, 928, 929, 141, 142, 276, 277, 278, 282, 283, 284, 285, 188, 930, 931, 932, 933, 934, 124, 935, 936, 937, 938, 143, 125, 1264, 1265, 1266, 1267, 1268, 1269, 1270, 1271, 1272, 1273, 1274, 1275, 1276, 1277, 1278, 1279, 1280, 1281, 1282, 1283, 1284, 1285, 1286, 1287, 1288, 1289, 1290, 1291, 1292, 1293, 1294, 1295, 1296, 1297, 1298, 1299, 1300, 1301, 1302, 1303, 1304, 1305, 1306, 1307, 1308, 1309, 1310, 1311, 1312, 1313, 1314, 1315, 1316, 1317, 1318, 1319, 1320, 1321, 1322, 1323, 1324, 1325] (by decide +kernel) (by decide +kernel)
set_option maxRecDepth 20000 in
theorem gL_law_X11_names : GoodIn wsL_law (wsV RL 172 RX11 yX11_names wsX11_names) := goodIn_app (goodIn_of _ (by decide +kernel)) ggL_law_X11_names
set_option maxRecDepth 20000 in
theorem ggL_law_X10_name : GoodIn wsL_law wsX10_name := goodIn_r _ [942, 47, 53, 27, 905, 906, 907, 2, 908, 909, 195, 196, 197, 198, 199, 200, 201, 202, 910, 911, 912, 46, 913, 914, 915, 916, 917, 918, 919, 920, 921, 203, 204, 205, 206, 160, 1251, 1252, 1253, 1254, 1255, 1256, 1257, 1258, 1259, 1260, 1261, 1262, 1263, 1378, 1379, 1380, 1381, 1369, 1339, 1340, 1341] (by decide +kernel) (by decide +kernel)
set_option maxRecDepth 20000 in
theorem gL_law_X10_name : GoodIn wsL_law (wsV RL 173 RX10 yX10_name wsX10_name) := goodIn_app (goodIn_of _ (by decide +kernel)) ggL_law_X10_name
set_option maxRecDepth 20000 in
theorem ggL_law_X11_name : GoodIn wsL_law wsX11_name := goodIn_r _ [946, 934, 279, 280, 5, 281, 926, 927, 928, 929, 141, 142, 276, 277, 278, 282, 283, 284, 285, 188, 930, 931, 932, 933, 124, 935, 936, 937, 938, 143, 125, 1264, 1265, 1266, 1267, 1268, 1269, 1270, 1271, 1272, 1273, 1274, 1275, 1276, 1277, 1278, 1279, 1280, 1281, 1282, 1283, 1284, 1285, 1286, 1287, 1288, 1289, 1290, 1291, 1292, 1293, 1294, 1295, 1296, 1297, 1298, 1299, 1300, 1301, 1302, 1303, 1304, 1305, 1306, 1307, 1308, 1309, 1310, 1311, 1312, 1313, 1314, 1315, 1316, 1317, 1318, 1319, 1320, 1321, 1322, 1323, 1324, 1325] (by decide +kernel) (by decide +kernel)
set_option maxRecDepth 20000 in
theorem gL_law_X11_name : GoodIn wsL_law (wsV RL 176 RX11 yX11_name wsX11_name) := goodIn_app (goodIn_of _ (by decide +kernel)) ggL_law_X11_name
set_option maxRecDepth 20000 in
theorem ggL_law_X10_wear : GoodIn wsL_law wsX10_wear := goodIn_r _ [950, 47, 53, 27, 905, 906, 907, 2, 908, 909, 195, 196, 197, 198, 199, 200, 201, 202, 203, 204, 205, 206, 160, 910, 911, 912, 46, 913, 914, 915, 916, 917, 918, 919, 920, 921, 1251, 1252, 1253, 1254, 1255, 1256, 1257, 1258, 1259, 1260, 1261, 1262, 1263, 1378, 1379, 1380, 1381, 1369, 1339, 1340, 1341] (by decide +kernel) (by decide +kernel)
set_option maxRecDepth 20000 in
theorem gL_law_X10_wear : GoodIn wsL_law (wsV RL 177 RX10 yX10_wear wsX10_wear) := goodIn_app (goodIn_of _ (by decide +kernel)) ggL_law_X10_wear
set_option maxRecDepth 20000 in
theorem ggL_law_X11_wear : GoodIn wsL_law wsX11_wear := goodIn_r _ [954, 926, 927, 928, 5, 929, 141, 142, 276, 277, 278, 279, 280, 281, 282, 283, 284, 285, 188, 930, 931, 932, 933, 934, 124, 935, 936, 937, 938, 143, 125, 1264, 1265, 1266, 1267, 1268, 1269, 1270, 1271, 1272, 1273, 1274, 1275, 1276, 1277, 1278, 1279, 1280, 1281, 1282, 1283, 1284, 1285, 1286, 1287, 1288, 1289, 1290, 1291, 1292, 1293, 1294, 1295, 1296, 1297, 1298, 1299, 1300, 1301, 1302, 1303, 1304, 1305, 1306, 1307, 1308, 1309, 1310, 1311, 1312, 1313, 1314, 1315, 1316, 1317, 1318, 1319, 1320, 1321, 1322, 1323, 1324, 1325] (by decide +kernel) (by decide +kernel)
set_option maxRecDepth 20000 in
theorem gL_law_X11_wear : GoodIn wsL_law (wsV RL 180 RX11 yX11_wear wsX11_wear) := goodIn_app (goodIn_of _ (by decide +kernel)) ggL_law_X11_wear
set_option maxRecDepth 20000 in
theorem ggL_law_X10_outcome : GoodIn wsL_law wsX10_outcome := goodIn_r _ [958, 959, 960, 2, 961, 962, 963, 964, 965, 966, 50, 967, 968, 969, 970, 971, 972, 973, 974, 975, 976, 977, 978, 979, 980, 366, 367, 368, 981, 982, 983, 984, 985, 986, 987, 988, 989, 990, 991, 992, 993, 994, 995, 996, 997, 998, 999, 1000, 1001] (by decide +kernel) (by decide +kernel)
set_option maxRecDepth 20000 in
theorem gL_law_X10_outcome : GoodIn wsL_law (wsV RL 181 RX10 yX10_outcome wsX10_outcome) := goodIn_app (goodIn_of _ (by decide +kernel)) ggL_law_X10_outcome
set_option maxRecDepth 20000 in
theorem ggL_law_X11_outcome : GoodIn wsL_law wsX11_outcome := goodIn_r _ [1005, 279, 280, 5, 281, 1006, 1007, 1008, 404, 405, 406] (by decide +kernel) (by decide +kernel)
set_option maxRecDepth 20000 in
theorem gL_law_X11_outcome : GoodIn wsL_law (wsV RL 184 RX11 yX11_outcome wsX11_outcome) := goodIn_app (goodIn_of _ (by decide +kernel)) ggL_law_X11_outcome
set_option maxRecDepth 20000 in
theorem ggL_law_X10_note : GoodIn wsL_law wsX10_note := goodIn_r _ [1012, 51, 159, 1013, 1014, 962, 963, 2, 964, 1251, 1252, 1253, 1254, 1255, 1256, 1257, 1258, 1259, 1260, 1261, 1262, 1263, 1370, 1371, 1372, 1373, 1374, 1375, 1376, 1377] (by decide +kernel) (by decide +kernel)
set_option maxRecDepth 20000 in
theorem gL_law_X10_note : GoodIn wsL_law (wsV RL 185 RX10 yX10_note wsX10_note) := goodIn_app (goodIn_of _ (by decide +kernel)) ggL_law_X10_note
set_option maxRecDepth 20000 in
theorem ggL_law_X11_note : GoodIn wsL_law wsX11_note := goodIn_r _ [1018, 187, 139, 140, 279, 280, 5, 281, 1264, 1265, 1266, 1267, 1268, 1269, 1270, 1271, 1272, 1273, 1274, 1275, 1276, 1277, 1278, 1279, 1280, 1281, 1282, 1283, 1284, 1285, 1286, 1287, 1288, 1289, 1290, 1291, 1292, 1293, 1294, 1295, 1296, 1297, 1298, 1299, 1300, 1301, 1302, 1303, 1304, 1305, 1306, 1307, 1308, 1309, 1310, 1311, 1312, 1313, 1314, 1315, 1316, 1317, 1318, 1319, 1320, 1321, 1322, 1323, 1324, 1325] (by decide +kernel) (by decide +kernel)
set_option maxRecDepth 20000 in
theorem gL_law_X11_note : GoodIn wsL_law (wsV RL 188 RX11 yX11_note wsX11_note) := goodIn_app (goodIn_of _ (by decide +kernel)) ggL_law_X11_note
set_option maxRecDepth 20000 in
theorem ggL_law_X10_noteless : GoodIn wsL_law wsX10_noteless := goodIn_r _ [1022, 51, 159, 1251, 1252, 1253, 1254, 1255, 1256, 1257, 1258, 1259, 1260, 1261, 1262, 1263, 1370, 1371, 1372, 1373, 1374, 1375, 1376, 1377] (by decide +kernel) (by decide +kernel)
set_option maxRecDepth 20000 in
theorem gL_law_X10_noteless : GoodIn wsL_law (wsV RL 189 RX10 yX10_noteless wsX10_noteless) := goodIn_app (goodIn_of _ (by decide +kernel)) ggL_law_X10_noteless
set_option maxRecDepth 20000 in
theorem ggL_law_X11_noteless : GoodIn wsL_law wsX11_noteless := goodIn_r _ [1026, 187, 1264, 1265, 1266, 1267, 1268, 1269, 1270, 1271, 1272, 1273, 1274, 1275, 1276, 1277, 1278, 1279, 1280, 1281, 1282, 1283, 1284, 1285, 1286, 1287, 1288, 1289, 1290, 1291, 1292, 1293, 1294, 1295, 1296, 1297, 1298, 1299, 1300, 1301, 1302, 1303, 1304, 1305, 1306, 1307, 1308, 1309, 1310, 1311, 1312, 1313, 1314, 1315, 1316, 1317, 1318, 1319, 1320, 1321, 1322, 1323, 1324, 1325] (by decide +kernel) (by decide +kernel)
set_option maxRecDepth 20000 in
theorem gL_law_X11_noteless : GoodIn wsL_law (wsV RL 192 RX11 yX11_noteless wsX11_noteless) := goodIn_app (goodIn_of _ (by decide +kernel)) ggL_law_X11_noteless
