set_option maxRecDepth 20000 in
theorem ggL_law_X12_carry : GoodIn wsL_law wsX12_carry := goodIn_r _ [838, 142, 514, 515, 516, 5, 517, 403, 404, 405, 652, 653, 654, 655, 656, 488, 489, 490, 484, 485, 486, 487, 712, 713, 714, 715, 716, 151, 657, 658, 659, 660, 370, 144, 450, 451, 452, 717, 718, 719, 720, 689, 690, 691, 692, 693, 694, 695, 708, 709, 710, 711, 1333, 1334, 1335, 1336, 1337, 1338, 1339, 1340, 1341, 1342, 1343, 1344, 1345, 1346, 1347, 1348, 1349, 1350, 1351, 1352, 1353, 1354, 1355, 1356, 1357, 1358, 1359, 1360, 1361, 1362, 1363, 1364, 1365, 1366, 1367, 1368, 1369, 1370, 1371, 1372, 1373, 1374, 1375, 1376, 1377, 1378, 1379] (by decide +kernel) (by decide +kernel)
set_option maxRecDepth 20000 in
theorem gL_law_X12_carry : GoodIn wsL_law (wsV RL 65 RX12 yX12_carry wsX12_carry) := goodIn_app (goodIn_of _ (by decide +kernel)) ggL_law_X12_carry
set_option maxRecDepth 20000 in
theorem ggL_law_X11_gate : GoodIn wsL_law wsX11_gate := goodIn_r _ [842, 32, 843, 844, 1318, 1319, 1320, 1321, 1322, 1323, 1324, 1325, 1326, 1327, 1328, 1329, 1330, 1331, 1332, 1412, 1413, 1414] (by decide +kernel) (by decide +kernel)
set_option maxRecDepth 20000 in
theorem gL_law_X11_gate : GoodIn wsL_law (wsV RL 66 RX11 yX11_gate wsX11_gate) := goodIn_app (goodIn_of _ (by decide +kernel)) ggL_law_X11_gate
set_option maxRecDepth 20000 in
theorem ggL_law_X12_gate : GoodIn wsL_law wsX12_gate := goodIn_r _ [848, 716, 151, 403, 404, 5, 405, 1333, 1334, 1335, 1336, 1337, 1338, 1339, 1340, 1341, 1342, 1343, 1344, 1345, 1346, 1347, 1348, 1349, 1350, 1351, 1352, 1353, 1354, 1355, 1356, 1357, 1358, 1359, 1360, 1361, 1362, 1363, 1364, 1365, 1366, 1367, 1368, 1369, 1370, 1371, 1372, 1373, 1374, 1375, 1376, 1377, 1378, 1379] (by decide +kernel) (by decide +kernel)
set_option maxRecDepth 20000 in
theorem gL_law_X12_gate : GoodIn wsL_law (wsV RL 69 RX12 yX12_gate wsX12_gate) := goodIn_app (goodIn_of _ (by decide +kernel)) ggL_law_X12_gate
set_option maxRecDepth 20000 in
theorem ggL_law_X11_book : GoodIn wsL_law wsX11_book := goodIn_r _ [852, 23, 853, 854, 855, 856, 82, 857, 354, 555, 556, 355, 557, 558, 559, 1318, 1319, 1320, 1321, 1322, 1323, 1324, 1325, 1326, 1327, 1328, 1329, 1330, 1331, 1332, 1402, 1403, 1404, 1405, 1406, 1407, 1408, 1448, 1449, 1450, 1451, 1452, 1453, 1454, 1455, 1456, 1457] (by decide +kernel) (by decide +kernel)
set_option maxRecDepth 20000 in
theorem gL_law_X11_book : GoodIn wsL_law (wsV RL 70 RX11 yX11_book wsX11_book) := goodIn_app (goodIn_of _ (by decide +kernel)) ggL_law_X11_book
set_option maxRecDepth 20000 in
theorem ggL_law_X12_book : GoodIn wsL_law wsX12_book := goodIn_r _ [861, 142, 403, 404, 5, 405, 1333, 1334, 1335, 1336, 1337, 1338, 1339, 1340, 1341, 1342, 1343, 1344, 1345, 1346, 1347, 1348, 1349, 1350, 1351, 1352, 1353, 1354, 1355, 1356, 1357, 1358, 1359, 1360, 1361, 1362, 1363, 1364, 1365, 1366, 1367, 1368, 1369, 1370, 1371, 1372, 1373, 1374, 1375, 1376, 1377, 1378, 1379] (by decide +kernel) (by decide +kernel)
set_option maxRecDepth 20000 in
theorem gL_law_X12_book : GoodIn wsL_law (wsV RL 74 RX12 yX12_book wsX12_book) := goodIn_app (goodIn_of _ (by decide +kernel)) ggL_law_X12_book
set_option maxRecDepth 20000 in
theorem ggL_law_X11_booked : GoodIn wsL_law wsX11_booked := goodIn_r _ [865, 23, 853, 866, 867, 868, 869, 870, 871, 872, 1318, 1319, 1320, 1321, 1322, 1323, 1324, 1325, 1326, 1327, 1328, 1329, 1330, 1331, 1332, 1402, 1403, 1404, 1405, 1406, 1407, 1408, 1448, 1449, 1450, 1451, 1452, 1453, 1454, 1455, 1456, 1457] (by decide +kernel) (by decide +kernel)
set_option maxRecDepth 20000 in
theorem gL_law_X11_booked : GoodIn wsL_law (wsV RL 75 RX11 yX11_booked wsX11_booked) := goodIn_app (goodIn_of _ (by decide +kernel)) ggL_law_X11_booked
set_option maxRecDepth 20000 in
theorem ggL_law_X12_booked : GoodIn wsL_law wsX12_booked := goodIn_r _ [876, 142, 877, 878, 879, 5, 880, 403, 404, 405, 1333, 1334, 1335, 1336, 1337, 1338, 1339, 1340, 1341, 1342, 1343, 1344, 1345, 1346, 1347, 1348, 1349, 1350, 1351, 1352, 1353, 1354, 1355, 1356, 1357, 1358, 1359, 1360, 1361, 1362, 1363, 1364, 1365, 1366, 1367, 1368, 1369, 1370, 1371, 1372, 1373, 1374, 1375, 1376, 1377, 1378, 1379] (by decide +kernel) (by decide +kernel)
set_option maxRecDepth 20000 in
theorem gL_law_X12_booked : GoodIn wsL_law (wsV RL 78 RX12 yX12_booked wsX12_booked) := goodIn_app (goodIn_of _ (by decide +kernel)) ggL_law_X12_booked
set_option maxRecDepth 20000 in
theorem ggL_law_X11_line : GoodIn wsL_law wsX11_line := goodIn_r _ [884, 23, 853, 867, 885, 886, 887, 1318, 1319, 1320, 1321, 1322, 1323, 1324, 1325, 1326, 1327, 1328, 1329, 1330, 1331, 1332, 1402, 1403, 1404, 1405, 1406, 1407, 1408, 1448, 1449, 1450, 1451, 1452, 1453, 1454, 1455, 1456, 1457] (by decide +kernel) (by decide +kernel)
set_option maxRecDepth 20000 in
theorem gL_law_X11_line : GoodIn wsL_law (wsV RL 79 RX11 yX11_line wsX11_line) := goodIn_app (goodIn_of _ (by decide +kernel)) ggL_law_X11_line
set_option maxRecDepth 20000 in
theorem ggL_law_X12_line : GoodIn wsL_law wsX12_line := goodIn_r _ [891, 142, 877, 878, 879, 5, 880, 403, 404, 405, 1333, 1334, 1335, 1336, 1337, 1338, 1339, 1340, 1341, 1342, 1343, 1344, 1345, 1346, 1347, 1348, 1349, 1350, 1351, 1352, 1353, 1354, 1355, 1356, 1357, 1358, 1359, 1360, 1361, 1362, 1363, 1364, 1365, 1366, 1367, 1368, 1369, 1370, 1371, 1372, 1373, 1374, 1375, 1376, 1377, 1378, 1379] (by decide +kernel) (by decide +kernel)
set_option maxRecDepth 20000 in
theorem gL_law_X12_line : GoodIn wsL_law (wsV RL 82 RX12 yX12_line wsX12_line) := goodIn_app (goodIn_of _ (by decide +kernel)) ggL_law_X12_line
set_option maxRecDepth 20000 in
theorem ggL_law_X11_best : GoodIn wsL_law wsX11_best := goodIn_r _ [895, 23, 472, 473, 896, 897, 898, 2, 899, 44, 466, 467, 900, 901, 902, 43, 903, 127, 904, 905, 906, 907, 908, 909, 910, 911, 912, 913, 914, 915, 916, 917, 918, 124, 919, 125, 920, 126, 131, 921, 922, 923, 18, 924, 323, 925, 926, 927, 928, 130, 929, 930, 931, 932, 933, 934, 935, 936, 937, 938, 939, 940, 941, 942, 943, 944, 945, 946, 947, 948, 949, 950, 951, 952, 1318, 1319, 1320, 1321, 1322, 1323, 1324, 1325, 1326, 1327, 1328, 1329, 1330, 1331, 1332, 1402, 1403, 1404, 1405, 1406, 1407, 1408, 1443, 1444, 1445, 1446, 1447, 1419, 1420, 1421, 1422, 1423, 1424, 1425, 1426, 1427, 1428, 1429, 1430, 1431, 1432, 1433, 1434, 1435, 1397, 1398, 1399, 1400, 1401] (by decide +kernel) (by decide +kernel)
set_option maxRecDepth 20000 in
theorem gL_law_X11_best : GoodIn wsL_law (wsV RL 83 RX11 yX11_best wsX11_best) := goodIn_app (goodIn_of _ (by decide +kernel)) ggL_law_X11_best
set_option maxRecDepth 20000 in
theorem ggL_law_X12_best : GoodIn wsL_law wsX12_best := goodIn_r _ [956, 142, 957, 958, 959, 5, 960, 961, 962, 963, 158, 156, 964, 965, 966, 967, 968, 488, 489, 490, 969, 970, 971, 972, 973, 974, 975, 976, 977, 978, 979, 980, 981, 982, 983, 984, 985, 986, 987, 988, 1333, 1334, 1335, 1336, 1337, 1338, 1339, 1340, 1341, 1342, 1343, 1344, 1345, 1346, 1347, 1348, 1349, 1350, 1351, 1352, 1353, 1354, 1355, 1356, 1357, 1358, 1359, 1360, 1361, 1362, 1363, 1364, 1365, 1366, 1367, 1368, 1369, 1370, 1371, 1372, 1373, 1374, 1375, 1376, 1377, 1378, 1379] (by decide +kernel) (by decide +kernel)
set_option maxRecDepth 20000 in
theorem gL_law_X12_best : GoodIn wsL_law (wsV RL 86 RX12 yX12_best wsX12_best) := goodIn_app (goodIn_of _ (by decide +kernel)) ggL_law_X12_best
set_option maxRecDepth 20000 in
theorem ggL_law_X11_plan : GoodIn wsL_law wsX11_plan := goodIn_r _ [992, 23, 472, 44, 993, 770, 771, 772, 77, 773, 526, 994, 995, 996, 2, 997, 466, 467, 900, 901, 902, 43, 903, 127, 904, 905, 906, 907, 908, 909, 910, 911, 912, 913, 914, 915, 916, 917, 918, 124, 919, 125, 920, 126, 131, 921, 922, 923, 18, 924, 323, 925, 926, 927, 928, 130, 929, 930, 931, 932, 933, 934, 935, 936, 937, 938, 939, 940, 941, 942, 943, 944, 998, 999, 1000, 1001, 128, 129, 949, 950, 951, 952, 1002, 1003, 1004, 1005, 1006, 1007, 1008, 1009, 1010, 1011, 1012, 1013, 1318, 1319, 1320, 1321, 1322, 1323, 1324, 1325, 1326, 1327, 1328, 1329, 1330, 1331, 1332, 1402, 1403, 1404, 1405, 1406, 1407, 1408, 1426, 1427, 1428, 1429, 1430, 1431, 1432, 1433, 1434, 1435, 1443, 1444, 1445, 1446, 1447, 1419, 1420, 1421, 1422, 1423, 1424, 1425, 1397, 1398, 1399, 1400, 1401] (by decide +kernel) (by decide +kernel)
set_option maxRecDepth 20000 in
theorem gL_law_X11_plan : GoodIn wsL_law (wsV RL 87 RX11 yX11_plan wsX11_plan) := goodIn_app (goodIn_of _ (by decide +kernel)) ggL_law_X11_plan
