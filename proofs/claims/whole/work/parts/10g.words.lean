set_option maxRecDepth 20000 in
theorem gc_wsX110 : GoodIn wsL_law wsX110 := goodIn_r _ [1319, 1320, 1321, 1322, 1323, 1324, 1325, 1326, 1327, 1328, 1329, 1330, 1331, 1332, 1333] (by decide +kernel) (by decide +kernel)
set_option maxRecDepth 20000 in
theorem gc_wsX120 : GoodIn wsL_law wsX120 := goodIn_r _ [1334, 1335, 1336, 1337, 1338, 1339, 1340, 1341, 1342, 1343, 1344, 1345, 1346, 1347, 1348, 1349, 1350, 1351, 1352, 1353, 1354, 1355, 1356, 1357, 1358, 1359, 1360, 1361, 1362, 1363, 1364, 1365, 1366, 1367, 1368, 1369, 1370, 1371, 1372, 1373, 1374, 1375, 1376, 1377, 1378, 1379, 1380] (by decide +kernel) (by decide +kernel)
set_option maxRecDepth 20000 in
theorem gc_wsX60 : GoodIn wsL_law wsX60 := goodIn_r _ [1381, 1382, 1383, 1384, 1385, 1386, 1387, 1388, 1389, 1390, 1391, 1392, 1393, 1394, 1395, 1396, 1397] (by decide +kernel) (by decide +kernel)
set_option maxRecDepth 20000 in
theorem gc_wsX100 : GoodIn wsL_law wsX100 := goodIn_r _ [1398, 1399, 1400, 1401, 1402] (by decide +kernel) (by decide +kernel)
set_option maxRecDepth 20000 in
theorem gc_wsX90 : GoodIn wsL_law wsX90 := goodIn_r _ [1403, 1404, 1405, 1406, 1407, 1408, 1409] (by decide +kernel) (by decide +kernel)
set_option maxRecDepth 20000 in
theorem gc_wsX30 : GoodIn wsL_law wsX30 := goodIn_r _ [1410, 1411, 1412] (by decide +kernel) (by decide +kernel)
set_option maxRecDepth 20000 in
theorem gc_wsX20 : GoodIn wsL_law wsX20 := goodIn_r _ [1413, 1414, 1415] (by decide +kernel) (by decide +kernel)
set_option maxRecDepth 20000 in
theorem gc_wsX10 : GoodIn wsL_law wsX10 := goodIn_r _ [1416, 1417, 1418, 1419] (by decide +kernel) (by decide +kernel)
set_option maxRecDepth 20000 in
theorem gc_wsX80 : GoodIn wsL_law wsX80 := goodIn_r _ [1420, 1421, 1422, 1423, 1424, 1425, 1426] (by decide +kernel) (by decide +kernel)
set_option maxRecDepth 20000 in
theorem gc_wsX50 : GoodIn wsL_law wsX50 := goodIn_r _ [1427, 1428, 1429, 1430, 1431, 1432, 1433, 1434, 1435, 1436] (by decide +kernel) (by decide +kernel)
set_option maxRecDepth 20000 in
theorem gc_wsX70 : GoodIn wsL_law wsX70 := goodIn_r _ [1437, 1438, 1439, 1440, 1441, 1442, 1443] (by decide +kernel) (by decide +kernel)
set_option maxRecDepth 20000 in
theorem gc_wsX40 : GoodIn wsL_law wsX40 := goodIn_r _ [1444, 1445, 1446, 1447, 1448] (by decide +kernel) (by decide +kernel)
set_option maxRecDepth 20000 in
theorem gc_wsX00 : GoodIn wsL_law wsX00 := goodIn_r _ [1449, 1450, 1451, 1452, 1453, 1454, 1455, 1456, 1457, 1458] (by decide +kernel) (by decide +kernel)
