set_option maxRecDepth 20000 in
theorem wl_wsL_law0_r47 : GoodIn lw_tbl wsL_law0_r47 := goodIn_r _ [600, 601, 602, 603, 609, 611, 10, 612, 1880, 1881, 1882, 1883, 1173, 1174, 1175, 1176, 1177, 1178, 1179, 1180, 1181, 1182, 1183, 1184] (by decide +kernel) (by decide +kernel)
set_option maxRecDepth 20000 in
theorem wl_wsL_law0_r48 : GoodIn lw_tbl wsL_law0_r48 := goodIn_r _ [1185, 1186, 1187, 1884, 1885, 1886, 1887, 1888, 1890, 84, 1891, 1188, 1189, 1190, 1191, 1192, 1193, 1194, 1892, 1893, 1894, 1895, 1195, 1196] (by decide +kernel) (by decide +kernel)
set_option maxRecDepth 20000 in
theorem wl_wsL_law0_r49 : GoodIn lw_tbl wsL_law0_r49 := goodIn_r _ [1197, 1198, 1199, 1200, 1201, 1896, 1897, 1898, 1899, 1202, 1203, 1204, 1205, 1206, 1207, 1208, 1209, 1211, 28, 1212, 1213, 1214, 1215, 1216] (by decide +kernel) (by decide +kernel)
set_option maxRecDepth 20000 in
theorem wl_wsL_law0_r50 : GoodIn lw_tbl wsL_law0_r50 := goodIn_r _ [1217, 1219, 29, 1220, 1222, 1223, 1224, 1225, 1226, 1227, 1228, 1229, 1230, 1231, 1232, 1233, 113, 1234, 1236, 1237, 1238, 1239, 340, 1240] (by decide +kernel) (by decide +kernel)
set_option maxRecDepth 20000 in
theorem wl_wsL_law0_r51 : GoodIn lw_tbl wsL_law0_r51 := goodIn_r _ [1241, 1242, 1243, 1244, 1245, 1900, 1901, 1902, 1903, 1485, 1904, 1906, 85, 1907, 1908, 1909, 1910, 1911, 1912, 1913, 1914, 1915, 1916, 1917] (by decide +kernel) (by decide +kernel)
set_option maxRecDepth 20000 in
theorem wl_wsL_law0_r52 : GoodIn lw_tbl wsL_law0_r52 := goodIn_r _ [1918, 1919, 1920, 1921, 1246, 1247, 1248, 1249, 1250, 1251, 1252, 341, 1255, 1256, 1257, 1258, 1259, 1922, 1923, 1924, 1925, 613, 614, 615] (by decide +kernel) (by decide +kernel)
set_option maxRecDepth 20000 in
theorem wl_wsL_law0_r53 : GoodIn lw_tbl wsL_law0_r53 := goodIn_r _ [616, 617, 618, 619, 620, 621, 622, 623, 624, 1926, 1927, 1928, 1929, 1930, 1932, 86, 1933, 1934, 1936, 87, 1937, 1938, 1940, 88] (by decide +kernel) (by decide +kernel)
set_option maxRecDepth 20000 in
theorem wl_wsL_law0_r54 : GoodIn lw_tbl wsL_law0_r54 := goodIn_r _ [1941, 1942, 1944, 89, 1945, 1260, 1261, 1262, 1263, 1264, 1265, 1266, 339, 1267, 1268, 1946, 1947, 1948, 1949, 1950, 1951, 1952, 1270, 1271] (by decide +kernel) (by decide +kernel)
set_option maxRecDepth 20000 in
theorem wl_wsL_law0_r55 : GoodIn lw_tbl wsL_law0_r55 := goodIn_r _ [1272, 1273, 1274, 1275, 1276, 1953, 1954, 1955, 1956, 1277, 1278, 1279, 1280, 1281, 1282, 1283, 1284, 1957, 1958, 1959, 1960, 1285, 1286, 1287] (by decide +kernel) (by decide +kernel)
set_option maxRecDepth 20000 in
theorem wl_wsL_law0_r56 : GoodIn lw_tbl wsL_law0_r56 := goodIn_r _ [1288, 1289, 1290, 1291, 1292, 1293, 1294, 1295, 1296, 1298, 30, 1299, 1300, 1961, 1962, 1963, 1964, 1965, 1967, 90, 1968, 1301, 1302, 1303] (by decide +kernel) (by decide +kernel)
set_option maxRecDepth 20000 in
theorem wl_wsL_law0_r57 : GoodIn lw_tbl wsL_law0_r57 := goodIn_r _ [1304, 1305, 1306, 1307, 1969, 1970, 1971, 1972, 1308, 1309, 1310, 1311, 1312, 1313, 1314, 1973, 1974, 1975, 1976, 1315, 1316, 1317, 1318, 1319] (by decide +kernel) (by decide +kernel)
set_option maxRecDepth 20000 in
theorem wl_wsL_law0_r58 : GoodIn lw_tbl wsL_law0_r58 := goodIn_r _ [1320, 1321, 1322, 1323, 1324, 1325, 1977, 1978, 1979, 1980, 1326, 1327, 1328, 1329, 1330, 1331, 1332, 361, 1333, 1334, 1335, 1336, 1338, 1339] (by decide +kernel) (by decide +kernel)
set_option maxRecDepth 20000 in
theorem wl_wsL_law0_r59 : GoodIn lw_tbl wsL_law0_r59 := goodIn_r _ [1340, 1341, 360, 1981, 1982, 1983, 1984, 1489, 1985, 1986, 1987, 1988, 1990, 91, 1991, 625, 626, 627, 628, 629, 630, 631, 632, 1992] (by decide +kernel) (by decide +kernel)
set_option maxRecDepth 20000 in
theorem wl_wsL_law0_r60 : GoodIn lw_tbl wsL_law0_r60 := goodIn_r _ [1993, 1994, 1995, 1342, 1343, 1344, 1345, 1346, 1347, 1348, 357, 1349, 1350, 1351, 1352, 367, 1353, 1355, 31, 1356, 1357, 1359, 32, 1360] (by decide +kernel) (by decide +kernel)
set_option maxRecDepth 20000 in
theorem wl_wsL_law0_r61 : GoodIn lw_tbl wsL_law0_r61 := goodIn_r _ [368, 1361, 1362, 1364, 33, 1365, 1366, 1368, 34, 1369, 1371, 1372, 1373, 116, 1374, 2043, 1375, 1376, 1377, 1378, 1379, 2042, 1381, 1382] (by decide +kernel) (by decide +kernel)
set_option maxRecDepth 20000 in
theorem wl_wsL_law0_r62 : GoodIn lw_tbl wsL_law0_r62 := goodIn_r _ [117, 1383, 1384, 1385, 1386, 1387, 1389, 1390, 118, 1391, 1392, 1393, 119, 1394, 1395, 1396, 1397, 1398, 1399, 1400, 1401, 1402, 1403, 1404] (by decide +kernel) (by decide +kernel)
set_option maxRecDepth 20000 in
theorem wl_wsL_law0_r63 : GoodIn lw_tbl wsL_law0_r63 := goodIn_r _ [1405, 1407, 1409, 1411, 1413, 35, 1414, 1415, 696, 1996, 1997, 1998, 1999, 2000, 2002, 92, 2003, 2004, 2005, 2006, 633, 634, 635, 636] (by decide +kernel) (by decide +kernel)
set_option maxRecDepth 20000 in
theorem wl_wsL_law0_r64 : GoodIn lw_tbl wsL_law0_r64 := goodIn_r _ [363, 2007, 2008, 2009, 2010, 1418, 1419, 1420, 1421, 1422, 1423, 1424, 1425, 1426, 1427, 1428, 364, 140, 2011, 2012, 2013, 2014, 1492, 2015] (by decide +kernel) (by decide +kernel)
set_option maxRecDepth 20000 in
theorem wl_wsL_law0_r65 : GoodIn lw_tbl wsL_law0_r65 := goodIn_r _ [2016, 2017, 1429, 1430, 1431, 1432, 1433, 1434, 1435, 365, 359, 2018, 2019, 2020, 2021, 637, 638, 639, 640, 157, 641, 642, 643, 644] (by decide +kernel) (by decide +kernel)
set_option maxRecDepth 20000 in
theorem wl_wsL_law0_r66 : GoodIn lw_tbl wsL_law0_r66 := goodIn_r _ [1554, 1555, 1556, 1557, 645, 646, 647, 648, 2022, 2023, 2024, 2025, 1437, 1438, 1439, 1440, 1441, 1442, 1443, 2026, 2027, 2028, 2029, 1444] (by decide +kernel) (by decide +kernel)
set_option maxRecDepth 20000 in
theorem wl_wsL_law0_r67 : GoodIn lw_tbl wsL_law0_r67 := goodIn_r _ [1445, 1446, 1447, 1448, 1449, 1450, 1451, 2030, 2031, 2032, 2033, 2034, 653, 654, 655, 656, 657, 658, 659, 660, 661, 683, 684, 685] (by decide +kernel) (by decide +kernel)
set_option maxRecDepth 20000 in
theorem wl_wsL_law0_r68 : GoodIn lw_tbl wsL_law0_r68 := goodIn_r _ [686, 687, 688, 691, 692, 693, 694, 701, 702, 703, 704, 705, 2035, 2036, 2037, 2038] (by decide +kernel) (by decide +kernel)
set_option maxRecDepth 20000 in
theorem wl_wsX110 : GoodIn lw_tbl wsX110 := goodIn_r _ [398, 400, 402, 404, 406, 408, 410, 412, 414, 416, 418] (by decide +kernel) (by decide +kernel)
